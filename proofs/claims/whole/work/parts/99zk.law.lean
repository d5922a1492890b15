/-! law: the Model reads a CLAUSE -/
theorem pCl_y {q : Nat → Nat} {k : Nat} (ho : (pHd q k).1 = true) (bo : (pBd q (pHd q k).2.1 (pHd q k).2.2).1 = true) (y : q (pBd q (pHd q k).2.1 (pHd q k).2.2).2.1 = 59) : pCl q k = ((true, (pBd q (pHd q k).2.1 (pHd q k).2.2).2.1 + 1, (pBd q (pHd q k).2.1 (pHd q k).2.2).2.2), (pHd q k).2.2) := by
  unfold pCl
  rw [if_pos ho, if_pos bo, if_pos y]
theorem pCl_n {q : Nat → Nat} {k : Nat} (ho : (pHd q k).1 = true) (bo : (pBd q (pHd q k).2.1 (pHd q k).2.2).1 = true) (y : ¬ q (pBd q (pHd q k).2.1 (pHd q k).2.2).2.1 = 59) : pCl q k = ((false, (pBd q (pHd q k).2.1 (pHd q k).2.2).2.1, [], []), 0) := by
  unfold pCl
  rw [if_pos ho, if_pos bo, if_neg y]
theorem pCl_b {q : Nat → Nat} {k : Nat} (ho : (pHd q k).1 = true) (bo : (pBd q (pHd q k).2.1 (pHd q k).2.2).1 = false) : pCl q k = ((false, (pBd q (pHd q k).2.1 (pHd q k).2.2).2.1, [], []), 0) := by
  unfold pCl
  rw [if_pos ho, if_neg (by rw [bo]; exact Bool.false_ne_true)]
theorem pCl_h {q : Nat → Nat} {k : Nat} (ho : (pHd q k).1 = false) : pCl q k = ((false, (pHd q k).2.1, [], []), 0) := by
  unfold pCl
  rw [if_neg (by rw [ho]; exact Bool.false_ne_true)]
theorem y59U {hm : ma_H} {b : Nat → Nat} {n K : Nat} (X : MX hm b n) (N : TN b n K) {i : Nat} (hi : i < 8) {Q : ma_Q} {k : Nat} {F : List Int32} {U : Nat} {w : Int32} {M : List Int32} {hh : ma_H} (ho : (pHd (tq b n) k).1 = true) (bo : (pBd (tq b n) (pHd (tq b n) k).2.1 (pHd (tq b n) k).2.2).1 = true) (hu : (pHd (tq b n) k).2.2 = U) (hw : w = kd U) (eM : F ++ tms (pBd (tq b n) (pHd (tq b n) k).2.1 (pHd (tq b n) k).2.2).2.2.2 = M) (Y : MZ hm b n (pBd (tq b n) (pHd (tq b n) k).2.1 (pHd (tq b n) k).2.2).2.1 1 M hh) (l : M.length ≤ (pBd (tq b n) (pHd (tq b n) k).2.1 (pHd (tq b n) k).2.2).2.1) (kT : (pCl (tq b n) k).1.1 = true → ∀ h2, MZ (ma_set hm 99 (.inl (.int, 24, .inl (u99 (ai hm 99) i (pCl (tq b n) k).2 F.length (F ++ tms (pCl (tq b n) k).1.2.2.2).length)))) b n (pCl (tq b n) k).1.2.1 1 (F ++ tms (pCl (tq b n) k).1.2.2.2) h2 → (F ++ tms (pCl (tq b n) k).1.2.2.2).length ≤ (pCl (tq b n) k).1.2.1 → Q none h2) (kF : (pCl (tq b n) k).1.1 = false → ∀ h2 F2, MZ hm b n (pCl (tq b n) k).1.2.1 0 F2 h2 → Q none h2) : ma_X 180 [.ref 80, .int 59] hh (fun v h3 => At 190 Q 86 (0, 0) [some (.ref 80), some (.int (nI i)), some (.int 1), some (.int w), some (.int (nI F.length))] (v.toList ++ [.ref 80]) h3) := by
  have Y0 := Y
  obtain ⟨fr0, pe0, p0, o0, rfl, W0⟩ := Y.at
  refine z180 Y0 X (c := 59) (by decide) ?_
  by_cases y : tq b n (pBd (tq b n) (pHd (tq b n) k).2.1 (pHd (tq b n) k).2.2).2.1 = 59
  · have pe := pCl_y ho bo y
    rw [pe] at kT
    dsimp only at kT
    rw [if_pos y]
    first
      | (with_reducible show At 190 _ 90 _ _ _ _)
      | (refine go 60 (by decide) ?_; simp only [KX, KY, KZ, KW, KV, Nat.reduceAdd, Nat.reduceSub, Nat.reduceLeDiff, true_and, and_true, true_or, or_true, or_self, reduceCtorEq, if_true, if_false, not_false_eq_true, eq_self, c190, mt80, mt96, mt97, mtw, mtf, mtp, List.set_cons_succ, List.set_cons_zero, MFT, List.length_cons, List.length_nil, Nat.reduceLT, Nat.zero_add])
    first
      | (with_reducible show At 190 _ 90 _ _ _ _)
      | (refine go 60 (by decide) ?_; simp only [KX, KY, KZ, KW, KV, Nat.reduceAdd, Nat.reduceSub, Nat.reduceLeDiff, true_and, and_true, true_or, or_true, or_self, reduceCtorEq, if_true, if_false, not_false_eq_true, eq_self, c190, mt80, mt96, mt97, mtw, mtf, mtp, List.set_cons_succ, List.set_cons_zero, MFT, List.length_cons, List.length_nil, Nat.reduceLT, Nat.zero_add])
    first
      | (with_reducible show At 190 _ 90 _ _ _ _)
      | (refine go 60 (by decide) ?_; simp only [KX, KY, KZ, KW, KV, Nat.reduceAdd, Nat.reduceSub, Nat.reduceLeDiff, true_and, and_true, true_or, or_true, or_self, reduceCtorEq, if_true, if_false, not_false_eq_true, eq_self, c190, mt80, mt96, mt97, mtw, mtf, mtp, List.set_cons_succ, List.set_cons_zero, MFT, List.length_cons, List.length_nil, Nat.reduceLT, Nat.zero_add])
    refine y190U X hi (U := U) (F0 := F.length) Y0 hw (fun h2 Y2 => ?_)
    refine kT rfl h2 ?_ ?_
    · rw [eM]; rw [← hu] at Y2; exact Y2
    · rw [eM]; omega
  · have pe := pCl_n ho bo y
    rw [pe] at kF
    dsimp only at kF
    rw [if_neg y]
    first
      | (with_reducible show At 190 _ 90 _ _ _ _)
      | (refine go 60 (by decide) ?_; simp only [KX, KY, KZ, KW, KV, Nat.reduceAdd, Nat.reduceSub, Nat.reduceLeDiff, true_and, and_true, true_or, or_true, or_self, reduceCtorEq, if_true, if_false, not_false_eq_true, eq_self, c190, mt80, mt96, mt97, mtw, mtf, mtp, List.set_cons_succ, List.set_cons_zero, MFT, List.length_cons, List.length_nil, Nat.reduceLT, Nat.zero_add])
    first
      | (with_reducible show At 190 _ 90 _ _ _ _)
      | (refine go 60 (by decide) ?_; simp only [KX, KY, KZ, KW, KV, Nat.reduceAdd, Nat.reduceSub, Nat.reduceLeDiff, true_and, and_true, true_or, or_true, or_self, reduceCtorEq, if_true, if_false, not_false_eq_true, eq_self, c190, mt80, mt96, mt97, mtw, mtf, mtp, List.set_cons_succ, List.set_cons_zero, MFT, List.length_cons, List.length_nil, Nat.reduceLT, Nat.zero_add])
    first
      | (with_reducible show At 190 _ 90 _ _ _ _)
      | (refine go 60 (by decide) ?_; simp only [KX, KY, KZ, KW, KV, Nat.reduceAdd, Nat.reduceSub, Nat.reduceLeDiff, true_and, and_true, true_or, or_true, or_self, reduceCtorEq, if_true, if_false, not_false_eq_true, eq_self, c190, mt80, mt96, mt97, mtw, mtf, mtp, List.set_cons_succ, List.set_cons_zero, MFT, List.length_cons, List.length_nil, Nat.reduceLT, Nat.zero_add])
    first
      | (with_reducible show At 190 _ 90 _ _ _ _)
      | (refine go 60 (by decide) ?_; simp only [KX, KY, KZ, KW, KV, Nat.reduceAdd, Nat.reduceSub, Nat.reduceLeDiff, true_and, and_true, true_or, or_true, or_self, reduceCtorEq, if_true, if_false, not_false_eq_true, eq_self, c190, mt80, mt96, mt97, mtw, mtf, mtp, List.set_cons_succ, List.set_cons_zero, MFT, List.length_cons, List.length_nil, Nat.reduceLT, Nat.zero_add])
    exact y190F Y0 (fun h2 F2 Y2 => kF rfl h2 F2 Y2)
theorem y59P {hm : ma_H} {b : Nat → Nat} {n K : Nat} (X : MX hm b n) (N : TN b n K) {i : Nat} (hi : i < 8) {Q : ma_Q} {k : Nat} {F : List Int32} {U : Nat} {w : Int32} {M : List Int32} {hh : ma_H} (ho : (pHd (tq b n) k).1 = true) (bo : (pBd (tq b n) (pHd (tq b n) k).2.1 (pHd (tq b n) k).2.2).1 = true) (hu : (pHd (tq b n) k).2.2 = U) (hw : U = 6) (eM : F ++ tms (pBd (tq b n) (pHd (tq b n) k).2.1 (pHd (tq b n) k).2.2).2.2.2 = M) (Y : MZ hm b n (pBd (tq b n) (pHd (tq b n) k).2.1 (pHd (tq b n) k).2.2).2.1 1 M hh) (l : M.length ≤ (pBd (tq b n) (pHd (tq b n) k).2.1 (pHd (tq b n) k).2.2).2.1) (kT : (pCl (tq b n) k).1.1 = true → ∀ h2, MZ (ma_set hm 99 (.inl (.int, 24, .inl (u99 (ai hm 99) i (pCl (tq b n) k).2 F.length (F ++ tms (pCl (tq b n) k).1.2.2.2).length)))) b n (pCl (tq b n) k).1.2.1 1 (F ++ tms (pCl (tq b n) k).1.2.2.2) h2 → (F ++ tms (pCl (tq b n) k).1.2.2.2).length ≤ (pCl (tq b n) k).1.2.1 → Q none h2) (kF : (pCl (tq b n) k).1.1 = false → ∀ h2 F2, MZ hm b n (pCl (tq b n) k).1.2.1 0 F2 h2 → Q none h2) : ma_X 180 [.ref 80, .int 59] hh (fun v h3 => At 190 Q 86 (0, 0) [some (.ref 80), some (.int (nI i)), some (.int 0), some (.int w), some (.int (nI F.length))] (v.toList ++ [.ref 80]) h3) := by
  have Y0 := Y
  obtain ⟨fr0, pe0, p0, o0, rfl, W0⟩ := Y.at
  refine z180 Y0 X (c := 59) (by decide) ?_
  by_cases y : tq b n (pBd (tq b n) (pHd (tq b n) k).2.1 (pHd (tq b n) k).2.2).2.1 = 59
  · have pe := pCl_y ho bo y
    rw [pe] at kT
    dsimp only at kT
    rw [if_pos y]
    first
      | (with_reducible show At 190 _ 90 _ _ _ _)
      | (refine go 60 (by decide) ?_; simp only [KX, KY, KZ, KW, KV, Nat.reduceAdd, Nat.reduceSub, Nat.reduceLeDiff, true_and, and_true, true_or, or_true, or_self, reduceCtorEq, if_true, if_false, not_false_eq_true, eq_self, c190, mt80, mt96, mt97, mtw, mtf, mtp, List.set_cons_succ, List.set_cons_zero, MFT, List.length_cons, List.length_nil, Nat.reduceLT, Nat.zero_add])
    first
      | (with_reducible show At 190 _ 90 _ _ _ _)
      | (refine go 60 (by decide) ?_; simp only [KX, KY, KZ, KW, KV, Nat.reduceAdd, Nat.reduceSub, Nat.reduceLeDiff, true_and, and_true, true_or, or_true, or_self, reduceCtorEq, if_true, if_false, not_false_eq_true, eq_self, c190, mt80, mt96, mt97, mtw, mtf, mtp, List.set_cons_succ, List.set_cons_zero, MFT, List.length_cons, List.length_nil, Nat.reduceLT, Nat.zero_add])
    first
      | (with_reducible show At 190 _ 90 _ _ _ _)
      | (refine go 60 (by decide) ?_; simp only [KX, KY, KZ, KW, KV, Nat.reduceAdd, Nat.reduceSub, Nat.reduceLeDiff, true_and, and_true, true_or, or_true, or_self, reduceCtorEq, if_true, if_false, not_false_eq_true, eq_self, c190, mt80, mt96, mt97, mtw, mtf, mtp, List.set_cons_succ, List.set_cons_zero, MFT, List.length_cons, List.length_nil, Nat.reduceLT, Nat.zero_add])
    refine y190P X hi (U := U) (F0 := F.length) Y0 hw (fun h2 Y2 => ?_)
    refine kT rfl h2 ?_ ?_
    · rw [eM]; rw [← hu] at Y2; exact Y2
    · rw [eM]; omega
  · have pe := pCl_n ho bo y
    rw [pe] at kF
    dsimp only at kF
    rw [if_neg y]
    first
      | (with_reducible show At 190 _ 90 _ _ _ _)
      | (refine go 60 (by decide) ?_; simp only [KX, KY, KZ, KW, KV, Nat.reduceAdd, Nat.reduceSub, Nat.reduceLeDiff, true_and, and_true, true_or, or_true, or_self, reduceCtorEq, if_true, if_false, not_false_eq_true, eq_self, c190, mt80, mt96, mt97, mtw, mtf, mtp, List.set_cons_succ, List.set_cons_zero, MFT, List.length_cons, List.length_nil, Nat.reduceLT, Nat.zero_add])
    first
      | (with_reducible show At 190 _ 90 _ _ _ _)
      | (refine go 60 (by decide) ?_; simp only [KX, KY, KZ, KW, KV, Nat.reduceAdd, Nat.reduceSub, Nat.reduceLeDiff, true_and, and_true, true_or, or_true, or_self, reduceCtorEq, if_true, if_false, not_false_eq_true, eq_self, c190, mt80, mt96, mt97, mtw, mtf, mtp, List.set_cons_succ, List.set_cons_zero, MFT, List.length_cons, List.length_nil, Nat.reduceLT, Nat.zero_add])
    first
      | (with_reducible show At 190 _ 90 _ _ _ _)
      | (refine go 60 (by decide) ?_; simp only [KX, KY, KZ, KW, KV, Nat.reduceAdd, Nat.reduceSub, Nat.reduceLeDiff, true_and, and_true, true_or, or_true, or_self, reduceCtorEq, if_true, if_false, not_false_eq_true, eq_self, c190, mt80, mt96, mt97, mtw, mtf, mtp, List.set_cons_succ, List.set_cons_zero, MFT, List.length_cons, List.length_nil, Nat.reduceLT, Nat.zero_add])
    first
      | (with_reducible show At 190 _ 90 _ _ _ _)
      | (refine go 60 (by decide) ?_; simp only [KX, KY, KZ, KW, KV, Nat.reduceAdd, Nat.reduceSub, Nat.reduceLeDiff, true_and, and_true, true_or, or_true, or_self, reduceCtorEq, if_true, if_false, not_false_eq_true, eq_self, c190, mt80, mt96, mt97, mtw, mtf, mtp, List.set_cons_succ, List.set_cons_zero, MFT, List.length_cons, List.length_nil, Nat.reduceLT, Nat.zero_add])
    exact y190F Y0 (fun h2 F2 Y2 => kF rfl h2 F2 Y2)
theorem yIFU {hm : ma_H} {b : Nat → Nat} {n K : Nat} (X : MX hm b n) (N : TN b n K) {i : Nat} (hi : i < 8) {Q : ma_Q} {k : Nat} {F : List Int32} {U : Nat} {w : Int32} {hh : ma_H} (hk : (pHd (tq b n) k).2.1 ≤ K) (ho : (pHd (tq b n) k).1 = true) (hu : (pHd (tq b n) k).2.2 = U) (hw : w = kd U) (hU : U < 6) (Y : MZ hm b n (pHd (tq b n) k).2.1 1 F hh) (l : F.length ≤ (pHd (tq b n) k).2.1) (kT : (pCl (tq b n) k).1.1 = true → ∀ h2, MZ (ma_set hm 99 (.inl (.int, 24, .inl (u99 (ai hm 99) i (pCl (tq b n) k).2 F.length (F ++ tms (pCl (tq b n) k).1.2.2.2).length)))) b n (pCl (tq b n) k).1.2.1 1 (F ++ tms (pCl (tq b n) k).1.2.2.2) h2 → (F ++ tms (pCl (tq b n) k).1.2.2.2).length ≤ (pCl (tq b n) k).1.2.1 → Q none h2) (kF : (pCl (tq b n) k).1.1 = false → ∀ h2 F2, MZ hm b n (pCl (tq b n) k).1.2.1 0 F2 h2 → Q none h2) : ma_X 179 [.ref 80, .long (lN 249)] hh (fun v h3 => At 190 Q 60 (0, 0) [some (.ref 80), some (.int (nI i)), some (.int 1), some (.int w), some (.int (nI F.length))] (v.toList ++ []) h3) := by
  have Y0 := Y
  obtain ⟨fr0, pe0, p0, o0, rfl, W0⟩ := Y.at
  refine z179 Y0 X (a := 2) (by decide) ?_
  by_cases y : tq b n (pHd (tq b n) k).2.1 = 259
  · rw [if_pos (show tq b n (pHd (tq b n) k).2.1 = 257 + 2 from y)]
    refine go 60 (by decide) ?_
    simp only [KX, KY, KZ, KW, KV, Nat.reduceAdd, Nat.reduceSub, Nat.reduceLeDiff, true_and, and_true, true_or, or_true, or_self, reduceCtorEq, if_true, if_false, not_false_eq_true, eq_self, c190, mt80, mt96, mt97, mtw, mtf, mtp, List.set_cons_succ, List.set_cons_zero, MFT, List.length_cons, List.length_nil, Nat.reduceLT, Nat.zero_add]
    have k1 := N.lt hk (by omega)
    have eb : (pBd (tq b n) (pHd (tq b n) k).2.1 (pHd (tq b n) k).2.2) = pC0 (tq b n) ((pHd (tq b n) k).2.1 + 1) := by unfold pBd; rw [if_pos (Or.inr (by omega)), if_pos y]
    refine z178 Y0 X (fun h2 Y2 => ?_)
    have Y2b := Y2
    obtain ⟨fr2, pe2, p2, o2, rfl, W2⟩ := Y2.at
    refine go 60 (by decide) ?_
    simp only [KX, KY, KZ, KW, KV, Nat.reduceAdd, Nat.reduceSub, Nat.reduceLeDiff, true_and, and_true, true_or, or_true, or_self, reduceCtorEq, if_true, if_false, not_false_eq_true, eq_self, c190, mt80, mt96, mt97, mtw, mtf, mtp, List.set_cons_succ, List.set_cons_zero, MFT, List.length_cons, List.length_nil, Nat.reduceLT, Nat.zero_add]
    refine y188 X N Y2b k1 (by omega) (fun ok h4 Y4 l4 => ?_) (fun ok h4 F4 Y4 => ?_)
    · have Y5 := Y4
      obtain ⟨fr4, pe4, p4, o4, rfl, W4⟩ := Y4.at
      refine go 60 (by decide) ?_
      simp only [KX, KY, KZ, KW, KV, Nat.reduceAdd, Nat.reduceSub, Nat.reduceLeDiff, true_and, and_true, true_or, or_true, or_self, reduceCtorEq, if_true, if_false, not_false_eq_true, eq_self, c190, mt80, mt96, mt97, mtw, mtf, mtp, List.set_cons_succ, List.set_cons_zero, MFT, List.length_cons, List.length_nil, Nat.reduceLT, Nat.zero_add]
      refine y59U X N hi (F := F) (U := U) ho (by rw [eb]; exact ok) hu hw (by rw [eb]) (by rw [eb]; exact Y5) (by rw [eb]; exact l4) kT kF
    · have Y5 := Y4
      obtain ⟨fr4, pe4, p4, o4, rfl, W4⟩ := Y4.at
      have pe := pCl_b ho (by rw [eb]; exact ok)
      rw [eb] at pe
      rw [pe] at kF
      dsimp only at kF
      first
        | (with_reducible show At 190 _ 90 _ _ _ _)
        | (refine go 60 (by decide) ?_; simp only [KX, KY, KZ, KW, KV, Nat.reduceAdd, Nat.reduceSub, Nat.reduceLeDiff, true_and, and_true, true_or, or_true, or_self, reduceCtorEq, if_true, if_false, not_false_eq_true, eq_self, c190, mt80, mt96, mt97, mtw, mtf, mtp, List.set_cons_succ, List.set_cons_zero, MFT, List.length_cons, List.length_nil, Nat.reduceLT, Nat.zero_add])
      first
        | (with_reducible show At 190 _ 90 _ _ _ _)
        | (refine go 60 (by decide) ?_; simp only [KX, KY, KZ, KW, KV, Nat.reduceAdd, Nat.reduceSub, Nat.reduceLeDiff, true_and, and_true, true_or, or_true, or_self, reduceCtorEq, if_true, if_false, not_false_eq_true, eq_self, c190, mt80, mt96, mt97, mtw, mtf, mtp, List.set_cons_succ, List.set_cons_zero, MFT, List.length_cons, List.length_nil, Nat.reduceLT, Nat.zero_add])
      first
        | (with_reducible show At 190 _ 90 _ _ _ _)
        | (refine go 60 (by decide) ?_; simp only [KX, KY, KZ, KW, KV, Nat.reduceAdd, Nat.reduceSub, Nat.reduceLeDiff, true_and, and_true, true_or, or_true, or_self, reduceCtorEq, if_true, if_false, not_false_eq_true, eq_self, c190, mt80, mt96, mt97, mtw, mtf, mtp, List.set_cons_succ, List.set_cons_zero, MFT, List.length_cons, List.length_nil, Nat.reduceLT, Nat.zero_add])
      first
        | (with_reducible show At 190 _ 90 _ _ _ _)
        | (refine go 60 (by decide) ?_; simp only [KX, KY, KZ, KW, KV, Nat.reduceAdd, Nat.reduceSub, Nat.reduceLeDiff, true_and, and_true, true_or, or_true, or_self, reduceCtorEq, if_true, if_false, not_false_eq_true, eq_self, c190, mt80, mt96, mt97, mtw, mtf, mtp, List.set_cons_succ, List.set_cons_zero, MFT, List.length_cons, List.length_nil, Nat.reduceLT, Nat.zero_add])
      exact y190F Y5 (fun h2 F2 Y2 => kF rfl h2 F2 Y2)
  · rw [if_neg (show ¬ tq b n (pHd (tq b n) k).2.1 = 257 + 2 from y)]
    refine go 60 (by decide) ?_
    simp only [KX, KY, KZ, KW, KV, Nat.reduceAdd, Nat.reduceSub, Nat.reduceLeDiff, true_and, and_true, true_or, or_true, or_self, reduceCtorEq, if_true, if_false, not_false_eq_true, eq_self, c190, mt80, mt96, mt97, mtw, mtf, mtp, List.set_cons_succ, List.set_cons_zero, MFT, List.length_cons, List.length_nil, Nat.reduceLT, Nat.zero_add]
    refine go 60 (by decide) ?_
    simp only [KX, KY, KZ, KW, KV, Nat.reduceAdd, Nat.reduceSub, Nat.reduceLeDiff, true_and, and_true, true_or, or_true, or_self, reduceCtorEq, if_true, if_false, not_false_eq_true, eq_self, c190, mt80, mt96, mt97, mtw, mtf, mtp, List.set_cons_succ, List.set_cons_zero, MFT, List.length_cons, List.length_nil, Nat.reduceLT, Nat.zero_add]
    by_cases y5 : tq b n (pHd (tq b n) k).2.1 = 59
    · have eb : (pBd (tq b n) (pHd (tq b n) k).2.1 (pHd (tq b n) k).2.2) = (true, (pHd (tq b n) k).2.1, [], []) := by unfold pBd; rw [hu, if_neg (fun z => z.elim (fun w => by omega) (fun w => w y5))]
      refine y59U X N hi (F := F) (U := U) (M := F) ho (by rw [eb]) hu hw (by rw [eb]; exact List.append_nil F) (by rw [eb]; exact Y0) (by rw [eb]; exact Nat.le_trans l (Nat.le_refl _)) kT kF
    · have eb : (pBd (tq b n) (pHd (tq b n) k).2.1 (pHd (tq b n) k).2.2) = (false, (pHd (tq b n) k).2.1, [], []) := by unfold pBd; rw [if_pos (Or.inr y5), if_neg y]
      have pe := pCl_b ho (by rw [eb])
      rw [eb] at pe
      rw [pe] at kF
      dsimp only at kF
      refine z180 Y0 X (c := 59) (by decide) ?_
      rw [if_neg y5]
      first
        | (with_reducible show At 190 _ 90 _ _ _ _)
        | (refine go 60 (by decide) ?_; simp only [KX, KY, KZ, KW, KV, Nat.reduceAdd, Nat.reduceSub, Nat.reduceLeDiff, true_and, and_true, true_or, or_true, or_self, reduceCtorEq, if_true, if_false, not_false_eq_true, eq_self, c190, mt80, mt96, mt97, mtw, mtf, mtp, List.set_cons_succ, List.set_cons_zero, MFT, List.length_cons, List.length_nil, Nat.reduceLT, Nat.zero_add])
      first
        | (with_reducible show At 190 _ 90 _ _ _ _)
        | (refine go 60 (by decide) ?_; simp only [KX, KY, KZ, KW, KV, Nat.reduceAdd, Nat.reduceSub, Nat.reduceLeDiff, true_and, and_true, true_or, or_true, or_self, reduceCtorEq, if_true, if_false, not_false_eq_true, eq_self, c190, mt80, mt96, mt97, mtw, mtf, mtp, List.set_cons_succ, List.set_cons_zero, MFT, List.length_cons, List.length_nil, Nat.reduceLT, Nat.zero_add])
      first
        | (with_reducible show At 190 _ 90 _ _ _ _)
        | (refine go 60 (by decide) ?_; simp only [KX, KY, KZ, KW, KV, Nat.reduceAdd, Nat.reduceSub, Nat.reduceLeDiff, true_and, and_true, true_or, or_true, or_self, reduceCtorEq, if_true, if_false, not_false_eq_true, eq_self, c190, mt80, mt96, mt97, mtw, mtf, mtp, List.set_cons_succ, List.set_cons_zero, MFT, List.length_cons, List.length_nil, Nat.reduceLT, Nat.zero_add])
      first
        | (with_reducible show At 190 _ 90 _ _ _ _)
        | (refine go 60 (by decide) ?_; simp only [KX, KY, KZ, KW, KV, Nat.reduceAdd, Nat.reduceSub, Nat.reduceLeDiff, true_and, and_true, true_or, or_true, or_self, reduceCtorEq, if_true, if_false, not_false_eq_true, eq_self, c190, mt80, mt96, mt97, mtw, mtf, mtp, List.set_cons_succ, List.set_cons_zero, MFT, List.length_cons, List.length_nil, Nat.reduceLT, Nat.zero_add])
      exact y190F Y0 (fun h2 F2 Y2 => kF rfl h2 F2 Y2)
theorem yIFP {hm : ma_H} {b : Nat → Nat} {n K : Nat} (X : MX hm b n) (N : TN b n K) {i : Nat} (hi : i < 8) {Q : ma_Q} {k : Nat} {F : List Int32} {U : Nat} {w : Int32} {hh : ma_H} (hk : (pHd (tq b n) k).2.1 ≤ K) (ho : (pHd (tq b n) k).1 = true) (hu : (pHd (tq b n) k).2.2 = U) (hw : U = 6) (hU : U = 6) (Y : MZ hm b n (pHd (tq b n) k).2.1 1 F hh) (l : F.length ≤ (pHd (tq b n) k).2.1) (kT : (pCl (tq b n) k).1.1 = true → ∀ h2, MZ (ma_set hm 99 (.inl (.int, 24, .inl (u99 (ai hm 99) i (pCl (tq b n) k).2 F.length (F ++ tms (pCl (tq b n) k).1.2.2.2).length)))) b n (pCl (tq b n) k).1.2.1 1 (F ++ tms (pCl (tq b n) k).1.2.2.2) h2 → (F ++ tms (pCl (tq b n) k).1.2.2.2).length ≤ (pCl (tq b n) k).1.2.1 → Q none h2) (kF : (pCl (tq b n) k).1.1 = false → ∀ h2 F2, MZ hm b n (pCl (tq b n) k).1.2.1 0 F2 h2 → Q none h2) : ma_X 179 [.ref 80, .long (lN 249)] hh (fun v h3 => At 190 Q 60 (0, 0) [some (.ref 80), some (.int (nI i)), some (.int 0), some (.int w), some (.int (nI F.length))] (v.toList ++ []) h3) := by
  have Y0 := Y
  obtain ⟨fr0, pe0, p0, o0, rfl, W0⟩ := Y.at
  refine z179 Y0 X (a := 2) (by decide) ?_
  by_cases y : tq b n (pHd (tq b n) k).2.1 = 259
  · rw [if_pos (show tq b n (pHd (tq b n) k).2.1 = 257 + 2 from y)]
    refine go 60 (by decide) ?_
    simp only [KX, KY, KZ, KW, KV, Nat.reduceAdd, Nat.reduceSub, Nat.reduceLeDiff, true_and, and_true, true_or, or_true, or_self, reduceCtorEq, if_true, if_false, not_false_eq_true, eq_self, c190, mt80, mt96, mt97, mtw, mtf, mtp, List.set_cons_succ, List.set_cons_zero, MFT, List.length_cons, List.length_nil, Nat.reduceLT, Nat.zero_add]
    have k1 := N.lt hk (by omega)
    have eb : (pBd (tq b n) (pHd (tq b n) k).2.1 (pHd (tq b n) k).2.2) = pC0 (tq b n) ((pHd (tq b n) k).2.1 + 1) := by unfold pBd; rw [if_pos (Or.inl (hu.trans hU)), if_pos y]
    refine z178 Y0 X (fun h2 Y2 => ?_)
    have Y2b := Y2
    obtain ⟨fr2, pe2, p2, o2, rfl, W2⟩ := Y2.at
    refine go 60 (by decide) ?_
    simp only [KX, KY, KZ, KW, KV, Nat.reduceAdd, Nat.reduceSub, Nat.reduceLeDiff, true_and, and_true, true_or, or_true, or_self, reduceCtorEq, if_true, if_false, not_false_eq_true, eq_self, c190, mt80, mt96, mt97, mtw, mtf, mtp, List.set_cons_succ, List.set_cons_zero, MFT, List.length_cons, List.length_nil, Nat.reduceLT, Nat.zero_add]
    refine y188 X N Y2b k1 (by omega) (fun ok h4 Y4 l4 => ?_) (fun ok h4 F4 Y4 => ?_)
    · have Y5 := Y4
      obtain ⟨fr4, pe4, p4, o4, rfl, W4⟩ := Y4.at
      refine go 60 (by decide) ?_
      simp only [KX, KY, KZ, KW, KV, Nat.reduceAdd, Nat.reduceSub, Nat.reduceLeDiff, true_and, and_true, true_or, or_true, or_self, reduceCtorEq, if_true, if_false, not_false_eq_true, eq_self, c190, mt80, mt96, mt97, mtw, mtf, mtp, List.set_cons_succ, List.set_cons_zero, MFT, List.length_cons, List.length_nil, Nat.reduceLT, Nat.zero_add]
      refine y59P X N hi (F := F) (U := U) ho (by rw [eb]; exact ok) hu hw (by rw [eb]) (by rw [eb]; exact Y5) (by rw [eb]; exact l4) kT kF
    · have Y5 := Y4
      obtain ⟨fr4, pe4, p4, o4, rfl, W4⟩ := Y4.at
      have pe := pCl_b ho (by rw [eb]; exact ok)
      rw [eb] at pe
      rw [pe] at kF
      dsimp only at kF
      first
        | (with_reducible show At 190 _ 90 _ _ _ _)
        | (refine go 60 (by decide) ?_; simp only [KX, KY, KZ, KW, KV, Nat.reduceAdd, Nat.reduceSub, Nat.reduceLeDiff, true_and, and_true, true_or, or_true, or_self, reduceCtorEq, if_true, if_false, not_false_eq_true, eq_self, c190, mt80, mt96, mt97, mtw, mtf, mtp, List.set_cons_succ, List.set_cons_zero, MFT, List.length_cons, List.length_nil, Nat.reduceLT, Nat.zero_add])
      first
        | (with_reducible show At 190 _ 90 _ _ _ _)
        | (refine go 60 (by decide) ?_; simp only [KX, KY, KZ, KW, KV, Nat.reduceAdd, Nat.reduceSub, Nat.reduceLeDiff, true_and, and_true, true_or, or_true, or_self, reduceCtorEq, if_true, if_false, not_false_eq_true, eq_self, c190, mt80, mt96, mt97, mtw, mtf, mtp, List.set_cons_succ, List.set_cons_zero, MFT, List.length_cons, List.length_nil, Nat.reduceLT, Nat.zero_add])
      first
        | (with_reducible show At 190 _ 90 _ _ _ _)
        | (refine go 60 (by decide) ?_; simp only [KX, KY, KZ, KW, KV, Nat.reduceAdd, Nat.reduceSub, Nat.reduceLeDiff, true_and, and_true, true_or, or_true, or_self, reduceCtorEq, if_true, if_false, not_false_eq_true, eq_self, c190, mt80, mt96, mt97, mtw, mtf, mtp, List.set_cons_succ, List.set_cons_zero, MFT, List.length_cons, List.length_nil, Nat.reduceLT, Nat.zero_add])
      first
        | (with_reducible show At 190 _ 90 _ _ _ _)
        | (refine go 60 (by decide) ?_; simp only [KX, KY, KZ, KW, KV, Nat.reduceAdd, Nat.reduceSub, Nat.reduceLeDiff, true_and, and_true, true_or, or_true, or_self, reduceCtorEq, if_true, if_false, not_false_eq_true, eq_self, c190, mt80, mt96, mt97, mtw, mtf, mtp, List.set_cons_succ, List.set_cons_zero, MFT, List.length_cons, List.length_nil, Nat.reduceLT, Nat.zero_add])
      exact y190F Y5 (fun h2 F2 Y2 => kF rfl h2 F2 Y2)
  · rw [if_neg (show ¬ tq b n (pHd (tq b n) k).2.1 = 257 + 2 from y)]
    have eb : (pBd (tq b n) (pHd (tq b n) k).2.1 (pHd (tq b n) k).2.2) = (false, (pHd (tq b n) k).2.1, [], []) := by unfold pBd; rw [if_pos (Or.inl (hu.trans hU)), if_neg y]
    have pe := pCl_b ho (by rw [eb])
    rw [eb] at pe
    rw [pe] at kF
    dsimp only at kF
    first
      | (with_reducible show At 190 _ 90 _ _ _ _)
      | (refine go 60 (by decide) ?_; simp only [KX, KY, KZ, KW, KV, Nat.reduceAdd, Nat.reduceSub, Nat.reduceLeDiff, true_and, and_true, true_or, or_true, or_self, reduceCtorEq, if_true, if_false, not_false_eq_true, eq_self, c190, mt80, mt96, mt97, mtw, mtf, mtp, List.set_cons_succ, List.set_cons_zero, MFT, List.length_cons, List.length_nil, Nat.reduceLT, Nat.zero_add])
    first
      | (with_reducible show At 190 _ 90 _ _ _ _)
      | (refine go 60 (by decide) ?_; simp only [KX, KY, KZ, KW, KV, Nat.reduceAdd, Nat.reduceSub, Nat.reduceLeDiff, true_and, and_true, true_or, or_true, or_self, reduceCtorEq, if_true, if_false, not_false_eq_true, eq_self, c190, mt80, mt96, mt97, mtw, mtf, mtp, List.set_cons_succ, List.set_cons_zero, MFT, List.length_cons, List.length_nil, Nat.reduceLT, Nat.zero_add])
    first
      | (with_reducible show At 190 _ 90 _ _ _ _)
      | (refine go 60 (by decide) ?_; simp only [KX, KY, KZ, KW, KV, Nat.reduceAdd, Nat.reduceSub, Nat.reduceLeDiff, true_and, and_true, true_or, or_true, or_self, reduceCtorEq, if_true, if_false, not_false_eq_true, eq_self, c190, mt80, mt96, mt97, mtw, mtf, mtp, List.set_cons_succ, List.set_cons_zero, MFT, List.length_cons, List.length_nil, Nat.reduceLT, Nat.zero_add])
    first
      | (with_reducible show At 190 _ 90 _ _ _ _)
      | (refine go 60 (by decide) ?_; simp only [KX, KY, KZ, KW, KV, Nat.reduceAdd, Nat.reduceSub, Nat.reduceLeDiff, true_and, and_true, true_or, or_true, or_self, reduceCtorEq, if_true, if_false, not_false_eq_true, eq_self, c190, mt80, mt96, mt97, mtw, mtf, mtp, List.set_cons_succ, List.set_cons_zero, MFT, List.length_cons, List.length_nil, Nat.reduceLT, Nat.zero_add])
    first
      | (with_reducible show At 190 _ 90 _ _ _ _)
      | (refine go 60 (by decide) ?_; simp only [KX, KY, KZ, KW, KV, Nat.reduceAdd, Nat.reduceSub, Nat.reduceLeDiff, true_and, and_true, true_or, or_true, or_self, reduceCtorEq, if_true, if_false, not_false_eq_true, eq_self, c190, mt80, mt96, mt97, mtw, mtf, mtp, List.set_cons_succ, List.set_cons_zero, MFT, List.length_cons, List.length_nil, Nat.reduceLT, Nat.zero_add])
    first
      | (with_reducible show At 190 _ 90 _ _ _ _)
      | (refine go 60 (by decide) ?_; simp only [KX, KY, KZ, KW, KV, Nat.reduceAdd, Nat.reduceSub, Nat.reduceLeDiff, true_and, and_true, true_or, or_true, or_self, reduceCtorEq, if_true, if_false, not_false_eq_true, eq_self, c190, mt80, mt96, mt97, mtw, mtf, mtp, List.set_cons_succ, List.set_cons_zero, MFT, List.length_cons, List.length_nil, Nat.reduceLT, Nat.zero_add])
    exact y190F (W0 0 p0 o0) (fun h2 F2 Y2 => kF rfl h2 F2 Y2)
theorem y190 {hm : ma_H} {b : Nat → Nat} {n K : Nat} (X : MX hm b n) (N : TN b n K) {i : Nat} (hi : i < 8) {Q : ma_Q} {k : Nat} {F : List Int32} {h : ma_H} (Y : MZ hm b n k 1 F h) (hk : k ≤ K) (l : F.length ≤ k) (kT : (pCl (tq b n) k).1.1 = true → ∀ h2, MZ (ma_set hm 99 (.inl (.int, 24, .inl (u99 (ai hm 99) i (pCl (tq b n) k).2 F.length (F ++ tms (pCl (tq b n) k).1.2.2.2).length)))) b n (pCl (tq b n) k).1.2.1 1 (F ++ tms (pCl (tq b n) k).1.2.2.2) h2 → (F ++ tms (pCl (tq b n) k).1.2.2.2).length ≤ (pCl (tq b n) k).1.2.1 → Q none h2) (kF : (pCl (tq b n) k).1.1 = false → ∀ h2 F2, MZ hm b n (pCl (tq b n) k).1.2.1 0 F2 h2 → Q none h2) : ma_X 190 [.ref 80, .int (nI i)] h Q := by
  have Y0 := Y
  obtain ⟨fr0, pe0, p0, o0, rfl, W0⟩ := Y.at
  refine ma_enter (m := 190) (Or.inl (by decide)) (by show 2 ≤ mt_n 190; decide +kernel) ?_
  show At 190 Q 0 (mt_c 190) [some (.ref 80), some (.int (nI i)), none, none, none] [] (MT hm b n k 1 (nI F.length) p0 o0 fr0 pe0)
  refine go 60 (by decide) ?_
  simp only [KX, KY, KZ, KW, KV, Nat.reduceAdd, Nat.reduceSub, Nat.reduceLeDiff, true_and, and_true, true_or, or_true, or_self, reduceCtorEq, if_true, if_false, not_false_eq_true, eq_self, c190, mt80, mt96, mt97, mtw, mtf, mtp, List.set_cons_succ, List.set_cons_zero, MFT, List.length_cons, List.length_nil, Nat.reduceLT, Nat.zero_add]
  have i8 : nI i < (8 : Int32) := nI_lt (b := 8) hi (by decide)
  refine z179 Y0 X (a := 0) (by decide) ?_
  obtain ⟨a1, a2, a3⟩ := pHd_ok N.end_ hk
  by_cases y : tq b n k = 257
  · rw [if_pos (show tq b n k = 257 + 0 from y)]
    refine go 60 (by decide) ?_
    simp only [KX, KY, KZ, KW, KV, Nat.reduceAdd, Nat.reduceSub, Nat.reduceLeDiff, true_and, and_true, true_or, or_true, or_self, reduceCtorEq, if_true, if_false, not_false_eq_true, eq_self, c190, mt80, mt96, mt97, mtw, mtf, mtp, List.set_cons_succ, List.set_cons_zero, MFT, List.length_cons, List.length_nil, Nat.reduceLT, Nat.zero_add]
    rw [if_pos i8]
    refine go 60 (by decide) ?_
    simp only [KX, KY, KZ, KW, KV, Nat.reduceAdd, Nat.reduceSub, Nat.reduceLeDiff, true_and, and_true, true_or, or_true, or_self, reduceCtorEq, if_true, if_false, not_false_eq_true, eq_self, c190, mt80, mt96, mt97, mtw, mtf, mtp, List.set_cons_succ, List.set_cons_zero, MFT, List.length_cons, List.length_nil, Nat.reduceLT, Nat.zero_add]
    refine go 60 (by decide) ?_
    simp only [KX, KY, KZ, KW, KV, Nat.reduceAdd, Nat.reduceSub, Nat.reduceLeDiff, true_and, and_true, true_or, or_true, or_self, reduceCtorEq, if_true, if_false, not_false_eq_true, eq_self, c190, mt80, mt96, mt97, mtw, mtf, mtp, List.set_cons_succ, List.set_cons_zero, MFT, List.length_cons, List.length_nil, Nat.reduceLT, Nat.zero_add]
    have k1 := N.lt hk (by omega)
    refine z178 Y0 X (fun h2 Y2 => ?_)
    have Y2b := Y2
    obtain ⟨fr2, pe2, p2, o2, rfl, W2⟩ := Y2.at
    refine go 60 (by decide) ?_
    simp only [KX, KY, KZ, KW, KV, Nat.reduceAdd, Nat.reduceSub, Nat.reduceLeDiff, true_and, and_true, true_or, or_true, or_self, reduceCtorEq, if_true, if_false, not_false_eq_true, eq_self, c190, mt80, mt96, mt97, mtw, mtf, mtp, List.set_cons_succ, List.set_cons_zero, MFT, List.length_cons, List.length_nil, Nat.reduceLT, Nat.zero_add]
    obtain ⟨n1, n2⟩ := q_num (n := n) (i := Ps b n (k + 1)) X.2.2.2.2
    have ql : tq b n (k + 1) < 4006 := qt_lt X.2.2.2.2 n (Ps b n (k + 1))
    by_cases z : 3000 ≤ tq b n (k + 1) ∧ tq b n (k + 1) ≤ 3005
    · have hd : (pHd (tq b n) k) = (true, k + 2, tq b n (k + 1) - 3000) := by unfold pHd; rw [if_pos y, if_pos z]
      obtain ⟨m1, m2⟩ := n2 z.1 (by show tq b n (k + 1) < 4000; omega)
      have m3 : mV b n (Ps b n (k + 1)) = nI (tq b n (k + 1) - 3000) := (n1 ⟨m1, m2⟩).2.2
      rw [if_pos m1]
      try (refine go 60 (by decide) ?_; simp only [KX, KY, KZ, KW, KV, Nat.reduceAdd, Nat.reduceSub, Nat.reduceLeDiff, true_and, and_true, true_or, or_true, or_self, reduceCtorEq, if_true, if_false, not_false_eq_true, eq_self, c190, mt80, mt96, mt97, mtw, mtf, mtp, List.set_cons_succ, List.set_cons_zero, MFT, List.length_cons, List.length_nil, Nat.reduceLT, Nat.zero_add])
      refine s162y m2 (by rw [m3]; exact nI_le (b := 5) (by omega) (by decide)) ?_
      refine go 60 (by decide) ?_
      simp only [KX, KY, KZ, KW, KV, Nat.reduceAdd, Nat.reduceSub, Nat.reduceLeDiff, true_and, and_true, true_or, or_true, or_self, reduceCtorEq, if_true, if_false, not_false_eq_true, eq_self, c190, mt80, mt96, mt97, mtw, mtf, mtp, List.set_cons_succ, List.set_cons_zero, MFT, List.length_cons, List.length_nil, Nat.reduceLT, Nat.zero_add]
      refine go 60 (by decide) ?_
      simp only [KX, KY, KZ, KW, KV, Nat.reduceAdd, Nat.reduceSub, Nat.reduceLeDiff, true_and, and_true, true_or, or_true, or_self, reduceCtorEq, if_true, if_false, not_false_eq_true, eq_self, c190, mt80, mt96, mt97, mtw, mtf, mtp, List.set_cons_succ, List.set_cons_zero, MFT, List.length_cons, List.length_nil, Nat.reduceLT, Nat.zero_add]
      have k2 := N.lt k1 (by omega)
      refine z178 Y2b X (fun h4 Y4 => ?_)
      have Y4b := Y4
      obtain ⟨fr4, pe4, p4, o4, rfl, W4⟩ := Y4.at
      refine go 60 (by decide) ?_
      simp only [KX, KY, KZ, KW, KV, Nat.reduceAdd, Nat.reduceSub, Nat.reduceLeDiff, true_and, and_true, true_or, or_true, or_self, reduceCtorEq, if_true, if_false, not_false_eq_true, eq_self, c190, mt80, mt96, mt97, mtw, mtf, mtp, List.set_cons_succ, List.set_cons_zero, MFT, List.length_cons, List.length_nil, Nat.reduceLT, Nat.zero_add]
      refine yIFU X N hi (k := k) (F := F) (U := tq b n (k + 1) - 3000) (by rw [hd]; exact k2) (by rw [hd]) (by rw [hd]) (by rw [m3]; unfold kd; rw [if_neg (by omega)]) (by omega) (by rw [hd]; exact Y4b) (by rw [hd]; show F.length ≤ k + 2; omega) kT kF
    · have hd : (pHd (tq b n) k) = (false, k + 1, 0) := by unfold pHd; rw [if_pos y, if_neg z]
      have pe := pCl_h (q := tq b n) (k := k) (by rw [hd])
      rw [hd] at pe
      rw [pe] at kF
      dsimp only at kF
      by_cases m1 : mS b n (Ps b n (k + 1)) = 2
      · rw [if_pos m1]
        try (refine go 60 (by decide) ?_; simp only [KX, KY, KZ, KW, KV, Nat.reduceAdd, Nat.reduceSub, Nat.reduceLeDiff, true_and, and_true, true_or, or_true, or_self, reduceCtorEq, if_true, if_false, not_false_eq_true, eq_self, c190, mt80, mt96, mt97, mtw, mtf, mtp, List.set_cons_succ, List.set_cons_zero, MFT, List.length_cons, List.length_nil, Nat.reduceLT, Nat.zero_add])
        refine s162n (show mV b n (Ps b n (k + 1)) < 0 ∨ ¬ mV b n (Ps b n (k + 1)) ≤ 5 from ?_) ?_
        · by_cases m2 : mV b n (Ps b n (k + 1)) < 0
          · exact Or.inl m2
          · obtain ⟨x1, x2, x3⟩ := n1 ⟨m1, m2⟩
            have x1 : 3000 ≤ tq b n (k + 1) := x1
            refine Or.inr ?_
            rw [x3]
            exact Int32.not_le.mpr (show (5 : Int32) < nI (tq b n (k + 1) - 3000) from nI_lt (a := 5) (by omega) (by omega))
        · first
            | (with_reducible show At 190 _ 90 _ _ _ _)
            | (refine go 60 (by decide) ?_; simp only [KX, KY, KZ, KW, KV, Nat.reduceAdd, Nat.reduceSub, Nat.reduceLeDiff, true_and, and_true, true_or, or_true, or_self, reduceCtorEq, if_true, if_false, not_false_eq_true, eq_self, c190, mt80, mt96, mt97, mtw, mtf, mtp, List.set_cons_succ, List.set_cons_zero, MFT, List.length_cons, List.length_nil, Nat.reduceLT, Nat.zero_add])
          first
            | (with_reducible show At 190 _ 90 _ _ _ _)
            | (refine go 60 (by decide) ?_; simp only [KX, KY, KZ, KW, KV, Nat.reduceAdd, Nat.reduceSub, Nat.reduceLeDiff, true_and, and_true, true_or, or_true, or_self, reduceCtorEq, if_true, if_false, not_false_eq_true, eq_self, c190, mt80, mt96, mt97, mtw, mtf, mtp, List.set_cons_succ, List.set_cons_zero, MFT, List.length_cons, List.length_nil, Nat.reduceLT, Nat.zero_add])
          first
            | (with_reducible show At 190 _ 90 _ _ _ _)
            | (refine go 60 (by decide) ?_; simp only [KX, KY, KZ, KW, KV, Nat.reduceAdd, Nat.reduceSub, Nat.reduceLeDiff, true_and, and_true, true_or, or_true, or_self, reduceCtorEq, if_true, if_false, not_false_eq_true, eq_self, c190, mt80, mt96, mt97, mtw, mtf, mtp, List.set_cons_succ, List.set_cons_zero, MFT, List.length_cons, List.length_nil, Nat.reduceLT, Nat.zero_add])
          first
            | (with_reducible show At 190 _ 90 _ _ _ _)
            | (refine go 60 (by decide) ?_; simp only [KX, KY, KZ, KW, KV, Nat.reduceAdd, Nat.reduceSub, Nat.reduceLeDiff, true_and, and_true, true_or, or_true, or_self, reduceCtorEq, if_true, if_false, not_false_eq_true, eq_self, c190, mt80, mt96, mt97, mtw, mtf, mtp, List.set_cons_succ, List.set_cons_zero, MFT, List.length_cons, List.length_nil, Nat.reduceLT, Nat.zero_add])
          first
            | (with_reducible show At 190 _ 90 _ _ _ _)
            | (refine go 60 (by decide) ?_; simp only [KX, KY, KZ, KW, KV, Nat.reduceAdd, Nat.reduceSub, Nat.reduceLeDiff, true_and, and_true, true_or, or_true, or_self, reduceCtorEq, if_true, if_false, not_false_eq_true, eq_self, c190, mt80, mt96, mt97, mtw, mtf, mtp, List.set_cons_succ, List.set_cons_zero, MFT, List.length_cons, List.length_nil, Nat.reduceLT, Nat.zero_add])
          first
            | (with_reducible show At 190 _ 90 _ _ _ _)
            | (refine go 60 (by decide) ?_; simp only [KX, KY, KZ, KW, KV, Nat.reduceAdd, Nat.reduceSub, Nat.reduceLeDiff, true_and, and_true, true_or, or_true, or_self, reduceCtorEq, if_true, if_false, not_false_eq_true, eq_self, c190, mt80, mt96, mt97, mtw, mtf, mtp, List.set_cons_succ, List.set_cons_zero, MFT, List.length_cons, List.length_nil, Nat.reduceLT, Nat.zero_add])
          first
            | (with_reducible show At 190 _ 90 _ _ _ _)
            | (refine go 60 (by decide) ?_; simp only [KX, KY, KZ, KW, KV, Nat.reduceAdd, Nat.reduceSub, Nat.reduceLeDiff, true_and, and_true, true_or, or_true, or_self, reduceCtorEq, if_true, if_false, not_false_eq_true, eq_self, c190, mt80, mt96, mt97, mtw, mtf, mtp, List.set_cons_succ, List.set_cons_zero, MFT, List.length_cons, List.length_nil, Nat.reduceLT, Nat.zero_add])
          first
            | (with_reducible show At 190 _ 90 _ _ _ _)
            | (refine go 60 (by decide) ?_; simp only [KX, KY, KZ, KW, KV, Nat.reduceAdd, Nat.reduceSub, Nat.reduceLeDiff, true_and, and_true, true_or, or_true, or_self, reduceCtorEq, if_true, if_false, not_false_eq_true, eq_self, c190, mt80, mt96, mt97, mtw, mtf, mtp, List.set_cons_succ, List.set_cons_zero, MFT, List.length_cons, List.length_nil, Nat.reduceLT, Nat.zero_add])
          exact y190F (W2 0 p2 o2) (fun h2 F2 Y2 => kF rfl h2 F2 Y2)
      · rw [if_neg m1]
        first
          | (with_reducible show At 190 _ 90 _ _ _ _)
          | (refine go 60 (by decide) ?_; simp only [KX, KY, KZ, KW, KV, Nat.reduceAdd, Nat.reduceSub, Nat.reduceLeDiff, true_and, and_true, true_or, or_true, or_self, reduceCtorEq, if_true, if_false, not_false_eq_true, eq_self, c190, mt80, mt96, mt97, mtw, mtf, mtp, List.set_cons_succ, List.set_cons_zero, MFT, List.length_cons, List.length_nil, Nat.reduceLT, Nat.zero_add])
        first
          | (with_reducible show At 190 _ 90 _ _ _ _)
          | (refine go 60 (by decide) ?_; simp only [KX, KY, KZ, KW, KV, Nat.reduceAdd, Nat.reduceSub, Nat.reduceLeDiff, true_and, and_true, true_or, or_true, or_self, reduceCtorEq, if_true, if_false, not_false_eq_true, eq_self, c190, mt80, mt96, mt97, mtw, mtf, mtp, List.set_cons_succ, List.set_cons_zero, MFT, List.length_cons, List.length_nil, Nat.reduceLT, Nat.zero_add])
        first
          | (with_reducible show At 190 _ 90 _ _ _ _)
          | (refine go 60 (by decide) ?_; simp only [KX, KY, KZ, KW, KV, Nat.reduceAdd, Nat.reduceSub, Nat.reduceLeDiff, true_and, and_true, true_or, or_true, or_self, reduceCtorEq, if_true, if_false, not_false_eq_true, eq_self, c190, mt80, mt96, mt97, mtw, mtf, mtp, List.set_cons_succ, List.set_cons_zero, MFT, List.length_cons, List.length_nil, Nat.reduceLT, Nat.zero_add])
        first
          | (with_reducible show At 190 _ 90 _ _ _ _)
          | (refine go 60 (by decide) ?_; simp only [KX, KY, KZ, KW, KV, Nat.reduceAdd, Nat.reduceSub, Nat.reduceLeDiff, true_and, and_true, true_or, or_true, or_self, reduceCtorEq, if_true, if_false, not_false_eq_true, eq_self, c190, mt80, mt96, mt97, mtw, mtf, mtp, List.set_cons_succ, List.set_cons_zero, MFT, List.length_cons, List.length_nil, Nat.reduceLT, Nat.zero_add])
        first
          | (with_reducible show At 190 _ 90 _ _ _ _)
          | (refine go 60 (by decide) ?_; simp only [KX, KY, KZ, KW, KV, Nat.reduceAdd, Nat.reduceSub, Nat.reduceLeDiff, true_and, and_true, true_or, or_true, or_self, reduceCtorEq, if_true, if_false, not_false_eq_true, eq_self, c190, mt80, mt96, mt97, mtw, mtf, mtp, List.set_cons_succ, List.set_cons_zero, MFT, List.length_cons, List.length_nil, Nat.reduceLT, Nat.zero_add])
        first
          | (with_reducible show At 190 _ 90 _ _ _ _)
          | (refine go 60 (by decide) ?_; simp only [KX, KY, KZ, KW, KV, Nat.reduceAdd, Nat.reduceSub, Nat.reduceLeDiff, true_and, and_true, true_or, or_true, or_self, reduceCtorEq, if_true, if_false, not_false_eq_true, eq_self, c190, mt80, mt96, mt97, mtw, mtf, mtp, List.set_cons_succ, List.set_cons_zero, MFT, List.length_cons, List.length_nil, Nat.reduceLT, Nat.zero_add])
        first
          | (with_reducible show At 190 _ 90 _ _ _ _)
          | (refine go 60 (by decide) ?_; simp only [KX, KY, KZ, KW, KV, Nat.reduceAdd, Nat.reduceSub, Nat.reduceLeDiff, true_and, and_true, true_or, or_true, or_self, reduceCtorEq, if_true, if_false, not_false_eq_true, eq_self, c190, mt80, mt96, mt97, mtw, mtf, mtp, List.set_cons_succ, List.set_cons_zero, MFT, List.length_cons, List.length_nil, Nat.reduceLT, Nat.zero_add])
        first
          | (with_reducible show At 190 _ 90 _ _ _ _)
          | (refine go 60 (by decide) ?_; simp only [KX, KY, KZ, KW, KV, Nat.reduceAdd, Nat.reduceSub, Nat.reduceLeDiff, true_and, and_true, true_or, or_true, or_self, reduceCtorEq, if_true, if_false, not_false_eq_true, eq_self, c190, mt80, mt96, mt97, mtw, mtf, mtp, List.set_cons_succ, List.set_cons_zero, MFT, List.length_cons, List.length_nil, Nat.reduceLT, Nat.zero_add])
        exact y190F (W2 0 p2 o2) (fun h2 F2 Y2 => kF rfl h2 F2 Y2)
  · rw [if_neg (show ¬ tq b n k = 257 + 0 from y)]
    refine go 60 (by decide) ?_
    simp only [KX, KY, KZ, KW, KV, Nat.reduceAdd, Nat.reduceSub, Nat.reduceLeDiff, true_and, and_true, true_or, or_true, or_self, reduceCtorEq, if_true, if_false, not_false_eq_true, eq_self, c190, mt80, mt96, mt97, mtw, mtf, mtp, List.set_cons_succ, List.set_cons_zero, MFT, List.length_cons, List.length_nil, Nat.reduceLT, Nat.zero_add]
    rw [if_pos i8]
    try (refine go 60 (by decide) ?_; simp only [KX, KY, KZ, KW, KV, Nat.reduceAdd, Nat.reduceSub, Nat.reduceLeDiff, true_and, and_true, true_or, or_true, or_self, reduceCtorEq, if_true, if_false, not_false_eq_true, eq_self, c190, mt80, mt96, mt97, mtw, mtf, mtp, List.set_cons_succ, List.set_cons_zero, MFT, List.length_cons, List.length_nil, Nat.reduceLT, Nat.zero_add])
    refine z179 Y0 X (a := 1) (by decide) ?_
    by_cases z : tq b n k = 258
    · have hd : (pHd (tq b n) k) = (true, k + 1, 6) := by unfold pHd; rw [if_neg y, if_pos z]
      rw [if_pos (show tq b n k = 257 + 1 from z)]
      refine go 60 (by decide) ?_
      simp only [KX, KY, KZ, KW, KV, Nat.reduceAdd, Nat.reduceSub, Nat.reduceLeDiff, true_and, and_true, true_or, or_true, or_self, reduceCtorEq, if_true, if_false, not_false_eq_true, eq_self, c190, mt80, mt96, mt97, mtw, mtf, mtp, List.set_cons_succ, List.set_cons_zero, MFT, List.length_cons, List.length_nil, Nat.reduceLT, Nat.zero_add]
      refine go 60 (by decide) ?_
      simp only [KX, KY, KZ, KW, KV, Nat.reduceAdd, Nat.reduceSub, Nat.reduceLeDiff, true_and, and_true, true_or, or_true, or_self, reduceCtorEq, if_true, if_false, not_false_eq_true, eq_self, c190, mt80, mt96, mt97, mtw, mtf, mtp, List.set_cons_succ, List.set_cons_zero, MFT, List.length_cons, List.length_nil, Nat.reduceLT, Nat.zero_add]
      refine go 60 (by decide) ?_
      simp only [KX, KY, KZ, KW, KV, Nat.reduceAdd, Nat.reduceSub, Nat.reduceLeDiff, true_and, and_true, true_or, or_true, or_self, reduceCtorEq, if_true, if_false, not_false_eq_true, eq_self, c190, mt80, mt96, mt97, mtw, mtf, mtp, List.set_cons_succ, List.set_cons_zero, MFT, List.length_cons, List.length_nil, Nat.reduceLT, Nat.zero_add]
      have k1 := N.lt hk (by omega)
      refine z178 Y0 X (fun h2 Y2 => ?_)
      have Y2b := Y2
      obtain ⟨fr2, pe2, p2, o2, rfl, W2⟩ := Y2.at
      refine go 60 (by decide) ?_
      simp only [KX, KY, KZ, KW, KV, Nat.reduceAdd, Nat.reduceSub, Nat.reduceLeDiff, true_and, and_true, true_or, or_true, or_self, reduceCtorEq, if_true, if_false, not_false_eq_true, eq_self, c190, mt80, mt96, mt97, mtw, mtf, mtp, List.set_cons_succ, List.set_cons_zero, MFT, List.length_cons, List.length_nil, Nat.reduceLT, Nat.zero_add]
      refine yIFP X N hi (k := k) (F := F) (U := 6) (by rw [hd]; exact k1) (by rw [hd]) (by rw [hd]) rfl rfl (by rw [hd]; exact Y2b) (by rw [hd]; show F.length ≤ k + 1; omega) kT kF
    · have hd : (pHd (tq b n) k) = (false, k, 6) := by unfold pHd; rw [if_neg y, if_neg z]
      have pe := pCl_h (q := tq b n) (k := k) (by rw [hd])
      rw [hd] at pe
      rw [pe] at kF
      dsimp only at kF
      rw [if_neg (show ¬ tq b n k = 257 + 1 from z)]
      first
        | (with_reducible show At 190 _ 90 _ _ _ _)
        | (refine go 60 (by decide) ?_; simp only [KX, KY, KZ, KW, KV, Nat.reduceAdd, Nat.reduceSub, Nat.reduceLeDiff, true_and, and_true, true_or, or_true, or_self, reduceCtorEq, if_true, if_false, not_false_eq_true, eq_self, c190, mt80, mt96, mt97, mtw, mtf, mtp, List.set_cons_succ, List.set_cons_zero, MFT, List.length_cons, List.length_nil, Nat.reduceLT, Nat.zero_add])
      first
        | (with_reducible show At 190 _ 90 _ _ _ _)
        | (refine go 60 (by decide) ?_; simp only [KX, KY, KZ, KW, KV, Nat.reduceAdd, Nat.reduceSub, Nat.reduceLeDiff, true_and, and_true, true_or, or_true, or_self, reduceCtorEq, if_true, if_false, not_false_eq_true, eq_self, c190, mt80, mt96, mt97, mtw, mtf, mtp, List.set_cons_succ, List.set_cons_zero, MFT, List.length_cons, List.length_nil, Nat.reduceLT, Nat.zero_add])
      first
        | (with_reducible show At 190 _ 90 _ _ _ _)
        | (refine go 60 (by decide) ?_; simp only [KX, KY, KZ, KW, KV, Nat.reduceAdd, Nat.reduceSub, Nat.reduceLeDiff, true_and, and_true, true_or, or_true, or_self, reduceCtorEq, if_true, if_false, not_false_eq_true, eq_self, c190, mt80, mt96, mt97, mtw, mtf, mtp, List.set_cons_succ, List.set_cons_zero, MFT, List.length_cons, List.length_nil, Nat.reduceLT, Nat.zero_add])
      first
        | (with_reducible show At 190 _ 90 _ _ _ _)
        | (refine go 60 (by decide) ?_; simp only [KX, KY, KZ, KW, KV, Nat.reduceAdd, Nat.reduceSub, Nat.reduceLeDiff, true_and, and_true, true_or, or_true, or_self, reduceCtorEq, if_true, if_false, not_false_eq_true, eq_self, c190, mt80, mt96, mt97, mtw, mtf, mtp, List.set_cons_succ, List.set_cons_zero, MFT, List.length_cons, List.length_nil, Nat.reduceLT, Nat.zero_add])
      first
        | (with_reducible show At 190 _ 90 _ _ _ _)
        | (refine go 60 (by decide) ?_; simp only [KX, KY, KZ, KW, KV, Nat.reduceAdd, Nat.reduceSub, Nat.reduceLeDiff, true_and, and_true, true_or, or_true, or_self, reduceCtorEq, if_true, if_false, not_false_eq_true, eq_self, c190, mt80, mt96, mt97, mtw, mtf, mtp, List.set_cons_succ, List.set_cons_zero, MFT, List.length_cons, List.length_nil, Nat.reduceLT, Nat.zero_add])
      first
        | (with_reducible show At 190 _ 90 _ _ _ _)
        | (refine go 60 (by decide) ?_; simp only [KX, KY, KZ, KW, KV, Nat.reduceAdd, Nat.reduceSub, Nat.reduceLeDiff, true_and, and_true, true_or, or_true, or_self, reduceCtorEq, if_true, if_false, not_false_eq_true, eq_self, c190, mt80, mt96, mt97, mtw, mtf, mtp, List.set_cons_succ, List.set_cons_zero, MFT, List.length_cons, List.length_nil, Nat.reduceLT, Nat.zero_add])
      first
        | (with_reducible show At 190 _ 90 _ _ _ _)
        | (refine go 60 (by decide) ?_; simp only [KX, KY, KZ, KW, KV, Nat.reduceAdd, Nat.reduceSub, Nat.reduceLeDiff, true_and, and_true, true_or, or_true, or_self, reduceCtorEq, if_true, if_false, not_false_eq_true, eq_self, c190, mt80, mt96, mt97, mtw, mtf, mtp, List.set_cons_succ, List.set_cons_zero, MFT, List.length_cons, List.length_nil, Nat.reduceLT, Nat.zero_add])
      first
        | (with_reducible show At 190 _ 90 _ _ _ _)
        | (refine go 60 (by decide) ?_; simp only [KX, KY, KZ, KW, KV, Nat.reduceAdd, Nat.reduceSub, Nat.reduceLeDiff, true_and, and_true, true_or, or_true, or_self, reduceCtorEq, if_true, if_false, not_false_eq_true, eq_self, c190, mt80, mt96, mt97, mtw, mtf, mtp, List.set_cons_succ, List.set_cons_zero, MFT, List.length_cons, List.length_nil, Nat.reduceLT, Nat.zero_add])
      first
        | (with_reducible show At 190 _ 90 _ _ _ _)
        | (refine go 60 (by decide) ?_; simp only [KX, KY, KZ, KW, KV, Nat.reduceAdd, Nat.reduceSub, Nat.reduceLeDiff, true_and, and_true, true_or, or_true, or_self, reduceCtorEq, if_true, if_false, not_false_eq_true, eq_self, c190, mt80, mt96, mt97, mtw, mtf, mtp, List.set_cons_succ, List.set_cons_zero, MFT, List.length_cons, List.length_nil, Nat.reduceLT, Nat.zero_add])
      exact y190F (W0 0 p0 o0) (fun h2 F2 Y2 => kF rfl h2 F2 Y2)
theorem y190z {hm : ma_H} {b : Nat → Nat} {n : Nat} (X : MX hm b n) {Q : ma_Q} {k : Nat} {F : List Int32} {h : ma_H} (Y : MZ hm b n k 1 F h) (kF : ∀ h2 F2, MZ hm b n k 0 F2 h2 → Q none h2) : ma_X 190 [.ref 80, .int (nI 8)] h Q := by
  have Y0 := Y
  obtain ⟨fr0, pe0, p0, o0, rfl, W0⟩ := Y.at
  refine ma_enter (m := 190) (Or.inl (by decide)) (by show 2 ≤ mt_n 190; decide +kernel) ?_
  show At 190 Q 0 (mt_c 190) [some (.ref 80), some (.int (nI 8)), none, none, none] [] (MT hm b n k 1 (nI F.length) p0 o0 fr0 pe0)
  refine go 60 (by decide) ?_
  simp only [KX, KY, KZ, KW, KV, Nat.reduceAdd, Nat.reduceSub, Nat.reduceLeDiff, true_and, and_true, true_or, or_true, or_self, reduceCtorEq, if_true, if_false, not_false_eq_true, eq_self, c190, mt80, mt96, mt97, mtw, mtf, mtp, List.set_cons_succ, List.set_cons_zero, MFT, List.length_cons, List.length_nil, Nat.reduceLT, Nat.zero_add]
  refine z179 Y0 X (a := 0) (by decide) ?_
  by_cases y : tq b n k = 257
  · rw [if_pos (show tq b n k = 257 + 0 from y)]
    refine go 60 (by decide) ?_
    simp only [KX, KY, KZ, KW, KV, Nat.reduceAdd, Nat.reduceSub, Nat.reduceLeDiff, true_and, and_true, true_or, or_true, or_self, reduceCtorEq, if_true, if_false, not_false_eq_true, eq_self, c190, mt80, mt96, mt97, mtw, mtf, mtp, List.set_cons_succ, List.set_cons_zero, MFT, List.length_cons, List.length_nil, Nat.reduceLT, Nat.zero_add]
    rw [if_neg (show ¬ nI 8 < (8 : Int32) by decide)]
    first
      | (with_reducible show At 190 _ 90 _ _ _ _)
      | (refine go 60 (by decide) ?_; simp only [KX, KY, KZ, KW, KV, Nat.reduceAdd, Nat.reduceSub, Nat.reduceLeDiff, true_and, and_true, true_or, or_true, or_self, reduceCtorEq, if_true, if_false, not_false_eq_true, eq_self, c190, mt80, mt96, mt97, mtw, mtf, mtp, List.set_cons_succ, List.set_cons_zero, MFT, List.length_cons, List.length_nil, Nat.reduceLT, Nat.zero_add])
    first
      | (with_reducible show At 190 _ 90 _ _ _ _)
      | (refine go 60 (by decide) ?_; simp only [KX, KY, KZ, KW, KV, Nat.reduceAdd, Nat.reduceSub, Nat.reduceLeDiff, true_and, and_true, true_or, or_true, or_self, reduceCtorEq, if_true, if_false, not_false_eq_true, eq_self, c190, mt80, mt96, mt97, mtw, mtf, mtp, List.set_cons_succ, List.set_cons_zero, MFT, List.length_cons, List.length_nil, Nat.reduceLT, Nat.zero_add])
    first
      | (with_reducible show At 190 _ 90 _ _ _ _)
      | (refine go 60 (by decide) ?_; simp only [KX, KY, KZ, KW, KV, Nat.reduceAdd, Nat.reduceSub, Nat.reduceLeDiff, true_and, and_true, true_or, or_true, or_self, reduceCtorEq, if_true, if_false, not_false_eq_true, eq_self, c190, mt80, mt96, mt97, mtw, mtf, mtp, List.set_cons_succ, List.set_cons_zero, MFT, List.length_cons, List.length_nil, Nat.reduceLT, Nat.zero_add])
    first
      | (with_reducible show At 190 _ 90 _ _ _ _)
      | (refine go 60 (by decide) ?_; simp only [KX, KY, KZ, KW, KV, Nat.reduceAdd, Nat.reduceSub, Nat.reduceLeDiff, true_and, and_true, true_or, or_true, or_self, reduceCtorEq, if_true, if_false, not_false_eq_true, eq_self, c190, mt80, mt96, mt97, mtw, mtf, mtp, List.set_cons_succ, List.set_cons_zero, MFT, List.length_cons, List.length_nil, Nat.reduceLT, Nat.zero_add])
    first
      | (with_reducible show At 190 _ 90 _ _ _ _)
      | (refine go 60 (by decide) ?_; simp only [KX, KY, KZ, KW, KV, Nat.reduceAdd, Nat.reduceSub, Nat.reduceLeDiff, true_and, and_true, true_or, or_true, or_self, reduceCtorEq, if_true, if_false, not_false_eq_true, eq_self, c190, mt80, mt96, mt97, mtw, mtf, mtp, List.set_cons_succ, List.set_cons_zero, MFT, List.length_cons, List.length_nil, Nat.reduceLT, Nat.zero_add])
    first
      | (with_reducible show At 190 _ 90 _ _ _ _)
      | (refine go 60 (by decide) ?_; simp only [KX, KY, KZ, KW, KV, Nat.reduceAdd, Nat.reduceSub, Nat.reduceLeDiff, true_and, and_true, true_or, or_true, or_self, reduceCtorEq, if_true, if_false, not_false_eq_true, eq_self, c190, mt80, mt96, mt97, mtw, mtf, mtp, List.set_cons_succ, List.set_cons_zero, MFT, List.length_cons, List.length_nil, Nat.reduceLT, Nat.zero_add])
    first
      | (with_reducible show At 190 _ 90 _ _ _ _)
      | (refine go 60 (by decide) ?_; simp only [KX, KY, KZ, KW, KV, Nat.reduceAdd, Nat.reduceSub, Nat.reduceLeDiff, true_and, and_true, true_or, or_true, or_self, reduceCtorEq, if_true, if_false, not_false_eq_true, eq_self, c190, mt80, mt96, mt97, mtw, mtf, mtp, List.set_cons_succ, List.set_cons_zero, MFT, List.length_cons, List.length_nil, Nat.reduceLT, Nat.zero_add])
    first
      | (with_reducible show At 190 _ 90 _ _ _ _)
      | (refine go 60 (by decide) ?_; simp only [KX, KY, KZ, KW, KV, Nat.reduceAdd, Nat.reduceSub, Nat.reduceLeDiff, true_and, and_true, true_or, or_true, or_self, reduceCtorEq, if_true, if_false, not_false_eq_true, eq_self, c190, mt80, mt96, mt97, mtw, mtf, mtp, List.set_cons_succ, List.set_cons_zero, MFT, List.length_cons, List.length_nil, Nat.reduceLT, Nat.zero_add])
    first
      | (with_reducible show At 190 _ 90 _ _ _ _)
      | (refine go 60 (by decide) ?_; simp only [KX, KY, KZ, KW, KV, Nat.reduceAdd, Nat.reduceSub, Nat.reduceLeDiff, true_and, and_true, true_or, or_true, or_self, reduceCtorEq, if_true, if_false, not_false_eq_true, eq_self, c190, mt80, mt96, mt97, mtw, mtf, mtp, List.set_cons_succ, List.set_cons_zero, MFT, List.length_cons, List.length_nil, Nat.reduceLT, Nat.zero_add])
    exact y190F (W0 0 p0 o0) (fun h2 F2 Y2 => kF h2 F2 Y2)
  · rw [if_neg (show ¬ tq b n k = 257 + 0 from y)]
    refine go 60 (by decide) ?_
    simp only [KX, KY, KZ, KW, KV, Nat.reduceAdd, Nat.reduceSub, Nat.reduceLeDiff, true_and, and_true, true_or, or_true, or_self, reduceCtorEq, if_true, if_false, not_false_eq_true, eq_self, c190, mt80, mt96, mt97, mtw, mtf, mtp, List.set_cons_succ, List.set_cons_zero, MFT, List.length_cons, List.length_nil, Nat.reduceLT, Nat.zero_add]
    rw [if_neg (show ¬ nI 8 < (8 : Int32) by decide)]
    first
      | (with_reducible show At 190 _ 90 _ _ _ _)
      | (refine go 60 (by decide) ?_; simp only [KX, KY, KZ, KW, KV, Nat.reduceAdd, Nat.reduceSub, Nat.reduceLeDiff, true_and, and_true, true_or, or_true, or_self, reduceCtorEq, if_true, if_false, not_false_eq_true, eq_self, c190, mt80, mt96, mt97, mtw, mtf, mtp, List.set_cons_succ, List.set_cons_zero, MFT, List.length_cons, List.length_nil, Nat.reduceLT, Nat.zero_add])
    first
      | (with_reducible show At 190 _ 90 _ _ _ _)
      | (refine go 60 (by decide) ?_; simp only [KX, KY, KZ, KW, KV, Nat.reduceAdd, Nat.reduceSub, Nat.reduceLeDiff, true_and, and_true, true_or, or_true, or_self, reduceCtorEq, if_true, if_false, not_false_eq_true, eq_self, c190, mt80, mt96, mt97, mtw, mtf, mtp, List.set_cons_succ, List.set_cons_zero, MFT, List.length_cons, List.length_nil, Nat.reduceLT, Nat.zero_add])
    first
      | (with_reducible show At 190 _ 90 _ _ _ _)
      | (refine go 60 (by decide) ?_; simp only [KX, KY, KZ, KW, KV, Nat.reduceAdd, Nat.reduceSub, Nat.reduceLeDiff, true_and, and_true, true_or, or_true, or_self, reduceCtorEq, if_true, if_false, not_false_eq_true, eq_self, c190, mt80, mt96, mt97, mtw, mtf, mtp, List.set_cons_succ, List.set_cons_zero, MFT, List.length_cons, List.length_nil, Nat.reduceLT, Nat.zero_add])
    first
      | (with_reducible show At 190 _ 90 _ _ _ _)
      | (refine go 60 (by decide) ?_; simp only [KX, KY, KZ, KW, KV, Nat.reduceAdd, Nat.reduceSub, Nat.reduceLeDiff, true_and, and_true, true_or, or_true, or_self, reduceCtorEq, if_true, if_false, not_false_eq_true, eq_self, c190, mt80, mt96, mt97, mtw, mtf, mtp, List.set_cons_succ, List.set_cons_zero, MFT, List.length_cons, List.length_nil, Nat.reduceLT, Nat.zero_add])
    first
      | (with_reducible show At 190 _ 90 _ _ _ _)
      | (refine go 60 (by decide) ?_; simp only [KX, KY, KZ, KW, KV, Nat.reduceAdd, Nat.reduceSub, Nat.reduceLeDiff, true_and, and_true, true_or, or_true, or_self, reduceCtorEq, if_true, if_false, not_false_eq_true, eq_self, c190, mt80, mt96, mt97, mtw, mtf, mtp, List.set_cons_succ, List.set_cons_zero, MFT, List.length_cons, List.length_nil, Nat.reduceLT, Nat.zero_add])
    first
      | (with_reducible show At 190 _ 90 _ _ _ _)
      | (refine go 60 (by decide) ?_; simp only [KX, KY, KZ, KW, KV, Nat.reduceAdd, Nat.reduceSub, Nat.reduceLeDiff, true_and, and_true, true_or, or_true, or_self, reduceCtorEq, if_true, if_false, not_false_eq_true, eq_self, c190, mt80, mt96, mt97, mtw, mtf, mtp, List.set_cons_succ, List.set_cons_zero, MFT, List.length_cons, List.length_nil, Nat.reduceLT, Nat.zero_add])
    first
      | (with_reducible show At 190 _ 90 _ _ _ _)
      | (refine go 60 (by decide) ?_; simp only [KX, KY, KZ, KW, KV, Nat.reduceAdd, Nat.reduceSub, Nat.reduceLeDiff, true_and, and_true, true_or, or_true, or_self, reduceCtorEq, if_true, if_false, not_false_eq_true, eq_self, c190, mt80, mt96, mt97, mtw, mtf, mtp, List.set_cons_succ, List.set_cons_zero, MFT, List.length_cons, List.length_nil, Nat.reduceLT, Nat.zero_add])
    first
      | (with_reducible show At 190 _ 90 _ _ _ _)
      | (refine go 60 (by decide) ?_; simp only [KX, KY, KZ, KW, KV, Nat.reduceAdd, Nat.reduceSub, Nat.reduceLeDiff, true_and, and_true, true_or, or_true, or_self, reduceCtorEq, if_true, if_false, not_false_eq_true, eq_self, c190, mt80, mt96, mt97, mtw, mtf, mtp, List.set_cons_succ, List.set_cons_zero, MFT, List.length_cons, List.length_nil, Nat.reduceLT, Nat.zero_add])
    first
      | (with_reducible show At 190 _ 90 _ _ _ _)
      | (refine go 60 (by decide) ?_; simp only [KX, KY, KZ, KW, KV, Nat.reduceAdd, Nat.reduceSub, Nat.reduceLeDiff, true_and, and_true, true_or, or_true, or_self, reduceCtorEq, if_true, if_false, not_false_eq_true, eq_self, c190, mt80, mt96, mt97, mtw, mtf, mtp, List.set_cons_succ, List.set_cons_zero, MFT, List.length_cons, List.length_nil, Nat.reduceLT, Nat.zero_add])
    exact y190F (W0 0 p0 o0) (fun h2 F2 Y2 => kF h2 F2 Y2)
