/-! law: the Model reads a comparison -/
theorem TN.end_ {b : Nat → Nat} {n K : Nat} (N : TN b n K) : tq b n K = 256 := by
  show qt b n (Ps b n K) = 256
  rw [N.2.1]
  unfold qt
  rw [if_neg (Nat.lt_irrefl n)]
theorem TN.lt {b : Nat → Nat} {n K k : Nat} (N : TN b n K) (hk : k ≤ K) (h : tq b n k ≠ 256) : k + 1 ≤ K := by
  rcases Nat.lt_or_ge k K with c | c
  · exact c
  · obtain rfl : k = K := by omega
    exact absurd N.end_ h
theorem y186 {hm : ma_H} {b : Nat → Nat} {n k : Nat} {o : Int32} {F S : List Int32} {h : ma_H} {Q : ma_Q} (X : MX hm b n) (Y : MY hm b n k 1 o F S h)  (l : 3000 ≤ tq b n k → F.length < 200) (k1 : 3000 ≤ tq b n k → ∀ h2, MY hm b n (k + 1) 1 o (F ++ [tmv (tq b n k - 3000)]) S h2 → Q none h2) (k2 : ¬ 3000 ≤ tq b n k → ∀ h2, MY hm b n k 0 o F S h2 → Q none h2) : ma_X 186 [.ref 80] h Q := by
  obtain ⟨fr, pe, rfl, s1, s2, f2, p2⟩ := id Y
  refine ma_enter (m := 186) (Or.inl (by decide)) (by show 1 ≤ mt_n 186; decide +kernel) ?_
  show At 186 Q 0 (mt_c 186) [some (.ref 80), none] [] (MT hm b n k 1 (nI F.length) (nI S.length) o fr pe)
  refine go 60 (by decide) ?_
  simp only [KX, KY, KZ, KW, KV, Nat.reduceAdd, Nat.reduceSub, Nat.reduceLeDiff, true_and, and_true, true_or, or_true, or_self, reduceCtorEq, if_true, if_false, not_false_eq_true, eq_self, c186, mt80, mt96, mt97, mtw, mtf, mtp, List.set_cons_succ, List.set_cons_zero, MFT, List.length_cons, List.length_nil, Nat.reduceLT, Nat.zero_add]
  refine y181 Y X ?_
  refine go 60 (by decide) ?_
  simp only [KX, KY, KZ, KW, KV, Nat.reduceAdd, Nat.reduceSub, Nat.reduceLeDiff, true_and, and_true, true_or, or_true, or_self, reduceCtorEq, if_true, if_false, not_false_eq_true, eq_self, c186, mt80, mt96, mt97, mtw, mtf, mtp, List.set_cons_succ, List.set_cons_zero, MFT, List.length_cons, List.length_nil, Nat.reduceLT, Nat.zero_add]
  have ql := qt_lt X.2.2.2.2 n (Ps b n k)
  have ql : tq b n k < 4006 := ql
  obtain ⟨n1, n2⟩ := q_num (n := n) (i := Ps b n k) X.2.2.2.2
  by_cases a : 4000 ≤ tq b n k
  · rw [if_pos a, if_neg (nI_pos (by omega))]
    refine go 60 (by decide) ?_
    simp only [KX, KY, KZ, KW, KV, Nat.reduceAdd, Nat.reduceSub, Nat.reduceLeDiff, true_and, and_true, true_or, or_true, or_self, reduceCtorEq, if_true, if_false, not_false_eq_true, eq_self, c186, mt80, mt96, mt97, mtw, mtf, mtp, List.set_cons_succ, List.set_cons_zero, MFT, List.length_cons, List.length_nil, Nat.reduceLT, Nat.zero_add]
    refine go 60 (by decide) ?_
    simp only [KX, KY, KZ, KW, KV, Nat.reduceAdd, Nat.reduceSub, Nat.reduceLeDiff, true_and, and_true, true_or, or_true, or_self, reduceCtorEq, if_true, if_false, not_false_eq_true, eq_self, c186, mt80, mt96, mt97, mtw, mtf, mtp, List.set_cons_succ, List.set_cons_zero, MFT, List.length_cons, List.length_nil, Nat.reduceLT, Nat.zero_add]
    rw [if_neg (nI_pos (by omega))]
    refine go 60 (by decide) ?_
    simp only [KX, KY, KZ, KW, KV, Nat.reduceAdd, Nat.reduceSub, Nat.reduceLeDiff, true_and, and_true, true_or, or_true, or_self, reduceCtorEq, if_true, if_false, not_false_eq_true, eq_self, c186, mt80, mt96, mt97, mtw, mtf, mtp, List.set_cons_succ, List.set_cons_zero, MFT, List.length_cons, List.length_nil, Nat.reduceLT, Nat.zero_add]
    rw [show 20000 + nI (tq b n k - 4000) = tmv (tq b n k - 3000) by unfold tmv; rw [if_neg (by omega), show (20000 : Int32) = nI 20000 from rfl, nI_add, show 19000 + (tq b n k - 3000) = 20000 + (tq b n k - 4000) by omega]]
    refine y182 Y (l (by omega)) (fun h2 Y2 => ?_)
    have Y2b := Y2
    obtain ⟨fr2, pe2, rfl, -⟩ := Y2
    refine go 60 (by decide) ?_
    simp only [KX, KY, KZ, KW, KV, Nat.reduceAdd, Nat.reduceSub, Nat.reduceLeDiff, true_and, and_true, true_or, or_true, or_self, reduceCtorEq, if_true, if_false, not_false_eq_true, eq_self, c186, mt80, mt96, mt97, mtw, mtf, mtp, List.set_cons_succ, List.set_cons_zero, MFT, List.length_cons, List.length_nil, Nat.reduceLT, Nat.zero_add]
    refine y178 Y2b X (fun h3 Y3 => ?_)
    try (refine go 60 (by decide) ?_; simp only [KX, KY, KZ, KW, KV, Nat.reduceAdd, Nat.reduceSub, Nat.reduceLeDiff, true_and, and_true, true_or, or_true, or_self, reduceCtorEq, if_true, if_false, not_false_eq_true, eq_self, c186, mt80, mt96, mt97, mtw, mtf, mtp, List.set_cons_succ, List.set_cons_zero, MFT, List.length_cons, List.length_nil, Nat.reduceLT, Nat.zero_add])
    exact k1 (by omega) h3 Y3
  · rw [if_neg a, if_pos (show (-1 : Int32) < 0 by decide)]
    by_cases c : 3000 ≤ tq b n k
    · obtain ⟨m1, m2⟩ := n2 c (by show qt b n (Ps b n k) < 4000; unfold tq at a; omega)
      rw [if_pos m1, if_neg m2]
      refine go 60 (by decide) ?_
      simp only [KX, KY, KZ, KW, KV, Nat.reduceAdd, Nat.reduceSub, Nat.reduceLeDiff, true_and, and_true, true_or, or_true, or_self, reduceCtorEq, if_true, if_false, not_false_eq_true, eq_self, c186, mt80, mt96, mt97, mtw, mtf, mtp, List.set_cons_succ, List.set_cons_zero, MFT, List.length_cons, List.length_nil, Nat.reduceLT, Nat.zero_add]
      refine go 60 (by decide) ?_
      simp only [KX, KY, KZ, KW, KV, Nat.reduceAdd, Nat.reduceSub, Nat.reduceLeDiff, true_and, and_true, true_or, or_true, or_self, reduceCtorEq, if_true, if_false, not_false_eq_true, eq_self, c186, mt80, mt96, mt97, mtw, mtf, mtp, List.set_cons_succ, List.set_cons_zero, MFT, List.length_cons, List.length_nil, Nat.reduceLT, Nat.zero_add]
      rw [if_pos (show (-1 : Int32) < 0 by decide)]
      refine go 60 (by decide) ?_
      simp only [KX, KY, KZ, KW, KV, Nat.reduceAdd, Nat.reduceSub, Nat.reduceLeDiff, true_and, and_true, true_or, or_true, or_self, reduceCtorEq, if_true, if_false, not_false_eq_true, eq_self, c186, mt80, mt96, mt97, mtw, mtf, mtp, List.set_cons_succ, List.set_cons_zero, MFT, List.length_cons, List.length_nil, Nat.reduceLT, Nat.zero_add]
      rw [show mV b n (Ps b n k) = tmv (tq b n k - 3000) by rw [(n1 ⟨m1, m2⟩).2.2]; unfold tmv; rw [if_pos (by omega)]; rfl]
      refine y182 Y (l (by omega)) (fun h2 Y2 => ?_)
      have Y2b := Y2
      obtain ⟨fr2, pe2, rfl, -⟩ := Y2
      refine go 60 (by decide) ?_
      simp only [KX, KY, KZ, KW, KV, Nat.reduceAdd, Nat.reduceSub, Nat.reduceLeDiff, true_and, and_true, true_or, or_true, or_self, reduceCtorEq, if_true, if_false, not_false_eq_true, eq_self, c186, mt80, mt96, mt97, mtw, mtf, mtp, List.set_cons_succ, List.set_cons_zero, MFT, List.length_cons, List.length_nil, Nat.reduceLT, Nat.zero_add]
      refine y178 Y2b X (fun h3 Y3 => ?_)
      try (refine go 60 (by decide) ?_; simp only [KX, KY, KZ, KW, KV, Nat.reduceAdd, Nat.reduceSub, Nat.reduceLeDiff, true_and, and_true, true_or, or_true, or_self, reduceCtorEq, if_true, if_false, not_false_eq_true, eq_self, c186, mt80, mt96, mt97, mtw, mtf, mtp, List.set_cons_succ, List.set_cons_zero, MFT, List.length_cons, List.length_nil, Nat.reduceLT, Nat.zero_add])
      exact k1 (by omega) h3 Y3
    · by_cases u : mS b n (Ps b n k) = 2
      · rw [if_pos u]
        by_cases v : mV b n (Ps b n k) < 0
        · rw [if_pos v]
          refine go 60 (by decide) ?_
          simp only [KX, KY, KZ, KW, KV, Nat.reduceAdd, Nat.reduceSub, Nat.reduceLeDiff, true_and, and_true, true_or, or_true, or_self, reduceCtorEq, if_true, if_false, not_false_eq_true, eq_self, c186, mt80, mt96, mt97, mtw, mtf, mtp, List.set_cons_succ, List.set_cons_zero, MFT, List.length_cons, List.length_nil, Nat.reduceLT, Nat.zero_add]
          refine go 60 (by decide) ?_
          simp only [KX, KY, KZ, KW, KV, Nat.reduceAdd, Nat.reduceSub, Nat.reduceLeDiff, true_and, and_true, true_or, or_true, or_self, reduceCtorEq, if_true, if_false, not_false_eq_true, eq_self, c186, mt80, mt96, mt97, mtw, mtf, mtp, List.set_cons_succ, List.set_cons_zero, MFT, List.length_cons, List.length_nil, Nat.reduceLT, Nat.zero_add]
          exact k2 c _ ⟨fr, pe, rfl, s1, s2, f2, p2⟩
        · exact absurd (n1 ⟨u, v⟩).1 c
      · rw [if_neg u]
        refine go 60 (by decide) ?_
        simp only [KX, KY, KZ, KW, KV, Nat.reduceAdd, Nat.reduceSub, Nat.reduceLeDiff, true_and, and_true, true_or, or_true, or_self, reduceCtorEq, if_true, if_false, not_false_eq_true, eq_self, c186, mt80, mt96, mt97, mtw, mtf, mtp, List.set_cons_succ, List.set_cons_zero, MFT, List.length_cons, List.length_nil, Nat.reduceLT, Nat.zero_add]
        refine go 60 (by decide) ?_
        simp only [KX, KY, KZ, KW, KV, Nat.reduceAdd, Nat.reduceSub, Nat.reduceLeDiff, true_and, and_true, true_or, or_true, or_self, reduceCtorEq, if_true, if_false, not_false_eq_true, eq_self, c186, mt80, mt96, mt97, mtw, mtf, mtp, List.set_cons_succ, List.set_cons_zero, MFT, List.length_cons, List.length_nil, Nat.reduceLT, Nat.zero_add]
        exact k2 c _ ⟨fr, pe, rfl, s1, s2, f2, p2⟩
theorem y186z {hm : ma_H} {b : Nat → Nat} {n k : Nat} {o : Int32} {F S : List Int32} {h : ma_H} {Q : ma_Q} (X : MX hm b n) (Y : MY hm b n k 0 o F S h)  (k2 : ∀ h2, MY hm b n k 0 o F S h2 → Q none h2) : ma_X 186 [.ref 80] h Q := by
  obtain ⟨fr, pe, rfl, s1, s2, f2, p2⟩ := id Y
  refine ma_enter (m := 186) (Or.inl (by decide)) (by show 1 ≤ mt_n 186; decide +kernel) ?_
  show At 186 Q 0 (mt_c 186) [some (.ref 80), none] [] (MT hm b n k 0 (nI F.length) (nI S.length) o fr pe)
  refine go 60 (by decide) ?_
  simp only [KX, KY, KZ, KW, KV, Nat.reduceAdd, Nat.reduceSub, Nat.reduceLeDiff, true_and, and_true, true_or, or_true, or_self, reduceCtorEq, if_true, if_false, not_false_eq_true, eq_self, c186, mt80, mt96, mt97, mtw, mtf, mtp, List.set_cons_succ, List.set_cons_zero, MFT, List.length_cons, List.length_nil, Nat.reduceLT, Nat.zero_add]
  refine y181 Y X ?_
  refine go 60 (by decide) ?_
  simp only [KX, KY, KZ, KW, KV, Nat.reduceAdd, Nat.reduceSub, Nat.reduceLeDiff, true_and, and_true, true_or, or_true, or_self, reduceCtorEq, if_true, if_false, not_false_eq_true, eq_self, c186, mt80, mt96, mt97, mtw, mtf, mtp, List.set_cons_succ, List.set_cons_zero, MFT, List.length_cons, List.length_nil, Nat.reduceLT, Nat.zero_add]
  refine go 60 (by decide) ?_
  simp only [KX, KY, KZ, KW, KV, Nat.reduceAdd, Nat.reduceSub, Nat.reduceLeDiff, true_and, and_true, true_or, or_true, or_self, reduceCtorEq, if_true, if_false, not_false_eq_true, eq_self, c186, mt80, mt96, mt97, mtw, mtf, mtp, List.set_cons_succ, List.set_cons_zero, MFT, List.length_cons, List.length_nil, Nat.reduceLT, Nat.zero_add]
  refine go 60 (by decide) ?_
  simp only [KX, KY, KZ, KW, KV, Nat.reduceAdd, Nat.reduceSub, Nat.reduceLeDiff, true_and, and_true, true_or, or_true, or_self, reduceCtorEq, if_true, if_false, not_false_eq_true, eq_self, c186, mt80, mt96, mt97, mtw, mtf, mtp, List.set_cons_succ, List.set_cons_zero, MFT, List.length_cons, List.length_nil, Nat.reduceLT, Nat.zero_add]
  exact k2 _ Y
theorem y187 {hm : ma_H} {b : Nat → Nat} {n k : Nat} {o : Int32} {F S : List Int32} {h : ma_H} {Q : ma_Q} (X : MX hm b n) (Y : MY hm b n k 1 o F S h)  {K : Nat} (N : TN b n K) (hk : k ≤ K) (l : F.length + S.length ≤ k) (kT : (pCmp (tq b n) k).1 = true → ∀ h2, MY hm b n (pCmp (tq b n) k).2.1 1 o (F ++ tms (pCmp (tq b n) k).2.2.2 ++ List.replicate (popx 40002 S) 40002) (S.drop (popx 40002 S)) h2 → Q none h2) (kF : (pCmp (tq b n) k).1 = false → ∀ h2 F2 S2, MY hm b n (pCmp (tq b n) k).2.1 0 o F2 S2 h2 → Q none h2) : ma_X 187 [.ref 80] h Q := by
  have K2 := N.1
  obtain ⟨fr, pe, rfl, s1, s2, f2, p2⟩ := id Y
  have R33 : ∀ (V : Int32) (j : Nat) (F2 : List Int32) (hh : ma_H), F2.length + S.length ≤ 200 → j = (pCmp (tq b n) k).2.1 → (pCmp (tq b n) k).1 = false → MY hm b n j 0 o F2 S hh → ma_X 185 [.ref 80, .int 40002] hh (fun v h2 => At 187 Q 38 (0, 0) [some (.ref 80), some (.int V)] (v.toList ++ []) h2) := by
    intro V j F2 hh l2 ej ok Y2
    refine y185 Y2 l2 (fun h9 Y9 => ?_)
    try (refine go 60 (by decide) ?_; simp only [KX, KY, KZ, KW, KV, Nat.reduceAdd, Nat.reduceSub, Nat.reduceLeDiff, true_and, and_true, true_or, or_true, or_self, reduceCtorEq, if_true, if_false, not_false_eq_true, eq_self, c187, mt80, mt96, mt97, mtw, mtf, mtp, List.set_cons_succ, List.set_cons_zero, MFT, List.length_cons, List.length_nil, Nat.reduceLT, Nat.zero_add])
    exact kF ok h9 _ _ (by rw [← ej]; exact Y9)
  have R21 : ∀ (fr2 pe2 : Nat → Int32) (c : Nat), MY hm b n (k + 1) 1 o (F ++ [tmv (tq b n k - 3000)]) S (MT hm b n (k + 1) 1 (nI (F ++ [tmv (tq b n k - 3000)]).length) (nI S.length) o fr2 pe2) → c < 3 → tq b n (k + 1) = 60 + c → 3000 ≤ tq b n k → k + 1 ≤ K → At 187 Q 21 (0, 0) [some (.ref 80), some (.int (mV b n (Ps b n (k + 1))))] [.ref 80] (MT hm b n (k + 1) 1 (nI (F ++ [tmv (tq b n k - 3000)]).length) (nI S.length) o fr2 pe2) := by
    intro fr2 pe2 c Y2 c3 ec y k1
    have k2 := N.lt k1 (by omega)
    have ev := ((q_mark (n := n) (i := Ps b n (k + 1)) X.2.2.2.2 (show 60 + c < 256 by omega)).mpr ec).2
    refine go 60 (by decide) ?_
    simp only [KX, KY, KZ, KW, KV, Nat.reduceAdd, Nat.reduceSub, Nat.reduceLeDiff, true_and, and_true, true_or, or_true, or_self, reduceCtorEq, if_true, if_false, not_false_eq_true, eq_self, c187, mt80, mt96, mt97, mtw, mtf, mtp, List.set_cons_succ, List.set_cons_zero, MFT, List.length_cons, List.length_nil, Nat.reduceLT, Nat.zero_add]
    refine go 60 (by decide) ?_
    simp only [KX, KY, KZ, KW, KV, Nat.reduceAdd, Nat.reduceSub, Nat.reduceLeDiff, true_and, and_true, true_or, or_true, or_self, reduceCtorEq, if_true, if_false, not_false_eq_true, eq_self, c187, mt80, mt96, mt97, mtw, mtf, mtp, List.set_cons_succ, List.set_cons_zero, MFT, List.length_cons, List.length_nil, Nat.reduceLT, Nat.zero_add]
    rw [ev]
    refine y182 Y2 (by rw [List.length_append]; show F.length + 1 < 200; omega) (fun h3 Y3 => ?_)
    obtain ⟨fr3, pe3, rfl, -⟩ := id Y3
    refine go 60 (by decide) ?_
    simp only [KX, KY, KZ, KW, KV, Nat.reduceAdd, Nat.reduceSub, Nat.reduceLeDiff, true_and, and_true, true_or, or_true, or_self, reduceCtorEq, if_true, if_false, not_false_eq_true, eq_self, c187, mt80, mt96, mt97, mtw, mtf, mtp, List.set_cons_succ, List.set_cons_zero, MFT, List.length_cons, List.length_nil, Nat.reduceLT, Nat.zero_add]
    refine y178 Y3 X (fun h4 Y4 => ?_)
    obtain ⟨fr4, pe4, rfl, -⟩ := id Y4
    refine go 60 (by decide) ?_
    simp only [KX, KY, KZ, KW, KV, Nat.reduceAdd, Nat.reduceSub, Nat.reduceLeDiff, true_and, and_true, true_or, or_true, or_self, reduceCtorEq, if_true, if_false, not_false_eq_true, eq_self, c187, mt80, mt96, mt97, mtw, mtf, mtp, List.set_cons_succ, List.set_cons_zero, MFT, List.length_cons, List.length_nil, Nat.reduceLT, Nat.zero_add]
    by_cases y2 : 3000 ≤ tq b n (k + 2)
    · have k3 := N.lt k2 (show tq b n (k + 2) ≠ 256 by omega)
      have pe : pCmp (tq b n) k = (true, k + 3, [(c, tq b n k - 3000, tq b n (k + 2) - 3000)], [(c, tq b n k - 3000, tq b n (k + 2) - 3000)]) := by
        unfold pCmp
        rw [if_pos y, if_pos (by omega), if_pos y2, show tq b n (k + 1) - 60 = c by omega]
      refine y186 X Y4 (fun _ => by simp only [List.length_append, List.length_cons, List.length_nil]; omega) (fun _ h5 Y5 => ?_) (fun z => absurd y2 z)
      obtain ⟨fr5, pe5, rfl, -⟩ := id Y5
      refine go 60 (by decide) ?_
      simp only [KX, KY, KZ, KW, KV, Nat.reduceAdd, Nat.reduceSub, Nat.reduceLeDiff, true_and, and_true, true_or, or_true, or_self, reduceCtorEq, if_true, if_false, not_false_eq_true, eq_self, c187, mt80, mt96, mt97, mtw, mtf, mtp, List.set_cons_succ, List.set_cons_zero, MFT, List.length_cons, List.length_nil, Nat.reduceLT, Nat.zero_add]
      refine y185 Y5 (by simp only [List.length_append, List.length_cons, List.length_nil]; omega) (fun h9 Y9 => ?_)
      try (refine go 60 (by decide) ?_; simp only [KX, KY, KZ, KW, KV, Nat.reduceAdd, Nat.reduceSub, Nat.reduceLeDiff, true_and, and_true, true_or, or_true, or_self, reduceCtorEq, if_true, if_false, not_false_eq_true, eq_self, c187, mt80, mt96, mt97, mtw, mtf, mtp, List.set_cons_succ, List.set_cons_zero, MFT, List.length_cons, List.length_nil, Nat.reduceLT, Nat.zero_add])
      refine kT (by rw [pe]) h9 ?_
      rw [pe]
      have tmE : tms [(c, tq b n k - 3000, tq b n (k + 2) - 3000)] = [tmv (tq b n k - 3000)] ++ [nI (60 + c)] ++ [tmv (tq b n (k + 2) - 3000)] := by
        obtain rfl | rfl | rfl : c = 0 ∨ c = 1 ∨ c = 2 := by omega
        · rfl
        · rfl
        · rfl
      show MY hm b n (k + 3) 1 o (F ++ tms [(c, tq b n k - 3000, tq b n (k + 2) - 3000)] ++ List.replicate (popx 40002 S) 40002) (S.drop (popx 40002 S)) h9
      rw [tmE, ← List.append_assoc, ← List.append_assoc]
      exact Y9
    · have pe : pCmp (tq b n) k = (false, k + 2, [], []) := by
        unfold pCmp
        rw [if_pos y, if_pos (by omega), if_neg y2]
      refine y186 X Y4 (fun z => absurd z y2) (fun z => absurd z y2) (fun _ h5 Y5 => ?_)
      obtain ⟨fr5, pe5, rfl, -⟩ := id Y5
      refine go 60 (by decide) ?_
      simp only [KX, KY, KZ, KW, KV, Nat.reduceAdd, Nat.reduceSub, Nat.reduceLeDiff, true_and, and_true, true_or, or_true, or_self, reduceCtorEq, if_true, if_false, not_false_eq_true, eq_self, c187, mt80, mt96, mt97, mtw, mtf, mtp, List.set_cons_succ, List.set_cons_zero, MFT, List.length_cons, List.length_nil, Nat.reduceLT, Nat.zero_add]
      exact R33 _ _ _ _ (by simp only [List.length_append, List.length_cons, List.length_nil]; omega) (by rw [pe]) (by rw [pe]) Y5
  refine ma_enter (m := 187) (Or.inl (by decide)) (by show 1 ≤ mt_n 187; decide +kernel) ?_
  show At 187 Q 0 (mt_c 187) [some (.ref 80), none] [] (MT hm b n k 1 (nI F.length) (nI S.length) o fr pe)
  refine go 60 (by decide) ?_
  simp only [KX, KY, KZ, KW, KV, Nat.reduceAdd, Nat.reduceSub, Nat.reduceLeDiff, true_and, and_true, true_or, or_true, or_self, reduceCtorEq, if_true, if_false, not_false_eq_true, eq_self, c187, mt80, mt96, mt97, mtw, mtf, mtp, List.set_cons_succ, List.set_cons_zero, MFT, List.length_cons, List.length_nil, Nat.reduceLT, Nat.zero_add]
  by_cases y : 3000 ≤ tq b n k
  · have k1 := N.lt hk (by omega)
    refine y186 X Y (fun _ => by omega) (fun _ h2 Y2 => ?_) (fun z => absurd y z)
    obtain ⟨fr2, pe2, rfl, -⟩ := id Y2
    refine go 60 (by decide) ?_
    simp only [KX, KY, KZ, KW, KV, Nat.reduceAdd, Nat.reduceSub, Nat.reduceLeDiff, true_and, and_true, true_or, or_true, or_self, reduceCtorEq, if_true, if_false, not_false_eq_true, eq_self, c187, mt80, mt96, mt97, mtw, mtf, mtp, List.set_cons_succ, List.set_cons_zero, MFT, List.length_cons, List.length_nil, Nat.reduceLT, Nat.zero_add]
    refine y180 Y2 X (c := 60) (by decide) ?_
    by_cases e0 : tq b n (k + 1) = 60
    · rw [if_pos e0]
      first
        | (with_reducible show At 187 _ 21 _ _ _ _)
        | (refine go 60 (by decide) ?_; simp only [KX, KY, KZ, KW, KV, Nat.reduceAdd, Nat.reduceSub, Nat.reduceLeDiff, true_and, and_true, true_or, or_true, or_self, reduceCtorEq, if_true, if_false, not_false_eq_true, eq_self, c187, mt80, mt96, mt97, mtw, mtf, mtp, List.set_cons_succ, List.set_cons_zero, MFT, List.length_cons, List.length_nil, Nat.reduceLT, Nat.zero_add])
      first
        | (with_reducible show At 187 _ 21 _ _ _ _)
        | (refine go 60 (by decide) ?_; simp only [KX, KY, KZ, KW, KV, Nat.reduceAdd, Nat.reduceSub, Nat.reduceLeDiff, true_and, and_true, true_or, or_true, or_self, reduceCtorEq, if_true, if_false, not_false_eq_true, eq_self, c187, mt80, mt96, mt97, mtw, mtf, mtp, List.set_cons_succ, List.set_cons_zero, MFT, List.length_cons, List.length_nil, Nat.reduceLT, Nat.zero_add])
      first
        | (with_reducible show At 187 _ 21 _ _ _ _)
        | (refine go 60 (by decide) ?_; simp only [KX, KY, KZ, KW, KV, Nat.reduceAdd, Nat.reduceSub, Nat.reduceLeDiff, true_and, and_true, true_or, or_true, or_self, reduceCtorEq, if_true, if_false, not_false_eq_true, eq_self, c187, mt80, mt96, mt97, mtw, mtf, mtp, List.set_cons_succ, List.set_cons_zero, MFT, List.length_cons, List.length_nil, Nat.reduceLT, Nat.zero_add])
      exact R21 fr2 pe2 0 Y2 (by decide) e0 y k1
    · rw [if_neg e0]
      refine go 60 (by decide) ?_
      simp only [KX, KY, KZ, KW, KV, Nat.reduceAdd, Nat.reduceSub, Nat.reduceLeDiff, true_and, and_true, true_or, or_true, or_self, reduceCtorEq, if_true, if_false, not_false_eq_true, eq_self, c187, mt80, mt96, mt97, mtw, mtf, mtp, List.set_cons_succ, List.set_cons_zero, MFT, List.length_cons, List.length_nil, Nat.reduceLT, Nat.zero_add]
      refine y180 Y2 X (c := 61) (by decide) ?_
      by_cases e1 : tq b n (k + 1) = 61
      · rw [if_pos e1]
        first
          | (with_reducible show At 187 _ 21 _ _ _ _)
          | (refine go 60 (by decide) ?_; simp only [KX, KY, KZ, KW, KV, Nat.reduceAdd, Nat.reduceSub, Nat.reduceLeDiff, true_and, and_true, true_or, or_true, or_self, reduceCtorEq, if_true, if_false, not_false_eq_true, eq_self, c187, mt80, mt96, mt97, mtw, mtf, mtp, List.set_cons_succ, List.set_cons_zero, MFT, List.length_cons, List.length_nil, Nat.reduceLT, Nat.zero_add])
        first
          | (with_reducible show At 187 _ 21 _ _ _ _)
          | (refine go 60 (by decide) ?_; simp only [KX, KY, KZ, KW, KV, Nat.reduceAdd, Nat.reduceSub, Nat.reduceLeDiff, true_and, and_true, true_or, or_true, or_self, reduceCtorEq, if_true, if_false, not_false_eq_true, eq_self, c187, mt80, mt96, mt97, mtw, mtf, mtp, List.set_cons_succ, List.set_cons_zero, MFT, List.length_cons, List.length_nil, Nat.reduceLT, Nat.zero_add])
        first
          | (with_reducible show At 187 _ 21 _ _ _ _)
          | (refine go 60 (by decide) ?_; simp only [KX, KY, KZ, KW, KV, Nat.reduceAdd, Nat.reduceSub, Nat.reduceLeDiff, true_and, and_true, true_or, or_true, or_self, reduceCtorEq, if_true, if_false, not_false_eq_true, eq_self, c187, mt80, mt96, mt97, mtw, mtf, mtp, List.set_cons_succ, List.set_cons_zero, MFT, List.length_cons, List.length_nil, Nat.reduceLT, Nat.zero_add])
        exact R21 fr2 pe2 1 Y2 (by decide) e1 y k1
      · rw [if_neg e1]
        refine go 60 (by decide) ?_
        simp only [KX, KY, KZ, KW, KV, Nat.reduceAdd, Nat.reduceSub, Nat.reduceLeDiff, true_and, and_true, true_or, or_true, or_self, reduceCtorEq, if_true, if_false, not_false_eq_true, eq_self, c187, mt80, mt96, mt97, mtw, mtf, mtp, List.set_cons_succ, List.set_cons_zero, MFT, List.length_cons, List.length_nil, Nat.reduceLT, Nat.zero_add]
        refine y180 Y2 X (c := 62) (by decide) ?_
        by_cases e2 : tq b n (k + 1) = 62
        · rw [if_pos e2]
          first
            | (with_reducible show At 187 _ 21 _ _ _ _)
            | (refine go 60 (by decide) ?_; simp only [KX, KY, KZ, KW, KV, Nat.reduceAdd, Nat.reduceSub, Nat.reduceLeDiff, true_and, and_true, true_or, or_true, or_self, reduceCtorEq, if_true, if_false, not_false_eq_true, eq_self, c187, mt80, mt96, mt97, mtw, mtf, mtp, List.set_cons_succ, List.set_cons_zero, MFT, List.length_cons, List.length_nil, Nat.reduceLT, Nat.zero_add])
          first
            | (with_reducible show At 187 _ 21 _ _ _ _)
            | (refine go 60 (by decide) ?_; simp only [KX, KY, KZ, KW, KV, Nat.reduceAdd, Nat.reduceSub, Nat.reduceLeDiff, true_and, and_true, true_or, or_true, or_self, reduceCtorEq, if_true, if_false, not_false_eq_true, eq_self, c187, mt80, mt96, mt97, mtw, mtf, mtp, List.set_cons_succ, List.set_cons_zero, MFT, List.length_cons, List.length_nil, Nat.reduceLT, Nat.zero_add])
          first
            | (with_reducible show At 187 _ 21 _ _ _ _)
            | (refine go 60 (by decide) ?_; simp only [KX, KY, KZ, KW, KV, Nat.reduceAdd, Nat.reduceSub, Nat.reduceLeDiff, true_and, and_true, true_or, or_true, or_self, reduceCtorEq, if_true, if_false, not_false_eq_true, eq_self, c187, mt80, mt96, mt97, mtw, mtf, mtp, List.set_cons_succ, List.set_cons_zero, MFT, List.length_cons, List.length_nil, Nat.reduceLT, Nat.zero_add])
          exact R21 fr2 pe2 2 Y2 (by decide) e2 y k1
        · rw [if_neg e2]
          have pe : pCmp (tq b n) k = (false, k + 1, [], []) := by
            unfold pCmp
            rw [if_pos y, if_neg (by omega)]
          have Y3 : MY hm b n (k + 1) 0 o (F ++ [tmv (tq b n k - 3000)]) S (MT hm b n (k + 1) 0 (nI (F ++ [tmv (tq b n k - 3000)]).length) (nI S.length) o fr2 pe2) := by
            obtain ⟨fr6, pe6, e6, t1, t2, t3, t4⟩ := id Y2
            have w := congrArg (fun x : ma_H => x.2.1 96) e6
            have w2 := congrArg (fun x : ma_H => x.2.1 97) e6
            simp only [mt96, mt97] at w w2
            injection w with w
            injection w with _ w
            injection w with _ w
            injection w with w
            injection w2 with w2
            injection w2 with _ w2
            injection w2 with _ w2
            injection w2 with w2
            subst w
            subst w2
            exact ⟨_, _, rfl, t1, t2, t3, t4⟩
          refine go 60 (by decide) ?_
          simp only [KX, KY, KZ, KW, KV, Nat.reduceAdd, Nat.reduceSub, Nat.reduceLeDiff, true_and, and_true, true_or, or_true, or_self, reduceCtorEq, if_true, if_false, not_false_eq_true, eq_self, c187, mt80, mt96, mt97, mtw, mtf, mtp, List.set_cons_succ, List.set_cons_zero, MFT, List.length_cons, List.length_nil, Nat.reduceLT, Nat.zero_add]
          refine go 60 (by decide) ?_
          simp only [KX, KY, KZ, KW, KV, Nat.reduceAdd, Nat.reduceSub, Nat.reduceLeDiff, true_and, and_true, true_or, or_true, or_self, reduceCtorEq, if_true, if_false, not_false_eq_true, eq_self, c187, mt80, mt96, mt97, mtw, mtf, mtp, List.set_cons_succ, List.set_cons_zero, MFT, List.length_cons, List.length_nil, Nat.reduceLT, Nat.zero_add]
          refine go 60 (by decide) ?_
          simp only [KX, KY, KZ, KW, KV, Nat.reduceAdd, Nat.reduceSub, Nat.reduceLeDiff, true_and, and_true, true_or, or_true, or_self, reduceCtorEq, if_true, if_false, not_false_eq_true, eq_self, c187, mt80, mt96, mt97, mtw, mtf, mtp, List.set_cons_succ, List.set_cons_zero, MFT, List.length_cons, List.length_nil, Nat.reduceLT, Nat.zero_add]
          refine y186z X Y3 (fun h5 Y5 => ?_)
          obtain ⟨fr5, pe5, rfl, -⟩ := id Y5
          refine go 60 (by decide) ?_
          simp only [KX, KY, KZ, KW, KV, Nat.reduceAdd, Nat.reduceSub, Nat.reduceLeDiff, true_and, and_true, true_or, or_true, or_self, reduceCtorEq, if_true, if_false, not_false_eq_true, eq_self, c187, mt80, mt96, mt97, mtw, mtf, mtp, List.set_cons_succ, List.set_cons_zero, MFT, List.length_cons, List.length_nil, Nat.reduceLT, Nat.zero_add]
          exact R33 _ _ _ _ (by simp only [List.length_append, List.length_cons, List.length_nil]; omega) (by rw [pe]) (by rw [pe]) Y5
  · refine y186 X Y (fun z => absurd z y) (fun z => absurd z y) (fun _ h2 Y2 => ?_)
    obtain ⟨fr2, pe2, rfl, -⟩ := id Y2
    have pe : pCmp (tq b n) k = (false, k, [], []) := by
      unfold pCmp
      rw [if_neg y]
    refine go 60 (by decide) ?_
    simp only [KX, KY, KZ, KW, KV, Nat.reduceAdd, Nat.reduceSub, Nat.reduceLeDiff, true_and, and_true, true_or, or_true, or_self, reduceCtorEq, if_true, if_false, not_false_eq_true, eq_self, c187, mt80, mt96, mt97, mtw, mtf, mtp, List.set_cons_succ, List.set_cons_zero, MFT, List.length_cons, List.length_nil, Nat.reduceLT, Nat.zero_add]
    refine go 60 (by decide) ?_
    simp only [KX, KY, KZ, KW, KV, Nat.reduceAdd, Nat.reduceSub, Nat.reduceLeDiff, true_and, and_true, true_or, or_true, or_self, reduceCtorEq, if_true, if_false, not_false_eq_true, eq_self, c187, mt80, mt96, mt97, mtw, mtf, mtp, List.set_cons_succ, List.set_cons_zero, MFT, List.length_cons, List.length_nil, Nat.reduceLT, Nat.zero_add]
    refine go 60 (by decide) ?_
    simp only [KX, KY, KZ, KW, KV, Nat.reduceAdd, Nat.reduceSub, Nat.reduceLeDiff, true_and, and_true, true_or, or_true, or_self, reduceCtorEq, if_true, if_false, not_false_eq_true, eq_self, c187, mt80, mt96, mt97, mtw, mtf, mtp, List.set_cons_succ, List.set_cons_zero, MFT, List.length_cons, List.length_nil, Nat.reduceLT, Nat.zero_add]
    refine y186z X Y2 (fun h5 Y5 => ?_)
    obtain ⟨fr5, pe5, rfl, -⟩ := id Y5
    refine go 60 (by decide) ?_
    simp only [KX, KY, KZ, KW, KV, Nat.reduceAdd, Nat.reduceSub, Nat.reduceLeDiff, true_and, and_true, true_or, or_true, or_self, reduceCtorEq, if_true, if_false, not_false_eq_true, eq_self, c187, mt80, mt96, mt97, mtw, mtf, mtp, List.set_cons_succ, List.set_cons_zero, MFT, List.length_cons, List.length_nil, Nat.reduceLT, Nat.zero_add]
    exact R33 _ _ _ _ (by omega) (by rw [pe]) (by rw [pe]) Y5
