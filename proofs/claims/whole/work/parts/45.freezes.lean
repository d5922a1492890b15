/-! THE MODEL: which CELL FREEZES -/
theorem s213 {h : ma_H} {Q : ma_Q} {a n : Int32} (k : Q (some (.int (i_bit n a))) h) : ma_X 213 [.ref 80, .int a, .int n] h Q := by
  unfold i_bit at k
  refine ma_enter (m := 213) (Or.inl (by decide)) (by show 3 ≤ mt_n 213; decide +kernel) ?_
  show At 213 Q 0 (mt_c 213) [some (.ref 80), some (.int a), some (.int n)] [] h
  refine go 60 (by decide) ?_
  simp only [KX, KY, KZ, KW, KV, Nat.reduceAdd, Nat.reduceSub, Nat.reduceLeDiff, true_and, and_true, true_or, or_true, or_self, reduceCtorEq, if_true, if_false, not_false_eq_true, eq_self, c213]
  by_cases z : n ≤ 0
  · rw [if_pos z] at k ⊢; exact k
  · rw [if_neg z] at k ⊢
    try rw [if_neg z]
    refine go 60 (by decide) ?_
    simp only [KX, KY, KZ, KW, KV, Nat.reduceAdd, Nat.reduceSub, Nat.reduceLeDiff, true_and, and_true, true_or, or_true, or_self, reduceCtorEq, if_true, if_false, not_false_eq_true, eq_self, c213]
    try (refine go 60 (by decide) ?_; simp only [KX, KY, KZ, KW, KV, Nat.reduceAdd, Nat.reduceSub, Nat.reduceLeDiff, true_and, and_true, true_or, or_true, or_self, reduceCtorEq, if_true, if_false, not_false_eq_true, eq_self, c213])
    by_cases z2 : (a >>> ((n - 1) &&& 31)) &&& 1 = 1
    · rw [if_pos z2] at k ⊢; exact k
    · rw [if_neg z2] at k ⊢; exact k
theorem bit56 : ∀ n, n < 7 → ∀ a, a < 64 → i_bit (nI n) (nI a ||| 56) = if i_bit (nI n) (nI a) = 0 then (if nI n < 4 then 0 else 1) else 1 := by decide +kernel
theorem su01 {f : Nat → Int32} (w : ∀ i, f i = 0 ∨ f i = 1) : ∀ n, ∃ m, m ≤ n ∧ su f n = nI m
  | 0 => ⟨0, Nat.le_refl _, rfl⟩
  | n + 1 => by
    obtain ⟨m, hm, e⟩ := su01 w n
    show ∃ m, m ≤ n + 1 ∧ su f n + f n = nI m
    rcases w n with z | z
    · exact ⟨m, by omega, by rw [e, z]; exact Int32.add_zero _⟩
    · exact ⟨m + 1, by omega, by rw [e, z, nI_1]⟩
theorem cix_cell : ∀ i, i < 91 → cix (ma_cell i) = i := by decide +kernel
theorem nb_ok : ∀ c, c < 91 → ∀ j, j < 6 → (m_nb c j = -1 ∧ 91 ≤ cix (fl_nb c j)) ∨ (cix (fl_nb c j) < 91 ∧ m_nb c j = nI (cix (fl_nb c j)) ∧ fl_nb c j = ma_cell (cix (fl_nb c j))) := by decide +kernel
theorem k3 : ∀ j, j < 6 → ((nI j - nI j / 3 * 3 = 0) ↔ (j = 0 ∨ j = 3)) := by decide +kernel
/-- towards 0 and 3 alone -/
def fl_ndl (g : Nat → Int32) (c j : Nat) : Int32 := if j = 0 ∨ j = 3 then fl_beside g c j else 0
theorem fl_ndl6 (g : Nat → Int32) (c : Nat) : su (fl_ndl g c) 6 = fl_has g (fl_nb c 0) + fl_has g (fl_nb c 3) := by
  show ((((((0 : Int32) + fl_has g (fl_nb c 0)) + 0) + 0) + fl_has g (fl_nb c 3)) + 0) + 0 = _
  simp only [Int32.zero_add, Int32.add_zero]
theorem l214_0 {h : ma_H} {Q : ma_Q} {A c n a i : Nat} {x al : Int32} (H : Sh h) (R : Rt h) (hc : c < 91) (hn : n < 7) (ha : a < 64) (q : x = nI i) (hi : i < 6) (ek : ai h 90 (2 * i) = 0) (k : Q (some (.int (fzn 0 (nI a) (m_q c) (m_r c) (nI n) al))) h) : At 214 Q 99 (0, 0) [some (.ref 80), some (.int (nI A)), some (.int (nI c)), some (.int x), some (.int (nI n)), some (.int al), some (.int (nI a)), some (.int (i_bit (nI n) (nI a))), none] [.int (i_arm (m_q c) (m_r c))] h := by
  have tq : (2 * x).toNatClampNeg = 2 * i := (ix1 12 (by decide) q (by omega)).2
  have vq : vp_in (2 * x) 12 := (ix1 12 (by decide) q (by omega)).1
  have tc : (nI c).toNatClampNeg = c := nI_clamp (by omega)
  have vc : vp_in (nI c) 91 := nI_in hc (by decide)
  have b56 := bit56 n hn a ha
  have d : fzn 0 (nI a) (m_q c) (m_r c) (nI n) al = i_bit (nI n) (nI a) := rfl
  rw [d] at k
  refine go 60 (by decide) ?_
  simp only [KX, KY, KZ, KW, KV, Nat.reduceAdd, Nat.reduceSub, Nat.reduceLeDiff, true_and, and_true, true_or, or_true, or_self, reduceCtorEq, if_true, if_false, not_false_eq_true, eq_self, c214, H.e80, H.e81, H.e82, H.e83, H.e90, tq, tc, ek, tb_1_5 (show (0 : Int32) < 1 ∨ ¬ (0 : Int32) ≤ 5 from Or.inl (by decide))]
  refine ⟨vq, ?_⟩
  rcases i_bit01 (nI n) (nI a) with z | z
  · rw [z] at k ⊢
    first
    | exact k
    | exact ⟨Or.inl rfl, k⟩
  · rw [z] at k ⊢
    first
    | exact k
    | exact ⟨Or.inr rfl, k⟩
theorem l214_1 {h : ma_H} {Q : ma_Q} {A c n a i : Nat} {x al : Int32} (H : Sh h) (R : Rt h) (hc : c < 91) (hn : n < 7) (ha : a < 64) (q : x = nI i) (hi : i < 6) (ek : ai h 90 (2 * i) = 1) (k : Q (some (.int (fzn 1 (nI a) (m_q c) (m_r c) (nI n) al))) h) : At 214 Q 99 (0, 0) [some (.ref 80), some (.int (nI A)), some (.int (nI c)), some (.int x), some (.int (nI n)), some (.int al), some (.int (nI a)), some (.int (i_bit (nI n) (nI a))), none] [.int (i_arm (m_q c) (m_r c))] h := by
  have tq : (2 * x).toNatClampNeg = 2 * i := (ix1 12 (by decide) q (by omega)).2
  have vq : vp_in (2 * x) 12 := (ix1 12 (by decide) q (by omega)).1
  have tc : (nI c).toNatClampNeg = c := nI_clamp (by omega)
  have vc : vp_in (nI c) 91 := nI_in hc (by decide)
  have b56 := bit56 n hn a ha
  have d : fzn 1 (nI a) (m_q c) (m_r c) (nI n) al = i_bit (nI n) (nI a ||| 56) := rfl
  rw [d, b56] at k
  refine go 60 (by decide) ?_
  simp only [KX, KY, KZ, KW, KV, Nat.reduceAdd, Nat.reduceSub, Nat.reduceLeDiff, true_and, and_true, true_or, or_true, or_self, reduceCtorEq, if_true, if_false, not_false_eq_true, eq_self, c214, H.e80, H.e81, H.e82, H.e83, H.e90, tq, tc, ek, ts_1_5_1, tz_1_5_1, List.getD_cons_zero, List.getD_cons_succ]
  refine ⟨vq, ?_⟩
  rcases i_bit01 (nI n) (nI a) with z | z
  · rw [z] at k ⊢
    rw [if_pos rfl] at k
    try rw [if_pos rfl]
    by_cases z2 : nI n < 4
    · rw [if_pos z2] at k ⊢; exact k
    · rw [if_neg z2] at k ⊢; exact k
  · rw [z] at k ⊢
    rw [if_neg (by decide)] at k
    try rw [if_neg (by decide)]
    exact k
theorem l214_2 {h : ma_H} {Q : ma_Q} {A c n a i : Nat} {x al : Int32} (H : Sh h) (R : Rt h) (hc : c < 91) (hn : n < 7) (ha : a < 64) (q : x = nI i) (hi : i < 6) (ek : ai h 90 (2 * i) = 2) (k : Q (some (.int (fzn 2 (nI a) (m_q c) (m_r c) (nI n) al))) h) : At 214 Q 99 (0, 0) [some (.ref 80), some (.int (nI A)), some (.int (nI c)), some (.int x), some (.int (nI n)), some (.int al), some (.int (nI a)), some (.int (i_bit (nI n) (nI a))), none] [.int (i_arm (m_q c) (m_r c))] h := by
  have tq : (2 * x).toNatClampNeg = 2 * i := (ix1 12 (by decide) q (by omega)).2
  have vq : vp_in (2 * x) 12 := (ix1 12 (by decide) q (by omega)).1
  have tc : (nI c).toNatClampNeg = c := nI_clamp (by omega)
  have vc : vp_in (nI c) 91 := nI_in hc (by decide)
  have b56 := bit56 n hn a ha
  have d : fzn 2 (nI a) (m_q c) (m_r c) (nI n) al = i_bit al (nI a) := rfl
  rw [d] at k
  refine go 60 (by decide) ?_
  simp only [KX, KY, KZ, KW, KV, Nat.reduceAdd, Nat.reduceSub, Nat.reduceLeDiff, true_and, and_true, true_or, or_true, or_self, reduceCtorEq, if_true, if_false, not_false_eq_true, eq_self, c214, H.e80, H.e81, H.e82, H.e83, H.e90, tq, tc, ek, ts_1_5_2, tz_1_5_2, List.getD_cons_zero, List.getD_cons_succ]
  refine ⟨vq, ?_⟩
  refine s213 ?_
  refine go 60 (by decide) ?_
  simp only [KX, KY, KZ, KW, KV, Nat.reduceAdd, Nat.reduceSub, Nat.reduceLeDiff, true_and, and_true, true_or, or_true, or_self, reduceCtorEq, if_true, if_false, not_false_eq_true, eq_self, c214, H.e80, H.e81, H.e82, H.e83, H.e90, tq, tc, ek, ts_1_5_2, tz_1_5_2, List.getD_cons_zero, List.getD_cons_succ]
  rcases i_bit01 al (nI a) with z | z
  · rw [z] at k ⊢
    first
    | exact k
    | exact ⟨Or.inl rfl, k⟩
  · rw [z] at k ⊢
    first
    | exact k
    | exact ⟨Or.inr rfl, k⟩
theorem l214_3 {h : ma_H} {Q : ma_Q} {A c n a i : Nat} {x al : Int32} (H : Sh h) (R : Rt h) (hc : c < 91) (hn : n < 7) (ha : a < 64) (q : x = nI i) (hi : i < 6) (ek : ai h 90 (2 * i) = 3) (k : Q (some (.int (fzn 3 (nI a) (m_q c) (m_r c) (nI n) al))) h) : At 214 Q 99 (0, 0) [some (.ref 80), some (.int (nI A)), some (.int (nI c)), some (.int x), some (.int (nI n)), some (.int al), some (.int (nI a)), some (.int (i_bit (nI n) (nI a))), none] [.int (i_arm (m_q c) (m_r c))] h := by
  have tq : (2 * x).toNatClampNeg = 2 * i := (ix1 12 (by decide) q (by omega)).2
  have vq : vp_in (2 * x) 12 := (ix1 12 (by decide) q (by omega)).1
  have tc : (nI c).toNatClampNeg = c := nI_clamp (by omega)
  have vc : vp_in (nI c) 91 := nI_in hc (by decide)
  have b56 := bit56 n hn a ha
  have d : fzn 3 (nI a) (m_q c) (m_r c) (nI n) al = if i_arm (m_q c) (m_r c) = 0 then 0 else i_bit (nI n) (nI a ||| 56) := rfl
  rw [d, b56] at k
  refine go 60 (by decide) ?_
  simp only [KX, KY, KZ, KW, KV, Nat.reduceAdd, Nat.reduceSub, Nat.reduceLeDiff, true_and, and_true, true_or, or_true, or_self, reduceCtorEq, if_true, if_false, not_false_eq_true, eq_self, c214, H.e80, H.e81, H.e82, H.e83, H.e90, tq, tc, ek, ts_1_5_3, tz_1_5_3, List.getD_cons_zero, List.getD_cons_succ]
  refine ⟨vq, ?_⟩
  rcases i_arm01 (m_q c) (m_r c) with y | y
  · rw [y] at k ⊢
    rw [if_pos rfl] at k ⊢
    exact k
  · rw [y] at k ⊢
    rw [if_neg (by decide)] at k ⊢
    rcases i_bit01 (nI n) (nI a) with z | z
    · rw [z] at k ⊢
      rw [if_pos rfl] at k
      try rw [if_pos rfl]
      by_cases z2 : nI n < 4
      · rw [if_pos z2] at k ⊢; exact k
      · rw [if_neg z2] at k ⊢; exact k
    · rw [z] at k ⊢
      rw [if_neg (by decide)] at k
      try rw [if_neg (by decide)]
      exact k
theorem l214_4 {h : ma_H} {Q : ma_Q} {A c n a i : Nat} {x al : Int32} (H : Sh h) (R : Rt h) (hc : c < 91) (hn : n < 7) (ha : a < 64) (q : x = nI i) (hi : i < 6) (ek : ai h 90 (2 * i) = 4) (k : Q (some (.int (fzn 4 (nI a) (m_q c) (m_r c) (nI n) al))) h) : At 214 Q 99 (0, 0) [some (.ref 80), some (.int (nI A)), some (.int (nI c)), some (.int x), some (.int (nI n)), some (.int al), some (.int (nI a)), some (.int (i_bit (nI n) (nI a))), none] [.int (i_arm (m_q c) (m_r c))] h := by
  have tq : (2 * x).toNatClampNeg = 2 * i := (ix1 12 (by decide) q (by omega)).2
  have vq : vp_in (2 * x) 12 := (ix1 12 (by decide) q (by omega)).1
  have tc : (nI c).toNatClampNeg = c := nI_clamp (by omega)
  have vc : vp_in (nI c) 91 := nI_in hc (by decide)
  have b56 := bit56 n hn a ha
  have d : fzn 4 (nI a) (m_q c) (m_r c) (nI n) al = if i_arm (m_q c) (m_r c) = 0 then (if nI n = 1 then (if i_rg (m_q c) (m_r c) - i_rg (m_q c) (m_r c) / 2 * 2 = 0 then 1 else 0) else 0) else i_bit (nI n) (nI a ||| 56) := rfl
  rw [d, b56] at k
  have tr : ai h 83 c = i_rg (m_q c) (m_r c) := (R.1 c hc).2.2.1
  refine go 60 (by decide) ?_
  simp only [KX, KY, KZ, KW, KV, Nat.reduceAdd, Nat.reduceSub, Nat.reduceLeDiff, true_and, and_true, true_or, or_true, or_self, reduceCtorEq, if_true, if_false, not_false_eq_true, eq_self, c214, H.e80, H.e81, H.e82, H.e83, H.e90, tq, tc, ek, ts_1_5_4, tz_1_5_4, List.getD_cons_zero, List.getD_cons_succ, tr]
  refine ⟨vq, ?_⟩
  rcases i_arm01 (m_q c) (m_r c) with y | y
  · rw [y] at k ⊢
    rw [if_pos rfl] at k ⊢
    by_cases z : nI n = 1
    · rw [if_pos z] at k ⊢
      refine ⟨vc, ?_⟩
      by_cases z2 : i_rg (m_q c) (m_r c) - i_rg (m_q c) (m_r c) / 2 * 2 = 0
      · rw [if_pos z2] at k ⊢; exact k
      · rw [if_neg z2] at k ⊢; exact k
    · rw [if_neg z] at k ⊢; exact k
  · rw [y] at k ⊢
    rw [if_neg (by decide)] at k ⊢
    rcases i_bit01 (nI n) (nI a) with z | z
    · rw [z] at k ⊢
      rw [if_pos rfl] at k
      try rw [if_pos rfl]
      by_cases z2 : nI n < 4
      · rw [if_pos z2] at k ⊢; exact k
      · rw [if_neg z2] at k ⊢; exact k
    · rw [z] at k ⊢
      rw [if_neg (by decide)] at k
      try rw [if_neg (by decide)]
      exact k
theorem l214_5 {h : ma_H} {Q : ma_Q} {A c n a i : Nat} {x al : Int32} (H : Sh h) (R : Rt h) (hc : c < 91) (hn : n < 7) (ha : a < 64) (q : x = nI i) (hi : i < 6) (ek : ai h 90 (2 * i) = 5) (k : Q (some (.int (fzn 5 (nI a) (m_q c) (m_r c) (nI n) al))) h) : At 214 Q 99 (0, 0) [some (.ref 80), some (.int (nI A)), some (.int (nI c)), some (.int x), some (.int (nI n)), some (.int al), some (.int (nI a)), some (.int (i_bit (nI n) (nI a))), none] [.int (i_arm (m_q c) (m_r c))] h := by
  have tq : (2 * x).toNatClampNeg = 2 * i := (ix1 12 (by decide) q (by omega)).2
  have vq : vp_in (2 * x) 12 := (ix1 12 (by decide) q (by omega)).1
  have tc : (nI c).toNatClampNeg = c := nI_clamp (by omega)
  have vc : vp_in (nI c) 91 := nI_in hc (by decide)
  have b56 := bit56 n hn a ha
  have d : fzn 5 (nI a) (m_q c) (m_r c) (nI n) al = if m_q c < 0 then 0 else i_bit (nI n) (nI a) := rfl
  rw [d] at k
  have t0 : ai h 81 c = m_q c := (R.1 c hc).1
  refine go 60 (by decide) ?_
  simp only [KX, KY, KZ, KW, KV, Nat.reduceAdd, Nat.reduceSub, Nat.reduceLeDiff, true_and, and_true, true_or, or_true, or_self, reduceCtorEq, if_true, if_false, not_false_eq_true, eq_self, c214, H.e80, H.e81, H.e82, H.e83, H.e90, tq, tc, ek, ts_1_5_5, tz_1_5_5, List.getD_cons_zero, List.getD_cons_succ, t0]
  refine ⟨vq, vc, ?_⟩
  by_cases y : m_q c < 0
  · rw [if_pos y] at k ⊢; exact k
  · rw [if_neg y] at k ⊢
    rcases i_bit01 (nI n) (nI a) with z | z
    · rw [z] at k ⊢; exact k
    · rw [z] at k ⊢
      try rw [if_neg (by decide)]
      exact k
