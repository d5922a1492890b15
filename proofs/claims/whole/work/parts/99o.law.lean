/-! law: the class reads ALL and COND -/
theorem pLoop_stop {q : Nat → Nat} {sep : Nat} {op : Tok} {item : Nat → PR} : ∀ (f : Nat) (r : PR), r.1 = false → pLoop q sep op item f r = r
  | 0, _, _ => rfl
  | f + 1, r, h => if_neg (fun z => by rw [h] at z; exact absurd z.1 (by decide))
theorem pLoop_go {q : Nat → Nat} {sep : Nat} {op : Tok} {item : Nat → PR} {f : Nat} {r : PR} (h : r.1 = true) (h2 : q r.2.1 = sep) : pLoop q sep op item (f + 1) r = pLoop q sep op item f ((item (r.2.1 + 1)).1, (item (r.2.1 + 1)).2.1, r.2.2.1 ++ (item (r.2.1 + 1)).2.2.1 ++ [op], r.2.2.2 ++ (item (r.2.1 + 1)).2.2.2 ++ [op]) := if_pos ⟨h, h2⟩
theorem pLoop_end {q : Nat → Nat} {sep : Nat} {op : Tok} {item : Nat → PR} {f : Nat} {r : PR} (h2 : ¬ q r.2.1 = sep) : pLoop q sep op item f r = r := by
  cases f with
  | zero => rfl
  | succ f => exact if_neg (fun z => h2 z.2)
theorem sAll3 {hb : ma_H} {b : Nat → Nat} {n K cl : Nat} (T : TS hb b n K) {pI : Nat → PR} (gI : PG (tq b n) K pI) (sI : SPC hb b n K cl 284 [.int 3] pI) : SPC hb b n K cl 283 [.int 3] (fun k => (pLoop (tq b n) 261 tkA pI 200 (pI k))) := by
  intro hh k C Q CC S hk lc kT kF
  have K2 := T.1
  have kT : ∀ h2, (pLoop (tq b n) 261 tkA pI 200 (pI k)).1 = true → CP hb n cl h2 (pLoop (tq b n) 261 tkA pI 200 (pI k)).2.1 (C.length + (pLoop (tq b n) 261 tkA pI 200 (pI k)).2.2.1.length) → seg (ai h2 10) 0 (C ++ (pLoop (tq b n) 261 tkA pI 200 (pI k)).2.2.1.map tc) → Q (some (.int 1)) h2 := kT
  have kF2 : ∀ i h2 c2, i ≤ 200 → (pLoop (tq b n) 261 tkA pI 200 (pI k)).1 = false → c2 ≤ 200 → CP hb n cl h2 (pLoop (tq b n) 261 tkA pI 200 (pI k)).2.1 c2 → At 283 Q 6 (0, 0) [some (.ref 2), some (.int 3), some (.int 0), some (.int (nI i))] [] h2 := by
    intro i h2 c2 i2 ok cc C2
    refine go 60 (by decide) ?_
    simp only [KX, KY, KZ, KW, KV, Nat.reduceAdd, Nat.reduceSub, Nat.reduceLeDiff, true_and, and_true, true_or, or_true, or_self, reduceCtorEq, if_true, if_false, not_false_eq_true, eq_self, c283, C2.e2, C2.e7]
    by_cases il : i < 200
    · rw [if_pos (show nI i < (200 : Int32) from nI_lt (b := 200) il (by decide))]
      try (refine go 60 (by decide) ?_; simp only [KX, KY, KZ, KW, KV, Nat.reduceAdd, Nat.reduceSub, Nat.reduceLeDiff, true_and, and_true, true_or, or_true, or_self, reduceCtorEq, if_true, if_false, not_false_eq_true, eq_self, c283, C2.e2, C2.e7])
      first
        | exact kF _ _ ok cc C2
        | exact ⟨Or.inl rfl, kF _ _ ok cc C2⟩
        | exact ⟨Or.inr rfl, kF _ _ ok cc C2⟩
    · rw [if_neg (show ¬ nI i < (200 : Int32) from nI_nlt (b := 200) (by omega) (by omega))]
      try (refine go 60 (by decide) ?_; simp only [KX, KY, KZ, KW, KV, Nat.reduceAdd, Nat.reduceSub, Nat.reduceLeDiff, true_and, and_true, true_or, or_true, or_self, reduceCtorEq, if_true, if_false, not_false_eq_true, eq_self, c283, C2.e2, C2.e7])
      first
        | exact kF _ _ ok cc C2
        | exact ⟨Or.inl rfl, kF _ _ ok cc C2⟩
        | exact ⟨Or.inr rfl, kF _ _ ok cc C2⟩
  have lp : ∀ f i (r : PR) h2, i + f = 200 → pLoop (tq b n) 261 tkA pI f r = (pLoop (tq b n) 261 tkA pI 200 (pI k)) → r.1 = true → k ≤ r.2.1 → r.2.1 ≤ K → r.2.2.1.length ≤ r.2.1 - k → CP hb n cl h2 r.2.1 (C.length + r.2.2.1.length) → seg (ai h2 10) 0 (C ++ r.2.2.1.map tc) → At 283 Q 6 (0, 0) [some (.ref 2), some (.int 3), some (.int 1), some (.int (nI i))] [] h2 := by
    intro f
    induction f with
    | zero =>
      intro i r h2 ei er ok k1 k2 k3 C2 S2
      obtain rfl : i = 200 := by omega
      have er : r = (pLoop (tq b n) 261 tkA pI 200 (pI k)) := er
      refine go 60 (by decide) ?_
      simp only [KX, KY, KZ, KW, KV, Nat.reduceAdd, Nat.reduceSub, Nat.reduceLeDiff, true_and, and_true, true_or, or_true, or_self, reduceCtorEq, if_true, if_false, not_false_eq_true, eq_self, c283, C2.e2, C2.e7]
      rw [if_neg (show ¬ nI 200 < (200 : Int32) from nI_nlt (Nat.le_refl _) (by decide))]
      try (refine go 60 (by decide) ?_; simp only [KX, KY, KZ, KW, KV, Nat.reduceAdd, Nat.reduceSub, Nat.reduceLeDiff, true_and, and_true, true_or, or_true, or_self, reduceCtorEq, if_true, if_false, not_false_eq_true, eq_self, c283, C2.e2, C2.e7])
      first
        | exact kT _ (by rw [← er]; exact ok) (by rw [← er]; exact C2) (by rw [← er]; exact S2)
        | exact ⟨Or.inl rfl, kT _ (by rw [← er]; exact ok) (by rw [← er]; exact C2) (by rw [← er]; exact S2)⟩
        | exact ⟨Or.inr rfl, kT _ (by rw [← er]; exact ok) (by rw [← er]; exact C2) (by rw [← er]; exact S2)⟩
    | succ f ih =>
      intro i r h2 ei er ok k1 k2 k3 C2 S2
      refine go 60 (by decide) ?_
      simp only [KX, KY, KZ, KW, KV, Nat.reduceAdd, Nat.reduceSub, Nat.reduceLeDiff, true_and, and_true, true_or, or_true, or_self, reduceCtorEq, if_true, if_false, not_false_eq_true, eq_self, c283, C2.e2, C2.e7]
      rw [if_pos (show nI i < (200 : Int32) from nI_lt (b := 200) (by omega) (by decide))]
      try (refine go 60 (by decide) ?_; simp only [KX, KY, KZ, KW, KV, Nat.reduceAdd, Nat.reduceSub, Nat.reduceLeDiff, true_and, and_true, true_or, or_true, or_self, reduceCtorEq, if_true, if_false, not_false_eq_true, eq_self, c283, C2.e2, C2.e7])
      refine g73 T C2 k2 (s := 261) (by decide) S2 (fun y k4 h3 C3 S3 => ?_) (fun y => ?_)
      · rw [pLoop_go ok y] at er
        obtain ⟨g1, g2, g3⟩ := gI _ k4
        refine go 60 (by decide) ?_
        simp only [KX, KY, KZ, KW, KV, Nat.reduceAdd, Nat.reduceSub, Nat.reduceLeDiff, true_and, and_true, true_or, or_true, or_self, reduceCtorEq, if_true, if_false, not_false_eq_true, eq_self, c283, C3.e2, C3.e7]
        refine sI _ _ (C ++ r.2.2.1.map tc) _ (by rw [seg_len]; exact C3) S3 k4 (by rw [seg_len]; omega) (fun h4 ok4 C4 S4 => ?_) (fun h4 c4 ok4 cc4 C4 => ?_)
        · refine go 60 (by decide) ?_
          simp only [KX, KY, KZ, KW, KV, Nat.reduceAdd, Nat.reduceSub, Nat.reduceLeDiff, true_and, and_true, true_or, or_true, or_self, reduceCtorEq, if_true, if_false, not_false_eq_true, eq_self, c283, C4.e2, C4.e7]
          rw [seg_len] at C4
          refine g55 C4 S4 (by rw [List.length_append, seg_len, List.length_map]) (by omega) (fun h5 C5 S5 => ?_)
          first
            | (with_reducible show At 283 _ 6 _ _ _ _)
            | (refine go 60 (by decide) ?_; simp only [KX, KY, KZ, KW, KV, Nat.reduceAdd, Nat.reduceSub, Nat.reduceLeDiff, true_and, and_true, true_or, or_true, or_self, reduceCtorEq, if_true, if_false, not_false_eq_true, eq_self, c283, C5.e2, C5.e7])
          first
            | (with_reducible show At 283 _ 6 _ _ _ _)
            | (refine go 60 (by decide) ?_; simp only [KX, KY, KZ, KW, KV, Nat.reduceAdd, Nat.reduceSub, Nat.reduceLeDiff, true_and, and_true, true_or, or_true, or_self, reduceCtorEq, if_true, if_false, not_false_eq_true, eq_self, c283, C5.e2, C5.e7])
          first
            | (with_reducible show At 283 _ 6 _ _ _ _)
            | (refine go 60 (by decide) ?_; simp only [KX, KY, KZ, KW, KV, Nat.reduceAdd, Nat.reduceSub, Nat.reduceLeDiff, true_and, and_true, true_or, or_true, or_self, reduceCtorEq, if_true, if_false, not_false_eq_true, eq_self, c283, C5.e2, C5.e7])
          rw [nI_1 i]
          refine ih (i + 1) _ h5 (by omega) er ok4 (by show k ≤ (pI (r.2.1 + 1)).2.1; omega) g2 ?_ ?_ ?_
          · show (r.2.2.1 ++ (pI (r.2.1 + 1)).2.2.1 ++ [tkA]).length ≤ (pI (r.2.1 + 1)).2.1 - k
            simp only [List.length_append, List.length_cons, List.length_nil]
            omega
          · show CP hb n cl h5 (pI (r.2.1 + 1)).2.1 (C.length + (r.2.2.1 ++ (pI (r.2.1 + 1)).2.2.1 ++ [tkA]).length)
            rw [show C.length + (r.2.2.1 ++ (pI (r.2.1 + 1)).2.2.1 ++ [tkA]).length = C.length + r.2.2.1.length + (pI (r.2.1 + 1)).2.2.1.length + 1 by simp only [List.length_append, List.length_cons, List.length_nil]; omega]
            exact C5
          · show seg (ai h5 10) 0 (C ++ (r.2.2.1 ++ (pI (r.2.1 + 1)).2.2.1 ++ [tkA]).map tc)
            rw [← SPC.one_end, List.map_append, ← List.append_assoc]
            exact S5
        · refine go 60 (by decide) ?_
          simp only [KX, KY, KZ, KW, KV, Nat.reduceAdd, Nat.reduceSub, Nat.reduceLeDiff, true_and, and_true, true_or, or_true, or_self, reduceCtorEq, if_true, if_false, not_false_eq_true, eq_self, c283, C4.e2, C4.e7]
          refine f55 C4 cc4 (fun h5 c5 cc5 C5 => ?_)
          first
            | (with_reducible show At 283 _ 6 _ _ _ _)
            | (refine go 60 (by decide) ?_; simp only [KX, KY, KZ, KW, KV, Nat.reduceAdd, Nat.reduceSub, Nat.reduceLeDiff, true_and, and_true, true_or, or_true, or_self, reduceCtorEq, if_true, if_false, not_false_eq_true, eq_self, c283, C5.e2, C5.e7])
          first
            | (with_reducible show At 283 _ 6 _ _ _ _)
            | (refine go 60 (by decide) ?_; simp only [KX, KY, KZ, KW, KV, Nat.reduceAdd, Nat.reduceSub, Nat.reduceLeDiff, true_and, and_true, true_or, or_true, or_self, reduceCtorEq, if_true, if_false, not_false_eq_true, eq_self, c283, C5.e2, C5.e7])
          first
            | (with_reducible show At 283 _ 6 _ _ _ _)
            | (refine go 60 (by decide) ?_; simp only [KX, KY, KZ, KW, KV, Nat.reduceAdd, Nat.reduceSub, Nat.reduceLeDiff, true_and, and_true, true_or, or_true, or_self, reduceCtorEq, if_true, if_false, not_false_eq_true, eq_self, c283, C5.e2, C5.e7])
          rw [nI_1 i]
          rw [pLoop_stop f _ (by show (pI (r.2.1 + 1)).1 = false; exact ok4)] at er
          exact kF2 (i + 1) h5 c5 (by omega) (by rw [← er]; exact ok4) cc5 (by rw [← er]; exact C5)
      · rw [pLoop_end y] at er
        refine go 60 (by decide) ?_
        simp only [KX, KY, KZ, KW, KV, Nat.reduceAdd, Nat.reduceSub, Nat.reduceLeDiff, true_and, and_true, true_or, or_true, or_self, reduceCtorEq, if_true, if_false, not_false_eq_true, eq_self, c283, C2.e2, C2.e7]
        first
          | exact kT _ (by rw [← er]; exact ok) (by rw [← er]; exact C2) (by rw [← er]; exact S2)
          | exact ⟨Or.inl rfl, kT _ (by rw [← er]; exact ok) (by rw [← er]; exact C2) (by rw [← er]; exact S2)⟩
          | exact ⟨Or.inr rfl, kT _ (by rw [← er]; exact ok) (by rw [← er]; exact C2) (by rw [← er]; exact S2)⟩
  refine ma_enter (m := 283) (Or.inl (by decide)) (by show 2 ≤ mt_n 283; decide +kernel) ?_
  show At 283 Q 0 (mt_c 283) [some (.ref 2), some (.int 3), none, none] [] hh
  refine go 60 (by decide) ?_
  simp only [KX, KY, KZ, KW, KV, Nat.reduceAdd, Nat.reduceSub, Nat.reduceLeDiff, true_and, and_true, true_or, or_true, or_self, reduceCtorEq, if_true, if_false, not_false_eq_true, eq_self, c283, CC.e2, CC.e7]
  obtain ⟨g1, g2, g3⟩ := gI _ hk
  refine sI _ _ C _ CC S hk lc (fun h4 ok4 C4 S4 => ?_) (fun h4 c4 ok4 cc4 C4 => ?_)
  · first
      | (with_reducible show At 283 _ 6 _ _ _ _)
      | (refine go 60 (by decide) ?_; simp only [KX, KY, KZ, KW, KV, Nat.reduceAdd, Nat.reduceSub, Nat.reduceLeDiff, true_and, and_true, true_or, or_true, or_self, reduceCtorEq, if_true, if_false, not_false_eq_true, eq_self, c283, C4.e2, C4.e7])
    first
      | (with_reducible show At 283 _ 6 _ _ _ _)
      | (refine go 60 (by decide) ?_; simp only [KX, KY, KZ, KW, KV, Nat.reduceAdd, Nat.reduceSub, Nat.reduceLeDiff, true_and, and_true, true_or, or_true, or_self, reduceCtorEq, if_true, if_false, not_false_eq_true, eq_self, c283, C4.e2, C4.e7])
    first
      | (with_reducible show At 283 _ 6 _ _ _ _)
      | (refine go 60 (by decide) ?_; simp only [KX, KY, KZ, KW, KV, Nat.reduceAdd, Nat.reduceSub, Nat.reduceLeDiff, true_and, and_true, true_or, or_true, or_self, reduceCtorEq, if_true, if_false, not_false_eq_true, eq_self, c283, C4.e2, C4.e7])
    exact lp 200 0 (pI k) h4 rfl rfl ok4 g1 g2 g3 C4 S4
  · first
      | (with_reducible show At 283 _ 6 _ _ _ _)
      | (refine go 60 (by decide) ?_; simp only [KX, KY, KZ, KW, KV, Nat.reduceAdd, Nat.reduceSub, Nat.reduceLeDiff, true_and, and_true, true_or, or_true, or_self, reduceCtorEq, if_true, if_false, not_false_eq_true, eq_self, c283, C4.e2, C4.e7])
    first
      | (with_reducible show At 283 _ 6 _ _ _ _)
      | (refine go 60 (by decide) ?_; simp only [KX, KY, KZ, KW, KV, Nat.reduceAdd, Nat.reduceSub, Nat.reduceLeDiff, true_and, and_true, true_or, or_true, or_self, reduceCtorEq, if_true, if_false, not_false_eq_true, eq_self, c283, C4.e2, C4.e7])
    first
      | (with_reducible show At 283 _ 6 _ _ _ _)
      | (refine go 60 (by decide) ?_; simp only [KX, KY, KZ, KW, KV, Nat.reduceAdd, Nat.reduceSub, Nat.reduceLeDiff, true_and, and_true, true_or, or_true, or_self, reduceCtorEq, if_true, if_false, not_false_eq_true, eq_self, c283, C4.e2, C4.e7])
    exact kF2 0 h4 c4 (Nat.zero_le _) (by rw [pLoop_stop _ _ ok4]; exact ok4) cc4 (by rw [pLoop_stop _ _ ok4]; exact C4)
theorem sCond3 {hb : ma_H} {b : Nat → Nat} {n K cl : Nat} (T : TS hb b n K) {pI : Nat → PR} (gI : PG (tq b n) K pI) (sI : SPC hb b n K cl 283 [.int 3] pI) : SPC hb b n K cl 282 [.int 3] (fun k => (pLoop (tq b n) 260 tkO pI 200 (pI k))) := by
  intro hh k C Q CC S hk lc kT kF
  have K2 := T.1
  have kT : ∀ h2, (pLoop (tq b n) 260 tkO pI 200 (pI k)).1 = true → CP hb n cl h2 (pLoop (tq b n) 260 tkO pI 200 (pI k)).2.1 (C.length + (pLoop (tq b n) 260 tkO pI 200 (pI k)).2.2.1.length) → seg (ai h2 10) 0 (C ++ (pLoop (tq b n) 260 tkO pI 200 (pI k)).2.2.1.map tc) → Q (some (.int 1)) h2 := kT
  have kF2 : ∀ i h2 c2, i ≤ 200 → (pLoop (tq b n) 260 tkO pI 200 (pI k)).1 = false → c2 ≤ 200 → CP hb n cl h2 (pLoop (tq b n) 260 tkO pI 200 (pI k)).2.1 c2 → At 282 Q 6 (0, 0) [some (.ref 2), some (.int 3), some (.int 0), some (.int (nI i))] [] h2 := by
    intro i h2 c2 i2 ok cc C2
    refine go 60 (by decide) ?_
    simp only [KX, KY, KZ, KW, KV, Nat.reduceAdd, Nat.reduceSub, Nat.reduceLeDiff, true_and, and_true, true_or, or_true, or_self, reduceCtorEq, if_true, if_false, not_false_eq_true, eq_self, c282, C2.e2, C2.e7]
    by_cases il : i < 200
    · rw [if_pos (show nI i < (200 : Int32) from nI_lt (b := 200) il (by decide))]
      try (refine go 60 (by decide) ?_; simp only [KX, KY, KZ, KW, KV, Nat.reduceAdd, Nat.reduceSub, Nat.reduceLeDiff, true_and, and_true, true_or, or_true, or_self, reduceCtorEq, if_true, if_false, not_false_eq_true, eq_self, c282, C2.e2, C2.e7])
      first
        | exact kF _ _ ok cc C2
        | exact ⟨Or.inl rfl, kF _ _ ok cc C2⟩
        | exact ⟨Or.inr rfl, kF _ _ ok cc C2⟩
    · rw [if_neg (show ¬ nI i < (200 : Int32) from nI_nlt (b := 200) (by omega) (by omega))]
      try (refine go 60 (by decide) ?_; simp only [KX, KY, KZ, KW, KV, Nat.reduceAdd, Nat.reduceSub, Nat.reduceLeDiff, true_and, and_true, true_or, or_true, or_self, reduceCtorEq, if_true, if_false, not_false_eq_true, eq_self, c282, C2.e2, C2.e7])
      first
        | exact kF _ _ ok cc C2
        | exact ⟨Or.inl rfl, kF _ _ ok cc C2⟩
        | exact ⟨Or.inr rfl, kF _ _ ok cc C2⟩
  have lp : ∀ f i (r : PR) h2, i + f = 200 → pLoop (tq b n) 260 tkO pI f r = (pLoop (tq b n) 260 tkO pI 200 (pI k)) → r.1 = true → k ≤ r.2.1 → r.2.1 ≤ K → r.2.2.1.length ≤ r.2.1 - k → CP hb n cl h2 r.2.1 (C.length + r.2.2.1.length) → seg (ai h2 10) 0 (C ++ r.2.2.1.map tc) → At 282 Q 6 (0, 0) [some (.ref 2), some (.int 3), some (.int 1), some (.int (nI i))] [] h2 := by
    intro f
    induction f with
    | zero =>
      intro i r h2 ei er ok k1 k2 k3 C2 S2
      obtain rfl : i = 200 := by omega
      have er : r = (pLoop (tq b n) 260 tkO pI 200 (pI k)) := er
      refine go 60 (by decide) ?_
      simp only [KX, KY, KZ, KW, KV, Nat.reduceAdd, Nat.reduceSub, Nat.reduceLeDiff, true_and, and_true, true_or, or_true, or_self, reduceCtorEq, if_true, if_false, not_false_eq_true, eq_self, c282, C2.e2, C2.e7]
      rw [if_neg (show ¬ nI 200 < (200 : Int32) from nI_nlt (Nat.le_refl _) (by decide))]
      try (refine go 60 (by decide) ?_; simp only [KX, KY, KZ, KW, KV, Nat.reduceAdd, Nat.reduceSub, Nat.reduceLeDiff, true_and, and_true, true_or, or_true, or_self, reduceCtorEq, if_true, if_false, not_false_eq_true, eq_self, c282, C2.e2, C2.e7])
      first
        | exact kT _ (by rw [← er]; exact ok) (by rw [← er]; exact C2) (by rw [← er]; exact S2)
        | exact ⟨Or.inl rfl, kT _ (by rw [← er]; exact ok) (by rw [← er]; exact C2) (by rw [← er]; exact S2)⟩
        | exact ⟨Or.inr rfl, kT _ (by rw [← er]; exact ok) (by rw [← er]; exact C2) (by rw [← er]; exact S2)⟩
    | succ f ih =>
      intro i r h2 ei er ok k1 k2 k3 C2 S2
      refine go 60 (by decide) ?_
      simp only [KX, KY, KZ, KW, KV, Nat.reduceAdd, Nat.reduceSub, Nat.reduceLeDiff, true_and, and_true, true_or, or_true, or_self, reduceCtorEq, if_true, if_false, not_false_eq_true, eq_self, c282, C2.e2, C2.e7]
      rw [if_pos (show nI i < (200 : Int32) from nI_lt (b := 200) (by omega) (by decide))]
      try (refine go 60 (by decide) ?_; simp only [KX, KY, KZ, KW, KV, Nat.reduceAdd, Nat.reduceSub, Nat.reduceLeDiff, true_and, and_true, true_or, or_true, or_self, reduceCtorEq, if_true, if_false, not_false_eq_true, eq_self, c282, C2.e2, C2.e7])
      refine g73 T C2 k2 (s := 260) (by decide) S2 (fun y k4 h3 C3 S3 => ?_) (fun y => ?_)
      · rw [pLoop_go ok y] at er
        obtain ⟨g1, g2, g3⟩ := gI _ k4
        refine go 60 (by decide) ?_
        simp only [KX, KY, KZ, KW, KV, Nat.reduceAdd, Nat.reduceSub, Nat.reduceLeDiff, true_and, and_true, true_or, or_true, or_self, reduceCtorEq, if_true, if_false, not_false_eq_true, eq_self, c282, C3.e2, C3.e7]
        refine sI _ _ (C ++ r.2.2.1.map tc) _ (by rw [seg_len]; exact C3) S3 k4 (by rw [seg_len]; omega) (fun h4 ok4 C4 S4 => ?_) (fun h4 c4 ok4 cc4 C4 => ?_)
        · refine go 60 (by decide) ?_
          simp only [KX, KY, KZ, KW, KV, Nat.reduceAdd, Nat.reduceSub, Nat.reduceLeDiff, true_and, and_true, true_or, or_true, or_self, reduceCtorEq, if_true, if_false, not_false_eq_true, eq_self, c282, C4.e2, C4.e7]
          rw [seg_len] at C4
          refine g55 C4 S4 (by rw [List.length_append, seg_len, List.length_map]) (by omega) (fun h5 C5 S5 => ?_)
          first
            | (with_reducible show At 282 _ 6 _ _ _ _)
            | (refine go 60 (by decide) ?_; simp only [KX, KY, KZ, KW, KV, Nat.reduceAdd, Nat.reduceSub, Nat.reduceLeDiff, true_and, and_true, true_or, or_true, or_self, reduceCtorEq, if_true, if_false, not_false_eq_true, eq_self, c282, C5.e2, C5.e7])
          first
            | (with_reducible show At 282 _ 6 _ _ _ _)
            | (refine go 60 (by decide) ?_; simp only [KX, KY, KZ, KW, KV, Nat.reduceAdd, Nat.reduceSub, Nat.reduceLeDiff, true_and, and_true, true_or, or_true, or_self, reduceCtorEq, if_true, if_false, not_false_eq_true, eq_self, c282, C5.e2, C5.e7])
          first
            | (with_reducible show At 282 _ 6 _ _ _ _)
            | (refine go 60 (by decide) ?_; simp only [KX, KY, KZ, KW, KV, Nat.reduceAdd, Nat.reduceSub, Nat.reduceLeDiff, true_and, and_true, true_or, or_true, or_self, reduceCtorEq, if_true, if_false, not_false_eq_true, eq_self, c282, C5.e2, C5.e7])
          rw [nI_1 i]
          refine ih (i + 1) _ h5 (by omega) er ok4 (by show k ≤ (pI (r.2.1 + 1)).2.1; omega) g2 ?_ ?_ ?_
          · show (r.2.2.1 ++ (pI (r.2.1 + 1)).2.2.1 ++ [tkO]).length ≤ (pI (r.2.1 + 1)).2.1 - k
            simp only [List.length_append, List.length_cons, List.length_nil]
            omega
          · show CP hb n cl h5 (pI (r.2.1 + 1)).2.1 (C.length + (r.2.2.1 ++ (pI (r.2.1 + 1)).2.2.1 ++ [tkO]).length)
            rw [show C.length + (r.2.2.1 ++ (pI (r.2.1 + 1)).2.2.1 ++ [tkO]).length = C.length + r.2.2.1.length + (pI (r.2.1 + 1)).2.2.1.length + 1 by simp only [List.length_append, List.length_cons, List.length_nil]; omega]
            exact C5
          · show seg (ai h5 10) 0 (C ++ (r.2.2.1 ++ (pI (r.2.1 + 1)).2.2.1 ++ [tkO]).map tc)
            rw [← SPC.one_end, List.map_append, ← List.append_assoc]
            exact S5
        · refine go 60 (by decide) ?_
          simp only [KX, KY, KZ, KW, KV, Nat.reduceAdd, Nat.reduceSub, Nat.reduceLeDiff, true_and, and_true, true_or, or_true, or_self, reduceCtorEq, if_true, if_false, not_false_eq_true, eq_self, c282, C4.e2, C4.e7]
          refine f55 C4 cc4 (fun h5 c5 cc5 C5 => ?_)
          first
            | (with_reducible show At 282 _ 6 _ _ _ _)
            | (refine go 60 (by decide) ?_; simp only [KX, KY, KZ, KW, KV, Nat.reduceAdd, Nat.reduceSub, Nat.reduceLeDiff, true_and, and_true, true_or, or_true, or_self, reduceCtorEq, if_true, if_false, not_false_eq_true, eq_self, c282, C5.e2, C5.e7])
          first
            | (with_reducible show At 282 _ 6 _ _ _ _)
            | (refine go 60 (by decide) ?_; simp only [KX, KY, KZ, KW, KV, Nat.reduceAdd, Nat.reduceSub, Nat.reduceLeDiff, true_and, and_true, true_or, or_true, or_self, reduceCtorEq, if_true, if_false, not_false_eq_true, eq_self, c282, C5.e2, C5.e7])
          first
            | (with_reducible show At 282 _ 6 _ _ _ _)
            | (refine go 60 (by decide) ?_; simp only [KX, KY, KZ, KW, KV, Nat.reduceAdd, Nat.reduceSub, Nat.reduceLeDiff, true_and, and_true, true_or, or_true, or_self, reduceCtorEq, if_true, if_false, not_false_eq_true, eq_self, c282, C5.e2, C5.e7])
          rw [nI_1 i]
          rw [pLoop_stop f _ (by show (pI (r.2.1 + 1)).1 = false; exact ok4)] at er
          exact kF2 (i + 1) h5 c5 (by omega) (by rw [← er]; exact ok4) cc5 (by rw [← er]; exact C5)
      · rw [pLoop_end y] at er
        refine go 60 (by decide) ?_
        simp only [KX, KY, KZ, KW, KV, Nat.reduceAdd, Nat.reduceSub, Nat.reduceLeDiff, true_and, and_true, true_or, or_true, or_self, reduceCtorEq, if_true, if_false, not_false_eq_true, eq_self, c282, C2.e2, C2.e7]
        first
          | exact kT _ (by rw [← er]; exact ok) (by rw [← er]; exact C2) (by rw [← er]; exact S2)
          | exact ⟨Or.inl rfl, kT _ (by rw [← er]; exact ok) (by rw [← er]; exact C2) (by rw [← er]; exact S2)⟩
          | exact ⟨Or.inr rfl, kT _ (by rw [← er]; exact ok) (by rw [← er]; exact C2) (by rw [← er]; exact S2)⟩
  refine ma_enter (m := 282) (Or.inl (by decide)) (by show 2 ≤ mt_n 282; decide +kernel) ?_
  show At 282 Q 0 (mt_c 282) [some (.ref 2), some (.int 3), none, none] [] hh
  refine go 60 (by decide) ?_
  simp only [KX, KY, KZ, KW, KV, Nat.reduceAdd, Nat.reduceSub, Nat.reduceLeDiff, true_and, and_true, true_or, or_true, or_self, reduceCtorEq, if_true, if_false, not_false_eq_true, eq_self, c282, CC.e2, CC.e7]
  obtain ⟨g1, g2, g3⟩ := gI _ hk
  refine sI _ _ C _ CC S hk lc (fun h4 ok4 C4 S4 => ?_) (fun h4 c4 ok4 cc4 C4 => ?_)
  · first
      | (with_reducible show At 282 _ 6 _ _ _ _)
      | (refine go 60 (by decide) ?_; simp only [KX, KY, KZ, KW, KV, Nat.reduceAdd, Nat.reduceSub, Nat.reduceLeDiff, true_and, and_true, true_or, or_true, or_self, reduceCtorEq, if_true, if_false, not_false_eq_true, eq_self, c282, C4.e2, C4.e7])
    first
      | (with_reducible show At 282 _ 6 _ _ _ _)
      | (refine go 60 (by decide) ?_; simp only [KX, KY, KZ, KW, KV, Nat.reduceAdd, Nat.reduceSub, Nat.reduceLeDiff, true_and, and_true, true_or, or_true, or_self, reduceCtorEq, if_true, if_false, not_false_eq_true, eq_self, c282, C4.e2, C4.e7])
    first
      | (with_reducible show At 282 _ 6 _ _ _ _)
      | (refine go 60 (by decide) ?_; simp only [KX, KY, KZ, KW, KV, Nat.reduceAdd, Nat.reduceSub, Nat.reduceLeDiff, true_and, and_true, true_or, or_true, or_self, reduceCtorEq, if_true, if_false, not_false_eq_true, eq_self, c282, C4.e2, C4.e7])
    exact lp 200 0 (pI k) h4 rfl rfl ok4 g1 g2 g3 C4 S4
  · first
      | (with_reducible show At 282 _ 6 _ _ _ _)
      | (refine go 60 (by decide) ?_; simp only [KX, KY, KZ, KW, KV, Nat.reduceAdd, Nat.reduceSub, Nat.reduceLeDiff, true_and, and_true, true_or, or_true, or_self, reduceCtorEq, if_true, if_false, not_false_eq_true, eq_self, c282, C4.e2, C4.e7])
    first
      | (with_reducible show At 282 _ 6 _ _ _ _)
      | (refine go 60 (by decide) ?_; simp only [KX, KY, KZ, KW, KV, Nat.reduceAdd, Nat.reduceSub, Nat.reduceLeDiff, true_and, and_true, true_or, or_true, or_self, reduceCtorEq, if_true, if_false, not_false_eq_true, eq_self, c282, C4.e2, C4.e7])
    first
      | (with_reducible show At 282 _ 6 _ _ _ _)
      | (refine go 60 (by decide) ?_; simp only [KX, KY, KZ, KW, KV, Nat.reduceAdd, Nat.reduceSub, Nat.reduceLeDiff, true_and, and_true, true_or, or_true, or_self, reduceCtorEq, if_true, if_false, not_false_eq_true, eq_self, c282, C4.e2, C4.e7])
    exact kF2 0 h4 c4 (Nat.zero_le _) (by rw [pLoop_stop _ _ ok4]; exact ok4) cc4 (by rw [pLoop_stop _ _ ok4]; exact C4)
theorem sAll2 {hb : ma_H} {b : Nat → Nat} {n K cl : Nat} (T : TS hb b n K) {pI : Nat → PR} (gI : PG (tq b n) K pI) (sI : SPC hb b n K cl 281 [.int 2] pI) : SPC hb b n K cl 280 [.int 2] (fun k => (pLoop (tq b n) 261 tkA pI 200 (pI k))) := by
  intro hh k C Q CC S hk lc kT kF
  have K2 := T.1
  have kT : ∀ h2, (pLoop (tq b n) 261 tkA pI 200 (pI k)).1 = true → CP hb n cl h2 (pLoop (tq b n) 261 tkA pI 200 (pI k)).2.1 (C.length + (pLoop (tq b n) 261 tkA pI 200 (pI k)).2.2.1.length) → seg (ai h2 10) 0 (C ++ (pLoop (tq b n) 261 tkA pI 200 (pI k)).2.2.1.map tc) → Q (some (.int 1)) h2 := kT
  have kF2 : ∀ i h2 c2, i ≤ 200 → (pLoop (tq b n) 261 tkA pI 200 (pI k)).1 = false → c2 ≤ 200 → CP hb n cl h2 (pLoop (tq b n) 261 tkA pI 200 (pI k)).2.1 c2 → At 280 Q 6 (0, 0) [some (.ref 2), some (.int 2), some (.int 0), some (.int (nI i))] [] h2 := by
    intro i h2 c2 i2 ok cc C2
    refine go 60 (by decide) ?_
    simp only [KX, KY, KZ, KW, KV, Nat.reduceAdd, Nat.reduceSub, Nat.reduceLeDiff, true_and, and_true, true_or, or_true, or_self, reduceCtorEq, if_true, if_false, not_false_eq_true, eq_self, c280, C2.e2, C2.e7]
    by_cases il : i < 200
    · rw [if_pos (show nI i < (200 : Int32) from nI_lt (b := 200) il (by decide))]
      try (refine go 60 (by decide) ?_; simp only [KX, KY, KZ, KW, KV, Nat.reduceAdd, Nat.reduceSub, Nat.reduceLeDiff, true_and, and_true, true_or, or_true, or_self, reduceCtorEq, if_true, if_false, not_false_eq_true, eq_self, c280, C2.e2, C2.e7])
      first
        | exact kF _ _ ok cc C2
        | exact ⟨Or.inl rfl, kF _ _ ok cc C2⟩
        | exact ⟨Or.inr rfl, kF _ _ ok cc C2⟩
    · rw [if_neg (show ¬ nI i < (200 : Int32) from nI_nlt (b := 200) (by omega) (by omega))]
      try (refine go 60 (by decide) ?_; simp only [KX, KY, KZ, KW, KV, Nat.reduceAdd, Nat.reduceSub, Nat.reduceLeDiff, true_and, and_true, true_or, or_true, or_self, reduceCtorEq, if_true, if_false, not_false_eq_true, eq_self, c280, C2.e2, C2.e7])
      first
        | exact kF _ _ ok cc C2
        | exact ⟨Or.inl rfl, kF _ _ ok cc C2⟩
        | exact ⟨Or.inr rfl, kF _ _ ok cc C2⟩
  have lp : ∀ f i (r : PR) h2, i + f = 200 → pLoop (tq b n) 261 tkA pI f r = (pLoop (tq b n) 261 tkA pI 200 (pI k)) → r.1 = true → k ≤ r.2.1 → r.2.1 ≤ K → r.2.2.1.length ≤ r.2.1 - k → CP hb n cl h2 r.2.1 (C.length + r.2.2.1.length) → seg (ai h2 10) 0 (C ++ r.2.2.1.map tc) → At 280 Q 6 (0, 0) [some (.ref 2), some (.int 2), some (.int 1), some (.int (nI i))] [] h2 := by
    intro f
    induction f with
    | zero =>
      intro i r h2 ei er ok k1 k2 k3 C2 S2
      obtain rfl : i = 200 := by omega
      have er : r = (pLoop (tq b n) 261 tkA pI 200 (pI k)) := er
      refine go 60 (by decide) ?_
      simp only [KX, KY, KZ, KW, KV, Nat.reduceAdd, Nat.reduceSub, Nat.reduceLeDiff, true_and, and_true, true_or, or_true, or_self, reduceCtorEq, if_true, if_false, not_false_eq_true, eq_self, c280, C2.e2, C2.e7]
      rw [if_neg (show ¬ nI 200 < (200 : Int32) from nI_nlt (Nat.le_refl _) (by decide))]
      try (refine go 60 (by decide) ?_; simp only [KX, KY, KZ, KW, KV, Nat.reduceAdd, Nat.reduceSub, Nat.reduceLeDiff, true_and, and_true, true_or, or_true, or_self, reduceCtorEq, if_true, if_false, not_false_eq_true, eq_self, c280, C2.e2, C2.e7])
      first
        | exact kT _ (by rw [← er]; exact ok) (by rw [← er]; exact C2) (by rw [← er]; exact S2)
        | exact ⟨Or.inl rfl, kT _ (by rw [← er]; exact ok) (by rw [← er]; exact C2) (by rw [← er]; exact S2)⟩
        | exact ⟨Or.inr rfl, kT _ (by rw [← er]; exact ok) (by rw [← er]; exact C2) (by rw [← er]; exact S2)⟩
    | succ f ih =>
      intro i r h2 ei er ok k1 k2 k3 C2 S2
      refine go 60 (by decide) ?_
      simp only [KX, KY, KZ, KW, KV, Nat.reduceAdd, Nat.reduceSub, Nat.reduceLeDiff, true_and, and_true, true_or, or_true, or_self, reduceCtorEq, if_true, if_false, not_false_eq_true, eq_self, c280, C2.e2, C2.e7]
      rw [if_pos (show nI i < (200 : Int32) from nI_lt (b := 200) (by omega) (by decide))]
      try (refine go 60 (by decide) ?_; simp only [KX, KY, KZ, KW, KV, Nat.reduceAdd, Nat.reduceSub, Nat.reduceLeDiff, true_and, and_true, true_or, or_true, or_self, reduceCtorEq, if_true, if_false, not_false_eq_true, eq_self, c280, C2.e2, C2.e7])
      refine g73 T C2 k2 (s := 261) (by decide) S2 (fun y k4 h3 C3 S3 => ?_) (fun y => ?_)
      · rw [pLoop_go ok y] at er
        obtain ⟨g1, g2, g3⟩ := gI _ k4
        refine go 60 (by decide) ?_
        simp only [KX, KY, KZ, KW, KV, Nat.reduceAdd, Nat.reduceSub, Nat.reduceLeDiff, true_and, and_true, true_or, or_true, or_self, reduceCtorEq, if_true, if_false, not_false_eq_true, eq_self, c280, C3.e2, C3.e7]
        refine sI _ _ (C ++ r.2.2.1.map tc) _ (by rw [seg_len]; exact C3) S3 k4 (by rw [seg_len]; omega) (fun h4 ok4 C4 S4 => ?_) (fun h4 c4 ok4 cc4 C4 => ?_)
        · refine go 60 (by decide) ?_
          simp only [KX, KY, KZ, KW, KV, Nat.reduceAdd, Nat.reduceSub, Nat.reduceLeDiff, true_and, and_true, true_or, or_true, or_self, reduceCtorEq, if_true, if_false, not_false_eq_true, eq_self, c280, C4.e2, C4.e7]
          rw [seg_len] at C4
          refine g55 C4 S4 (by rw [List.length_append, seg_len, List.length_map]) (by omega) (fun h5 C5 S5 => ?_)
          first
            | (with_reducible show At 280 _ 6 _ _ _ _)
            | (refine go 60 (by decide) ?_; simp only [KX, KY, KZ, KW, KV, Nat.reduceAdd, Nat.reduceSub, Nat.reduceLeDiff, true_and, and_true, true_or, or_true, or_self, reduceCtorEq, if_true, if_false, not_false_eq_true, eq_self, c280, C5.e2, C5.e7])
          first
            | (with_reducible show At 280 _ 6 _ _ _ _)
            | (refine go 60 (by decide) ?_; simp only [KX, KY, KZ, KW, KV, Nat.reduceAdd, Nat.reduceSub, Nat.reduceLeDiff, true_and, and_true, true_or, or_true, or_self, reduceCtorEq, if_true, if_false, not_false_eq_true, eq_self, c280, C5.e2, C5.e7])
          first
            | (with_reducible show At 280 _ 6 _ _ _ _)
            | (refine go 60 (by decide) ?_; simp only [KX, KY, KZ, KW, KV, Nat.reduceAdd, Nat.reduceSub, Nat.reduceLeDiff, true_and, and_true, true_or, or_true, or_self, reduceCtorEq, if_true, if_false, not_false_eq_true, eq_self, c280, C5.e2, C5.e7])
          rw [nI_1 i]
          refine ih (i + 1) _ h5 (by omega) er ok4 (by show k ≤ (pI (r.2.1 + 1)).2.1; omega) g2 ?_ ?_ ?_
          · show (r.2.2.1 ++ (pI (r.2.1 + 1)).2.2.1 ++ [tkA]).length ≤ (pI (r.2.1 + 1)).2.1 - k
            simp only [List.length_append, List.length_cons, List.length_nil]
            omega
          · show CP hb n cl h5 (pI (r.2.1 + 1)).2.1 (C.length + (r.2.2.1 ++ (pI (r.2.1 + 1)).2.2.1 ++ [tkA]).length)
            rw [show C.length + (r.2.2.1 ++ (pI (r.2.1 + 1)).2.2.1 ++ [tkA]).length = C.length + r.2.2.1.length + (pI (r.2.1 + 1)).2.2.1.length + 1 by simp only [List.length_append, List.length_cons, List.length_nil]; omega]
            exact C5
          · show seg (ai h5 10) 0 (C ++ (r.2.2.1 ++ (pI (r.2.1 + 1)).2.2.1 ++ [tkA]).map tc)
            rw [← SPC.one_end, List.map_append, ← List.append_assoc]
            exact S5
        · refine go 60 (by decide) ?_
          simp only [KX, KY, KZ, KW, KV, Nat.reduceAdd, Nat.reduceSub, Nat.reduceLeDiff, true_and, and_true, true_or, or_true, or_self, reduceCtorEq, if_true, if_false, not_false_eq_true, eq_self, c280, C4.e2, C4.e7]
          refine f55 C4 cc4 (fun h5 c5 cc5 C5 => ?_)
          first
            | (with_reducible show At 280 _ 6 _ _ _ _)
            | (refine go 60 (by decide) ?_; simp only [KX, KY, KZ, KW, KV, Nat.reduceAdd, Nat.reduceSub, Nat.reduceLeDiff, true_and, and_true, true_or, or_true, or_self, reduceCtorEq, if_true, if_false, not_false_eq_true, eq_self, c280, C5.e2, C5.e7])
          first
            | (with_reducible show At 280 _ 6 _ _ _ _)
            | (refine go 60 (by decide) ?_; simp only [KX, KY, KZ, KW, KV, Nat.reduceAdd, Nat.reduceSub, Nat.reduceLeDiff, true_and, and_true, true_or, or_true, or_self, reduceCtorEq, if_true, if_false, not_false_eq_true, eq_self, c280, C5.e2, C5.e7])
          first
            | (with_reducible show At 280 _ 6 _ _ _ _)
            | (refine go 60 (by decide) ?_; simp only [KX, KY, KZ, KW, KV, Nat.reduceAdd, Nat.reduceSub, Nat.reduceLeDiff, true_and, and_true, true_or, or_true, or_self, reduceCtorEq, if_true, if_false, not_false_eq_true, eq_self, c280, C5.e2, C5.e7])
          rw [nI_1 i]
          rw [pLoop_stop f _ (by show (pI (r.2.1 + 1)).1 = false; exact ok4)] at er
          exact kF2 (i + 1) h5 c5 (by omega) (by rw [← er]; exact ok4) cc5 (by rw [← er]; exact C5)
      · rw [pLoop_end y] at er
        refine go 60 (by decide) ?_
        simp only [KX, KY, KZ, KW, KV, Nat.reduceAdd, Nat.reduceSub, Nat.reduceLeDiff, true_and, and_true, true_or, or_true, or_self, reduceCtorEq, if_true, if_false, not_false_eq_true, eq_self, c280, C2.e2, C2.e7]
        first
          | exact kT _ (by rw [← er]; exact ok) (by rw [← er]; exact C2) (by rw [← er]; exact S2)
          | exact ⟨Or.inl rfl, kT _ (by rw [← er]; exact ok) (by rw [← er]; exact C2) (by rw [← er]; exact S2)⟩
          | exact ⟨Or.inr rfl, kT _ (by rw [← er]; exact ok) (by rw [← er]; exact C2) (by rw [← er]; exact S2)⟩
  refine ma_enter (m := 280) (Or.inl (by decide)) (by show 2 ≤ mt_n 280; decide +kernel) ?_
  show At 280 Q 0 (mt_c 280) [some (.ref 2), some (.int 2), none, none] [] hh
  refine go 60 (by decide) ?_
  simp only [KX, KY, KZ, KW, KV, Nat.reduceAdd, Nat.reduceSub, Nat.reduceLeDiff, true_and, and_true, true_or, or_true, or_self, reduceCtorEq, if_true, if_false, not_false_eq_true, eq_self, c280, CC.e2, CC.e7]
  obtain ⟨g1, g2, g3⟩ := gI _ hk
  refine sI _ _ C _ CC S hk lc (fun h4 ok4 C4 S4 => ?_) (fun h4 c4 ok4 cc4 C4 => ?_)
  · first
      | (with_reducible show At 280 _ 6 _ _ _ _)
      | (refine go 60 (by decide) ?_; simp only [KX, KY, KZ, KW, KV, Nat.reduceAdd, Nat.reduceSub, Nat.reduceLeDiff, true_and, and_true, true_or, or_true, or_self, reduceCtorEq, if_true, if_false, not_false_eq_true, eq_self, c280, C4.e2, C4.e7])
    first
      | (with_reducible show At 280 _ 6 _ _ _ _)
      | (refine go 60 (by decide) ?_; simp only [KX, KY, KZ, KW, KV, Nat.reduceAdd, Nat.reduceSub, Nat.reduceLeDiff, true_and, and_true, true_or, or_true, or_self, reduceCtorEq, if_true, if_false, not_false_eq_true, eq_self, c280, C4.e2, C4.e7])
    first
      | (with_reducible show At 280 _ 6 _ _ _ _)
      | (refine go 60 (by decide) ?_; simp only [KX, KY, KZ, KW, KV, Nat.reduceAdd, Nat.reduceSub, Nat.reduceLeDiff, true_and, and_true, true_or, or_true, or_self, reduceCtorEq, if_true, if_false, not_false_eq_true, eq_self, c280, C4.e2, C4.e7])
    exact lp 200 0 (pI k) h4 rfl rfl ok4 g1 g2 g3 C4 S4
  · first
      | (with_reducible show At 280 _ 6 _ _ _ _)
      | (refine go 60 (by decide) ?_; simp only [KX, KY, KZ, KW, KV, Nat.reduceAdd, Nat.reduceSub, Nat.reduceLeDiff, true_and, and_true, true_or, or_true, or_self, reduceCtorEq, if_true, if_false, not_false_eq_true, eq_self, c280, C4.e2, C4.e7])
    first
      | (with_reducible show At 280 _ 6 _ _ _ _)
      | (refine go 60 (by decide) ?_; simp only [KX, KY, KZ, KW, KV, Nat.reduceAdd, Nat.reduceSub, Nat.reduceLeDiff, true_and, and_true, true_or, or_true, or_self, reduceCtorEq, if_true, if_false, not_false_eq_true, eq_self, c280, C4.e2, C4.e7])
    first
      | (with_reducible show At 280 _ 6 _ _ _ _)
      | (refine go 60 (by decide) ?_; simp only [KX, KY, KZ, KW, KV, Nat.reduceAdd, Nat.reduceSub, Nat.reduceLeDiff, true_and, and_true, true_or, or_true, or_self, reduceCtorEq, if_true, if_false, not_false_eq_true, eq_self, c280, C4.e2, C4.e7])
    exact kF2 0 h4 c4 (Nat.zero_le _) (by rw [pLoop_stop _ _ ok4]; exact ok4) cc4 (by rw [pLoop_stop _ _ ok4]; exact C4)
theorem sCond2 {hb : ma_H} {b : Nat → Nat} {n K cl : Nat} (T : TS hb b n K) {pI : Nat → PR} (gI : PG (tq b n) K pI) (sI : SPC hb b n K cl 280 [.int 2] pI) : SPC hb b n K cl 279 [.int 2] (fun k => (pLoop (tq b n) 260 tkO pI 200 (pI k))) := by
  intro hh k C Q CC S hk lc kT kF
  have K2 := T.1
  have kT : ∀ h2, (pLoop (tq b n) 260 tkO pI 200 (pI k)).1 = true → CP hb n cl h2 (pLoop (tq b n) 260 tkO pI 200 (pI k)).2.1 (C.length + (pLoop (tq b n) 260 tkO pI 200 (pI k)).2.2.1.length) → seg (ai h2 10) 0 (C ++ (pLoop (tq b n) 260 tkO pI 200 (pI k)).2.2.1.map tc) → Q (some (.int 1)) h2 := kT
  have kF2 : ∀ i h2 c2, i ≤ 200 → (pLoop (tq b n) 260 tkO pI 200 (pI k)).1 = false → c2 ≤ 200 → CP hb n cl h2 (pLoop (tq b n) 260 tkO pI 200 (pI k)).2.1 c2 → At 279 Q 6 (0, 0) [some (.ref 2), some (.int 2), some (.int 0), some (.int (nI i))] [] h2 := by
    intro i h2 c2 i2 ok cc C2
    refine go 60 (by decide) ?_
    simp only [KX, KY, KZ, KW, KV, Nat.reduceAdd, Nat.reduceSub, Nat.reduceLeDiff, true_and, and_true, true_or, or_true, or_self, reduceCtorEq, if_true, if_false, not_false_eq_true, eq_self, c279, C2.e2, C2.e7]
    by_cases il : i < 200
    · rw [if_pos (show nI i < (200 : Int32) from nI_lt (b := 200) il (by decide))]
      try (refine go 60 (by decide) ?_; simp only [KX, KY, KZ, KW, KV, Nat.reduceAdd, Nat.reduceSub, Nat.reduceLeDiff, true_and, and_true, true_or, or_true, or_self, reduceCtorEq, if_true, if_false, not_false_eq_true, eq_self, c279, C2.e2, C2.e7])
      first
        | exact kF _ _ ok cc C2
        | exact ⟨Or.inl rfl, kF _ _ ok cc C2⟩
        | exact ⟨Or.inr rfl, kF _ _ ok cc C2⟩
    · rw [if_neg (show ¬ nI i < (200 : Int32) from nI_nlt (b := 200) (by omega) (by omega))]
      try (refine go 60 (by decide) ?_; simp only [KX, KY, KZ, KW, KV, Nat.reduceAdd, Nat.reduceSub, Nat.reduceLeDiff, true_and, and_true, true_or, or_true, or_self, reduceCtorEq, if_true, if_false, not_false_eq_true, eq_self, c279, C2.e2, C2.e7])
      first
        | exact kF _ _ ok cc C2
        | exact ⟨Or.inl rfl, kF _ _ ok cc C2⟩
        | exact ⟨Or.inr rfl, kF _ _ ok cc C2⟩
  have lp : ∀ f i (r : PR) h2, i + f = 200 → pLoop (tq b n) 260 tkO pI f r = (pLoop (tq b n) 260 tkO pI 200 (pI k)) → r.1 = true → k ≤ r.2.1 → r.2.1 ≤ K → r.2.2.1.length ≤ r.2.1 - k → CP hb n cl h2 r.2.1 (C.length + r.2.2.1.length) → seg (ai h2 10) 0 (C ++ r.2.2.1.map tc) → At 279 Q 6 (0, 0) [some (.ref 2), some (.int 2), some (.int 1), some (.int (nI i))] [] h2 := by
    intro f
    induction f with
    | zero =>
      intro i r h2 ei er ok k1 k2 k3 C2 S2
      obtain rfl : i = 200 := by omega
      have er : r = (pLoop (tq b n) 260 tkO pI 200 (pI k)) := er
      refine go 60 (by decide) ?_
      simp only [KX, KY, KZ, KW, KV, Nat.reduceAdd, Nat.reduceSub, Nat.reduceLeDiff, true_and, and_true, true_or, or_true, or_self, reduceCtorEq, if_true, if_false, not_false_eq_true, eq_self, c279, C2.e2, C2.e7]
      rw [if_neg (show ¬ nI 200 < (200 : Int32) from nI_nlt (Nat.le_refl _) (by decide))]
      try (refine go 60 (by decide) ?_; simp only [KX, KY, KZ, KW, KV, Nat.reduceAdd, Nat.reduceSub, Nat.reduceLeDiff, true_and, and_true, true_or, or_true, or_self, reduceCtorEq, if_true, if_false, not_false_eq_true, eq_self, c279, C2.e2, C2.e7])
      first
        | exact kT _ (by rw [← er]; exact ok) (by rw [← er]; exact C2) (by rw [← er]; exact S2)
        | exact ⟨Or.inl rfl, kT _ (by rw [← er]; exact ok) (by rw [← er]; exact C2) (by rw [← er]; exact S2)⟩
        | exact ⟨Or.inr rfl, kT _ (by rw [← er]; exact ok) (by rw [← er]; exact C2) (by rw [← er]; exact S2)⟩
    | succ f ih =>
      intro i r h2 ei er ok k1 k2 k3 C2 S2
      refine go 60 (by decide) ?_
      simp only [KX, KY, KZ, KW, KV, Nat.reduceAdd, Nat.reduceSub, Nat.reduceLeDiff, true_and, and_true, true_or, or_true, or_self, reduceCtorEq, if_true, if_false, not_false_eq_true, eq_self, c279, C2.e2, C2.e7]
      rw [if_pos (show nI i < (200 : Int32) from nI_lt (b := 200) (by omega) (by decide))]
      try (refine go 60 (by decide) ?_; simp only [KX, KY, KZ, KW, KV, Nat.reduceAdd, Nat.reduceSub, Nat.reduceLeDiff, true_and, and_true, true_or, or_true, or_self, reduceCtorEq, if_true, if_false, not_false_eq_true, eq_self, c279, C2.e2, C2.e7])
      refine g73 T C2 k2 (s := 260) (by decide) S2 (fun y k4 h3 C3 S3 => ?_) (fun y => ?_)
      · rw [pLoop_go ok y] at er
        obtain ⟨g1, g2, g3⟩ := gI _ k4
        refine go 60 (by decide) ?_
        simp only [KX, KY, KZ, KW, KV, Nat.reduceAdd, Nat.reduceSub, Nat.reduceLeDiff, true_and, and_true, true_or, or_true, or_self, reduceCtorEq, if_true, if_false, not_false_eq_true, eq_self, c279, C3.e2, C3.e7]
        refine sI _ _ (C ++ r.2.2.1.map tc) _ (by rw [seg_len]; exact C3) S3 k4 (by rw [seg_len]; omega) (fun h4 ok4 C4 S4 => ?_) (fun h4 c4 ok4 cc4 C4 => ?_)
        · refine go 60 (by decide) ?_
          simp only [KX, KY, KZ, KW, KV, Nat.reduceAdd, Nat.reduceSub, Nat.reduceLeDiff, true_and, and_true, true_or, or_true, or_self, reduceCtorEq, if_true, if_false, not_false_eq_true, eq_self, c279, C4.e2, C4.e7]
          rw [seg_len] at C4
          refine g55 C4 S4 (by rw [List.length_append, seg_len, List.length_map]) (by omega) (fun h5 C5 S5 => ?_)
          first
            | (with_reducible show At 279 _ 6 _ _ _ _)
            | (refine go 60 (by decide) ?_; simp only [KX, KY, KZ, KW, KV, Nat.reduceAdd, Nat.reduceSub, Nat.reduceLeDiff, true_and, and_true, true_or, or_true, or_self, reduceCtorEq, if_true, if_false, not_false_eq_true, eq_self, c279, C5.e2, C5.e7])
          first
            | (with_reducible show At 279 _ 6 _ _ _ _)
            | (refine go 60 (by decide) ?_; simp only [KX, KY, KZ, KW, KV, Nat.reduceAdd, Nat.reduceSub, Nat.reduceLeDiff, true_and, and_true, true_or, or_true, or_self, reduceCtorEq, if_true, if_false, not_false_eq_true, eq_self, c279, C5.e2, C5.e7])
          first
            | (with_reducible show At 279 _ 6 _ _ _ _)
            | (refine go 60 (by decide) ?_; simp only [KX, KY, KZ, KW, KV, Nat.reduceAdd, Nat.reduceSub, Nat.reduceLeDiff, true_and, and_true, true_or, or_true, or_self, reduceCtorEq, if_true, if_false, not_false_eq_true, eq_self, c279, C5.e2, C5.e7])
          rw [nI_1 i]
          refine ih (i + 1) _ h5 (by omega) er ok4 (by show k ≤ (pI (r.2.1 + 1)).2.1; omega) g2 ?_ ?_ ?_
          · show (r.2.2.1 ++ (pI (r.2.1 + 1)).2.2.1 ++ [tkO]).length ≤ (pI (r.2.1 + 1)).2.1 - k
            simp only [List.length_append, List.length_cons, List.length_nil]
            omega
          · show CP hb n cl h5 (pI (r.2.1 + 1)).2.1 (C.length + (r.2.2.1 ++ (pI (r.2.1 + 1)).2.2.1 ++ [tkO]).length)
            rw [show C.length + (r.2.2.1 ++ (pI (r.2.1 + 1)).2.2.1 ++ [tkO]).length = C.length + r.2.2.1.length + (pI (r.2.1 + 1)).2.2.1.length + 1 by simp only [List.length_append, List.length_cons, List.length_nil]; omega]
            exact C5
          · show seg (ai h5 10) 0 (C ++ (r.2.2.1 ++ (pI (r.2.1 + 1)).2.2.1 ++ [tkO]).map tc)
            rw [← SPC.one_end, List.map_append, ← List.append_assoc]
            exact S5
        · refine go 60 (by decide) ?_
          simp only [KX, KY, KZ, KW, KV, Nat.reduceAdd, Nat.reduceSub, Nat.reduceLeDiff, true_and, and_true, true_or, or_true, or_self, reduceCtorEq, if_true, if_false, not_false_eq_true, eq_self, c279, C4.e2, C4.e7]
          refine f55 C4 cc4 (fun h5 c5 cc5 C5 => ?_)
          first
            | (with_reducible show At 279 _ 6 _ _ _ _)
            | (refine go 60 (by decide) ?_; simp only [KX, KY, KZ, KW, KV, Nat.reduceAdd, Nat.reduceSub, Nat.reduceLeDiff, true_and, and_true, true_or, or_true, or_self, reduceCtorEq, if_true, if_false, not_false_eq_true, eq_self, c279, C5.e2, C5.e7])
          first
            | (with_reducible show At 279 _ 6 _ _ _ _)
            | (refine go 60 (by decide) ?_; simp only [KX, KY, KZ, KW, KV, Nat.reduceAdd, Nat.reduceSub, Nat.reduceLeDiff, true_and, and_true, true_or, or_true, or_self, reduceCtorEq, if_true, if_false, not_false_eq_true, eq_self, c279, C5.e2, C5.e7])
          first
            | (with_reducible show At 279 _ 6 _ _ _ _)
            | (refine go 60 (by decide) ?_; simp only [KX, KY, KZ, KW, KV, Nat.reduceAdd, Nat.reduceSub, Nat.reduceLeDiff, true_and, and_true, true_or, or_true, or_self, reduceCtorEq, if_true, if_false, not_false_eq_true, eq_self, c279, C5.e2, C5.e7])
          rw [nI_1 i]
          rw [pLoop_stop f _ (by show (pI (r.2.1 + 1)).1 = false; exact ok4)] at er
          exact kF2 (i + 1) h5 c5 (by omega) (by rw [← er]; exact ok4) cc5 (by rw [← er]; exact C5)
      · rw [pLoop_end y] at er
        refine go 60 (by decide) ?_
        simp only [KX, KY, KZ, KW, KV, Nat.reduceAdd, Nat.reduceSub, Nat.reduceLeDiff, true_and, and_true, true_or, or_true, or_self, reduceCtorEq, if_true, if_false, not_false_eq_true, eq_self, c279, C2.e2, C2.e7]
        first
          | exact kT _ (by rw [← er]; exact ok) (by rw [← er]; exact C2) (by rw [← er]; exact S2)
          | exact ⟨Or.inl rfl, kT _ (by rw [← er]; exact ok) (by rw [← er]; exact C2) (by rw [← er]; exact S2)⟩
          | exact ⟨Or.inr rfl, kT _ (by rw [← er]; exact ok) (by rw [← er]; exact C2) (by rw [← er]; exact S2)⟩
  refine ma_enter (m := 279) (Or.inl (by decide)) (by show 2 ≤ mt_n 279; decide +kernel) ?_
  show At 279 Q 0 (mt_c 279) [some (.ref 2), some (.int 2), none, none] [] hh
  refine go 60 (by decide) ?_
  simp only [KX, KY, KZ, KW, KV, Nat.reduceAdd, Nat.reduceSub, Nat.reduceLeDiff, true_and, and_true, true_or, or_true, or_self, reduceCtorEq, if_true, if_false, not_false_eq_true, eq_self, c279, CC.e2, CC.e7]
  obtain ⟨g1, g2, g3⟩ := gI _ hk
  refine sI _ _ C _ CC S hk lc (fun h4 ok4 C4 S4 => ?_) (fun h4 c4 ok4 cc4 C4 => ?_)
  · first
      | (with_reducible show At 279 _ 6 _ _ _ _)
      | (refine go 60 (by decide) ?_; simp only [KX, KY, KZ, KW, KV, Nat.reduceAdd, Nat.reduceSub, Nat.reduceLeDiff, true_and, and_true, true_or, or_true, or_self, reduceCtorEq, if_true, if_false, not_false_eq_true, eq_self, c279, C4.e2, C4.e7])
    first
      | (with_reducible show At 279 _ 6 _ _ _ _)
      | (refine go 60 (by decide) ?_; simp only [KX, KY, KZ, KW, KV, Nat.reduceAdd, Nat.reduceSub, Nat.reduceLeDiff, true_and, and_true, true_or, or_true, or_self, reduceCtorEq, if_true, if_false, not_false_eq_true, eq_self, c279, C4.e2, C4.e7])
    first
      | (with_reducible show At 279 _ 6 _ _ _ _)
      | (refine go 60 (by decide) ?_; simp only [KX, KY, KZ, KW, KV, Nat.reduceAdd, Nat.reduceSub, Nat.reduceLeDiff, true_and, and_true, true_or, or_true, or_self, reduceCtorEq, if_true, if_false, not_false_eq_true, eq_self, c279, C4.e2, C4.e7])
    exact lp 200 0 (pI k) h4 rfl rfl ok4 g1 g2 g3 C4 S4
  · first
      | (with_reducible show At 279 _ 6 _ _ _ _)
      | (refine go 60 (by decide) ?_; simp only [KX, KY, KZ, KW, KV, Nat.reduceAdd, Nat.reduceSub, Nat.reduceLeDiff, true_and, and_true, true_or, or_true, or_self, reduceCtorEq, if_true, if_false, not_false_eq_true, eq_self, c279, C4.e2, C4.e7])
    first
      | (with_reducible show At 279 _ 6 _ _ _ _)
      | (refine go 60 (by decide) ?_; simp only [KX, KY, KZ, KW, KV, Nat.reduceAdd, Nat.reduceSub, Nat.reduceLeDiff, true_and, and_true, true_or, or_true, or_self, reduceCtorEq, if_true, if_false, not_false_eq_true, eq_self, c279, C4.e2, C4.e7])
    first
      | (with_reducible show At 279 _ 6 _ _ _ _)
      | (refine go 60 (by decide) ?_; simp only [KX, KY, KZ, KW, KV, Nat.reduceAdd, Nat.reduceSub, Nat.reduceLeDiff, true_and, and_true, true_or, or_true, or_self, reduceCtorEq, if_true, if_false, not_false_eq_true, eq_self, c279, C4.e2, C4.e7])
    exact kF2 0 h4 c4 (Nat.zero_le _) (by rw [pLoop_stop _ _ ok4]; exact ok4) cc4 (by rw [pLoop_stop _ _ ok4]; exact C4)
theorem sAll1 {hb : ma_H} {b : Nat → Nat} {n K cl : Nat} (T : TS hb b n K) {pI : Nat → PR} (gI : PG (tq b n) K pI) (sI : SPC hb b n K cl 278 [.int 1] pI) : SPC hb b n K cl 277 [.int 1] (fun k => (pLoop (tq b n) 261 tkA pI 200 (pI k))) := by
  intro hh k C Q CC S hk lc kT kF
  have K2 := T.1
  have kT : ∀ h2, (pLoop (tq b n) 261 tkA pI 200 (pI k)).1 = true → CP hb n cl h2 (pLoop (tq b n) 261 tkA pI 200 (pI k)).2.1 (C.length + (pLoop (tq b n) 261 tkA pI 200 (pI k)).2.2.1.length) → seg (ai h2 10) 0 (C ++ (pLoop (tq b n) 261 tkA pI 200 (pI k)).2.2.1.map tc) → Q (some (.int 1)) h2 := kT
  have kF2 : ∀ i h2 c2, i ≤ 200 → (pLoop (tq b n) 261 tkA pI 200 (pI k)).1 = false → c2 ≤ 200 → CP hb n cl h2 (pLoop (tq b n) 261 tkA pI 200 (pI k)).2.1 c2 → At 277 Q 6 (0, 0) [some (.ref 2), some (.int 1), some (.int 0), some (.int (nI i))] [] h2 := by
    intro i h2 c2 i2 ok cc C2
    refine go 60 (by decide) ?_
    simp only [KX, KY, KZ, KW, KV, Nat.reduceAdd, Nat.reduceSub, Nat.reduceLeDiff, true_and, and_true, true_or, or_true, or_self, reduceCtorEq, if_true, if_false, not_false_eq_true, eq_self, c277, C2.e2, C2.e7]
    by_cases il : i < 200
    · rw [if_pos (show nI i < (200 : Int32) from nI_lt (b := 200) il (by decide))]
      try (refine go 60 (by decide) ?_; simp only [KX, KY, KZ, KW, KV, Nat.reduceAdd, Nat.reduceSub, Nat.reduceLeDiff, true_and, and_true, true_or, or_true, or_self, reduceCtorEq, if_true, if_false, not_false_eq_true, eq_self, c277, C2.e2, C2.e7])
      first
        | exact kF _ _ ok cc C2
        | exact ⟨Or.inl rfl, kF _ _ ok cc C2⟩
        | exact ⟨Or.inr rfl, kF _ _ ok cc C2⟩
    · rw [if_neg (show ¬ nI i < (200 : Int32) from nI_nlt (b := 200) (by omega) (by omega))]
      try (refine go 60 (by decide) ?_; simp only [KX, KY, KZ, KW, KV, Nat.reduceAdd, Nat.reduceSub, Nat.reduceLeDiff, true_and, and_true, true_or, or_true, or_self, reduceCtorEq, if_true, if_false, not_false_eq_true, eq_self, c277, C2.e2, C2.e7])
      first
        | exact kF _ _ ok cc C2
        | exact ⟨Or.inl rfl, kF _ _ ok cc C2⟩
        | exact ⟨Or.inr rfl, kF _ _ ok cc C2⟩
  have lp : ∀ f i (r : PR) h2, i + f = 200 → pLoop (tq b n) 261 tkA pI f r = (pLoop (tq b n) 261 tkA pI 200 (pI k)) → r.1 = true → k ≤ r.2.1 → r.2.1 ≤ K → r.2.2.1.length ≤ r.2.1 - k → CP hb n cl h2 r.2.1 (C.length + r.2.2.1.length) → seg (ai h2 10) 0 (C ++ r.2.2.1.map tc) → At 277 Q 6 (0, 0) [some (.ref 2), some (.int 1), some (.int 1), some (.int (nI i))] [] h2 := by
    intro f
    induction f with
    | zero =>
      intro i r h2 ei er ok k1 k2 k3 C2 S2
      obtain rfl : i = 200 := by omega
      have er : r = (pLoop (tq b n) 261 tkA pI 200 (pI k)) := er
      refine go 60 (by decide) ?_
      simp only [KX, KY, KZ, KW, KV, Nat.reduceAdd, Nat.reduceSub, Nat.reduceLeDiff, true_and, and_true, true_or, or_true, or_self, reduceCtorEq, if_true, if_false, not_false_eq_true, eq_self, c277, C2.e2, C2.e7]
      rw [if_neg (show ¬ nI 200 < (200 : Int32) from nI_nlt (Nat.le_refl _) (by decide))]
      try (refine go 60 (by decide) ?_; simp only [KX, KY, KZ, KW, KV, Nat.reduceAdd, Nat.reduceSub, Nat.reduceLeDiff, true_and, and_true, true_or, or_true, or_self, reduceCtorEq, if_true, if_false, not_false_eq_true, eq_self, c277, C2.e2, C2.e7])
      first
        | exact kT _ (by rw [← er]; exact ok) (by rw [← er]; exact C2) (by rw [← er]; exact S2)
        | exact ⟨Or.inl rfl, kT _ (by rw [← er]; exact ok) (by rw [← er]; exact C2) (by rw [← er]; exact S2)⟩
        | exact ⟨Or.inr rfl, kT _ (by rw [← er]; exact ok) (by rw [← er]; exact C2) (by rw [← er]; exact S2)⟩
    | succ f ih =>
      intro i r h2 ei er ok k1 k2 k3 C2 S2
      refine go 60 (by decide) ?_
      simp only [KX, KY, KZ, KW, KV, Nat.reduceAdd, Nat.reduceSub, Nat.reduceLeDiff, true_and, and_true, true_or, or_true, or_self, reduceCtorEq, if_true, if_false, not_false_eq_true, eq_self, c277, C2.e2, C2.e7]
      rw [if_pos (show nI i < (200 : Int32) from nI_lt (b := 200) (by omega) (by decide))]
      try (refine go 60 (by decide) ?_; simp only [KX, KY, KZ, KW, KV, Nat.reduceAdd, Nat.reduceSub, Nat.reduceLeDiff, true_and, and_true, true_or, or_true, or_self, reduceCtorEq, if_true, if_false, not_false_eq_true, eq_self, c277, C2.e2, C2.e7])
      refine g73 T C2 k2 (s := 261) (by decide) S2 (fun y k4 h3 C3 S3 => ?_) (fun y => ?_)
      · rw [pLoop_go ok y] at er
        obtain ⟨g1, g2, g3⟩ := gI _ k4
        refine go 60 (by decide) ?_
        simp only [KX, KY, KZ, KW, KV, Nat.reduceAdd, Nat.reduceSub, Nat.reduceLeDiff, true_and, and_true, true_or, or_true, or_self, reduceCtorEq, if_true, if_false, not_false_eq_true, eq_self, c277, C3.e2, C3.e7]
        refine sI _ _ (C ++ r.2.2.1.map tc) _ (by rw [seg_len]; exact C3) S3 k4 (by rw [seg_len]; omega) (fun h4 ok4 C4 S4 => ?_) (fun h4 c4 ok4 cc4 C4 => ?_)
        · refine go 60 (by decide) ?_
          simp only [KX, KY, KZ, KW, KV, Nat.reduceAdd, Nat.reduceSub, Nat.reduceLeDiff, true_and, and_true, true_or, or_true, or_self, reduceCtorEq, if_true, if_false, not_false_eq_true, eq_self, c277, C4.e2, C4.e7]
          rw [seg_len] at C4
          refine g55 C4 S4 (by rw [List.length_append, seg_len, List.length_map]) (by omega) (fun h5 C5 S5 => ?_)
          first
            | (with_reducible show At 277 _ 6 _ _ _ _)
            | (refine go 60 (by decide) ?_; simp only [KX, KY, KZ, KW, KV, Nat.reduceAdd, Nat.reduceSub, Nat.reduceLeDiff, true_and, and_true, true_or, or_true, or_self, reduceCtorEq, if_true, if_false, not_false_eq_true, eq_self, c277, C5.e2, C5.e7])
          first
            | (with_reducible show At 277 _ 6 _ _ _ _)
            | (refine go 60 (by decide) ?_; simp only [KX, KY, KZ, KW, KV, Nat.reduceAdd, Nat.reduceSub, Nat.reduceLeDiff, true_and, and_true, true_or, or_true, or_self, reduceCtorEq, if_true, if_false, not_false_eq_true, eq_self, c277, C5.e2, C5.e7])
          first
            | (with_reducible show At 277 _ 6 _ _ _ _)
            | (refine go 60 (by decide) ?_; simp only [KX, KY, KZ, KW, KV, Nat.reduceAdd, Nat.reduceSub, Nat.reduceLeDiff, true_and, and_true, true_or, or_true, or_self, reduceCtorEq, if_true, if_false, not_false_eq_true, eq_self, c277, C5.e2, C5.e7])
          rw [nI_1 i]
          refine ih (i + 1) _ h5 (by omega) er ok4 (by show k ≤ (pI (r.2.1 + 1)).2.1; omega) g2 ?_ ?_ ?_
          · show (r.2.2.1 ++ (pI (r.2.1 + 1)).2.2.1 ++ [tkA]).length ≤ (pI (r.2.1 + 1)).2.1 - k
            simp only [List.length_append, List.length_cons, List.length_nil]
            omega
          · show CP hb n cl h5 (pI (r.2.1 + 1)).2.1 (C.length + (r.2.2.1 ++ (pI (r.2.1 + 1)).2.2.1 ++ [tkA]).length)
            rw [show C.length + (r.2.2.1 ++ (pI (r.2.1 + 1)).2.2.1 ++ [tkA]).length = C.length + r.2.2.1.length + (pI (r.2.1 + 1)).2.2.1.length + 1 by simp only [List.length_append, List.length_cons, List.length_nil]; omega]
            exact C5
          · show seg (ai h5 10) 0 (C ++ (r.2.2.1 ++ (pI (r.2.1 + 1)).2.2.1 ++ [tkA]).map tc)
            rw [← SPC.one_end, List.map_append, ← List.append_assoc]
            exact S5
        · refine go 60 (by decide) ?_
          simp only [KX, KY, KZ, KW, KV, Nat.reduceAdd, Nat.reduceSub, Nat.reduceLeDiff, true_and, and_true, true_or, or_true, or_self, reduceCtorEq, if_true, if_false, not_false_eq_true, eq_self, c277, C4.e2, C4.e7]
          refine f55 C4 cc4 (fun h5 c5 cc5 C5 => ?_)
          first
            | (with_reducible show At 277 _ 6 _ _ _ _)
            | (refine go 60 (by decide) ?_; simp only [KX, KY, KZ, KW, KV, Nat.reduceAdd, Nat.reduceSub, Nat.reduceLeDiff, true_and, and_true, true_or, or_true, or_self, reduceCtorEq, if_true, if_false, not_false_eq_true, eq_self, c277, C5.e2, C5.e7])
          first
            | (with_reducible show At 277 _ 6 _ _ _ _)
            | (refine go 60 (by decide) ?_; simp only [KX, KY, KZ, KW, KV, Nat.reduceAdd, Nat.reduceSub, Nat.reduceLeDiff, true_and, and_true, true_or, or_true, or_self, reduceCtorEq, if_true, if_false, not_false_eq_true, eq_self, c277, C5.e2, C5.e7])
          first
            | (with_reducible show At 277 _ 6 _ _ _ _)
            | (refine go 60 (by decide) ?_; simp only [KX, KY, KZ, KW, KV, Nat.reduceAdd, Nat.reduceSub, Nat.reduceLeDiff, true_and, and_true, true_or, or_true, or_self, reduceCtorEq, if_true, if_false, not_false_eq_true, eq_self, c277, C5.e2, C5.e7])
          rw [nI_1 i]
          rw [pLoop_stop f _ (by show (pI (r.2.1 + 1)).1 = false; exact ok4)] at er
          exact kF2 (i + 1) h5 c5 (by omega) (by rw [← er]; exact ok4) cc5 (by rw [← er]; exact C5)
      · rw [pLoop_end y] at er
        refine go 60 (by decide) ?_
        simp only [KX, KY, KZ, KW, KV, Nat.reduceAdd, Nat.reduceSub, Nat.reduceLeDiff, true_and, and_true, true_or, or_true, or_self, reduceCtorEq, if_true, if_false, not_false_eq_true, eq_self, c277, C2.e2, C2.e7]
        first
          | exact kT _ (by rw [← er]; exact ok) (by rw [← er]; exact C2) (by rw [← er]; exact S2)
          | exact ⟨Or.inl rfl, kT _ (by rw [← er]; exact ok) (by rw [← er]; exact C2) (by rw [← er]; exact S2)⟩
          | exact ⟨Or.inr rfl, kT _ (by rw [← er]; exact ok) (by rw [← er]; exact C2) (by rw [← er]; exact S2)⟩
  refine ma_enter (m := 277) (Or.inl (by decide)) (by show 2 ≤ mt_n 277; decide +kernel) ?_
  show At 277 Q 0 (mt_c 277) [some (.ref 2), some (.int 1), none, none] [] hh
  refine go 60 (by decide) ?_
  simp only [KX, KY, KZ, KW, KV, Nat.reduceAdd, Nat.reduceSub, Nat.reduceLeDiff, true_and, and_true, true_or, or_true, or_self, reduceCtorEq, if_true, if_false, not_false_eq_true, eq_self, c277, CC.e2, CC.e7]
  obtain ⟨g1, g2, g3⟩ := gI _ hk
  refine sI _ _ C _ CC S hk lc (fun h4 ok4 C4 S4 => ?_) (fun h4 c4 ok4 cc4 C4 => ?_)
  · first
      | (with_reducible show At 277 _ 6 _ _ _ _)
      | (refine go 60 (by decide) ?_; simp only [KX, KY, KZ, KW, KV, Nat.reduceAdd, Nat.reduceSub, Nat.reduceLeDiff, true_and, and_true, true_or, or_true, or_self, reduceCtorEq, if_true, if_false, not_false_eq_true, eq_self, c277, C4.e2, C4.e7])
    first
      | (with_reducible show At 277 _ 6 _ _ _ _)
      | (refine go 60 (by decide) ?_; simp only [KX, KY, KZ, KW, KV, Nat.reduceAdd, Nat.reduceSub, Nat.reduceLeDiff, true_and, and_true, true_or, or_true, or_self, reduceCtorEq, if_true, if_false, not_false_eq_true, eq_self, c277, C4.e2, C4.e7])
    first
      | (with_reducible show At 277 _ 6 _ _ _ _)
      | (refine go 60 (by decide) ?_; simp only [KX, KY, KZ, KW, KV, Nat.reduceAdd, Nat.reduceSub, Nat.reduceLeDiff, true_and, and_true, true_or, or_true, or_self, reduceCtorEq, if_true, if_false, not_false_eq_true, eq_self, c277, C4.e2, C4.e7])
    exact lp 200 0 (pI k) h4 rfl rfl ok4 g1 g2 g3 C4 S4
  · first
      | (with_reducible show At 277 _ 6 _ _ _ _)
      | (refine go 60 (by decide) ?_; simp only [KX, KY, KZ, KW, KV, Nat.reduceAdd, Nat.reduceSub, Nat.reduceLeDiff, true_and, and_true, true_or, or_true, or_self, reduceCtorEq, if_true, if_false, not_false_eq_true, eq_self, c277, C4.e2, C4.e7])
    first
      | (with_reducible show At 277 _ 6 _ _ _ _)
      | (refine go 60 (by decide) ?_; simp only [KX, KY, KZ, KW, KV, Nat.reduceAdd, Nat.reduceSub, Nat.reduceLeDiff, true_and, and_true, true_or, or_true, or_self, reduceCtorEq, if_true, if_false, not_false_eq_true, eq_self, c277, C4.e2, C4.e7])
    first
      | (with_reducible show At 277 _ 6 _ _ _ _)
      | (refine go 60 (by decide) ?_; simp only [KX, KY, KZ, KW, KV, Nat.reduceAdd, Nat.reduceSub, Nat.reduceLeDiff, true_and, and_true, true_or, or_true, or_self, reduceCtorEq, if_true, if_false, not_false_eq_true, eq_self, c277, C4.e2, C4.e7])
    exact kF2 0 h4 c4 (Nat.zero_le _) (by rw [pLoop_stop _ _ ok4]; exact ok4) cc4 (by rw [pLoop_stop _ _ ok4]; exact C4)
theorem sCond1 {hb : ma_H} {b : Nat → Nat} {n K cl : Nat} (T : TS hb b n K) {pI : Nat → PR} (gI : PG (tq b n) K pI) (sI : SPC hb b n K cl 277 [.int 1] pI) : SPC hb b n K cl 276 [.int 1] (fun k => (pLoop (tq b n) 260 tkO pI 200 (pI k))) := by
  intro hh k C Q CC S hk lc kT kF
  have K2 := T.1
  have kT : ∀ h2, (pLoop (tq b n) 260 tkO pI 200 (pI k)).1 = true → CP hb n cl h2 (pLoop (tq b n) 260 tkO pI 200 (pI k)).2.1 (C.length + (pLoop (tq b n) 260 tkO pI 200 (pI k)).2.2.1.length) → seg (ai h2 10) 0 (C ++ (pLoop (tq b n) 260 tkO pI 200 (pI k)).2.2.1.map tc) → Q (some (.int 1)) h2 := kT
  have kF2 : ∀ i h2 c2, i ≤ 200 → (pLoop (tq b n) 260 tkO pI 200 (pI k)).1 = false → c2 ≤ 200 → CP hb n cl h2 (pLoop (tq b n) 260 tkO pI 200 (pI k)).2.1 c2 → At 276 Q 6 (0, 0) [some (.ref 2), some (.int 1), some (.int 0), some (.int (nI i))] [] h2 := by
    intro i h2 c2 i2 ok cc C2
    refine go 60 (by decide) ?_
    simp only [KX, KY, KZ, KW, KV, Nat.reduceAdd, Nat.reduceSub, Nat.reduceLeDiff, true_and, and_true, true_or, or_true, or_self, reduceCtorEq, if_true, if_false, not_false_eq_true, eq_self, c276, C2.e2, C2.e7]
    by_cases il : i < 200
    · rw [if_pos (show nI i < (200 : Int32) from nI_lt (b := 200) il (by decide))]
      try (refine go 60 (by decide) ?_; simp only [KX, KY, KZ, KW, KV, Nat.reduceAdd, Nat.reduceSub, Nat.reduceLeDiff, true_and, and_true, true_or, or_true, or_self, reduceCtorEq, if_true, if_false, not_false_eq_true, eq_self, c276, C2.e2, C2.e7])
      first
        | exact kF _ _ ok cc C2
        | exact ⟨Or.inl rfl, kF _ _ ok cc C2⟩
        | exact ⟨Or.inr rfl, kF _ _ ok cc C2⟩
    · rw [if_neg (show ¬ nI i < (200 : Int32) from nI_nlt (b := 200) (by omega) (by omega))]
      try (refine go 60 (by decide) ?_; simp only [KX, KY, KZ, KW, KV, Nat.reduceAdd, Nat.reduceSub, Nat.reduceLeDiff, true_and, and_true, true_or, or_true, or_self, reduceCtorEq, if_true, if_false, not_false_eq_true, eq_self, c276, C2.e2, C2.e7])
      first
        | exact kF _ _ ok cc C2
        | exact ⟨Or.inl rfl, kF _ _ ok cc C2⟩
        | exact ⟨Or.inr rfl, kF _ _ ok cc C2⟩
  have lp : ∀ f i (r : PR) h2, i + f = 200 → pLoop (tq b n) 260 tkO pI f r = (pLoop (tq b n) 260 tkO pI 200 (pI k)) → r.1 = true → k ≤ r.2.1 → r.2.1 ≤ K → r.2.2.1.length ≤ r.2.1 - k → CP hb n cl h2 r.2.1 (C.length + r.2.2.1.length) → seg (ai h2 10) 0 (C ++ r.2.2.1.map tc) → At 276 Q 6 (0, 0) [some (.ref 2), some (.int 1), some (.int 1), some (.int (nI i))] [] h2 := by
    intro f
    induction f with
    | zero =>
      intro i r h2 ei er ok k1 k2 k3 C2 S2
      obtain rfl : i = 200 := by omega
      have er : r = (pLoop (tq b n) 260 tkO pI 200 (pI k)) := er
      refine go 60 (by decide) ?_
      simp only [KX, KY, KZ, KW, KV, Nat.reduceAdd, Nat.reduceSub, Nat.reduceLeDiff, true_and, and_true, true_or, or_true, or_self, reduceCtorEq, if_true, if_false, not_false_eq_true, eq_self, c276, C2.e2, C2.e7]
      rw [if_neg (show ¬ nI 200 < (200 : Int32) from nI_nlt (Nat.le_refl _) (by decide))]
      try (refine go 60 (by decide) ?_; simp only [KX, KY, KZ, KW, KV, Nat.reduceAdd, Nat.reduceSub, Nat.reduceLeDiff, true_and, and_true, true_or, or_true, or_self, reduceCtorEq, if_true, if_false, not_false_eq_true, eq_self, c276, C2.e2, C2.e7])
      first
        | exact kT _ (by rw [← er]; exact ok) (by rw [← er]; exact C2) (by rw [← er]; exact S2)
        | exact ⟨Or.inl rfl, kT _ (by rw [← er]; exact ok) (by rw [← er]; exact C2) (by rw [← er]; exact S2)⟩
        | exact ⟨Or.inr rfl, kT _ (by rw [← er]; exact ok) (by rw [← er]; exact C2) (by rw [← er]; exact S2)⟩
    | succ f ih =>
      intro i r h2 ei er ok k1 k2 k3 C2 S2
      refine go 60 (by decide) ?_
      simp only [KX, KY, KZ, KW, KV, Nat.reduceAdd, Nat.reduceSub, Nat.reduceLeDiff, true_and, and_true, true_or, or_true, or_self, reduceCtorEq, if_true, if_false, not_false_eq_true, eq_self, c276, C2.e2, C2.e7]
      rw [if_pos (show nI i < (200 : Int32) from nI_lt (b := 200) (by omega) (by decide))]
      try (refine go 60 (by decide) ?_; simp only [KX, KY, KZ, KW, KV, Nat.reduceAdd, Nat.reduceSub, Nat.reduceLeDiff, true_and, and_true, true_or, or_true, or_self, reduceCtorEq, if_true, if_false, not_false_eq_true, eq_self, c276, C2.e2, C2.e7])
      refine g73 T C2 k2 (s := 260) (by decide) S2 (fun y k4 h3 C3 S3 => ?_) (fun y => ?_)
      · rw [pLoop_go ok y] at er
        obtain ⟨g1, g2, g3⟩ := gI _ k4
        refine go 60 (by decide) ?_
        simp only [KX, KY, KZ, KW, KV, Nat.reduceAdd, Nat.reduceSub, Nat.reduceLeDiff, true_and, and_true, true_or, or_true, or_self, reduceCtorEq, if_true, if_false, not_false_eq_true, eq_self, c276, C3.e2, C3.e7]
        refine sI _ _ (C ++ r.2.2.1.map tc) _ (by rw [seg_len]; exact C3) S3 k4 (by rw [seg_len]; omega) (fun h4 ok4 C4 S4 => ?_) (fun h4 c4 ok4 cc4 C4 => ?_)
        · refine go 60 (by decide) ?_
          simp only [KX, KY, KZ, KW, KV, Nat.reduceAdd, Nat.reduceSub, Nat.reduceLeDiff, true_and, and_true, true_or, or_true, or_self, reduceCtorEq, if_true, if_false, not_false_eq_true, eq_self, c276, C4.e2, C4.e7]
          rw [seg_len] at C4
          refine g55 C4 S4 (by rw [List.length_append, seg_len, List.length_map]) (by omega) (fun h5 C5 S5 => ?_)
          first
            | (with_reducible show At 276 _ 6 _ _ _ _)
            | (refine go 60 (by decide) ?_; simp only [KX, KY, KZ, KW, KV, Nat.reduceAdd, Nat.reduceSub, Nat.reduceLeDiff, true_and, and_true, true_or, or_true, or_self, reduceCtorEq, if_true, if_false, not_false_eq_true, eq_self, c276, C5.e2, C5.e7])
          first
            | (with_reducible show At 276 _ 6 _ _ _ _)
            | (refine go 60 (by decide) ?_; simp only [KX, KY, KZ, KW, KV, Nat.reduceAdd, Nat.reduceSub, Nat.reduceLeDiff, true_and, and_true, true_or, or_true, or_self, reduceCtorEq, if_true, if_false, not_false_eq_true, eq_self, c276, C5.e2, C5.e7])
          first
            | (with_reducible show At 276 _ 6 _ _ _ _)
            | (refine go 60 (by decide) ?_; simp only [KX, KY, KZ, KW, KV, Nat.reduceAdd, Nat.reduceSub, Nat.reduceLeDiff, true_and, and_true, true_or, or_true, or_self, reduceCtorEq, if_true, if_false, not_false_eq_true, eq_self, c276, C5.e2, C5.e7])
          rw [nI_1 i]
          refine ih (i + 1) _ h5 (by omega) er ok4 (by show k ≤ (pI (r.2.1 + 1)).2.1; omega) g2 ?_ ?_ ?_
          · show (r.2.2.1 ++ (pI (r.2.1 + 1)).2.2.1 ++ [tkO]).length ≤ (pI (r.2.1 + 1)).2.1 - k
            simp only [List.length_append, List.length_cons, List.length_nil]
            omega
          · show CP hb n cl h5 (pI (r.2.1 + 1)).2.1 (C.length + (r.2.2.1 ++ (pI (r.2.1 + 1)).2.2.1 ++ [tkO]).length)
            rw [show C.length + (r.2.2.1 ++ (pI (r.2.1 + 1)).2.2.1 ++ [tkO]).length = C.length + r.2.2.1.length + (pI (r.2.1 + 1)).2.2.1.length + 1 by simp only [List.length_append, List.length_cons, List.length_nil]; omega]
            exact C5
          · show seg (ai h5 10) 0 (C ++ (r.2.2.1 ++ (pI (r.2.1 + 1)).2.2.1 ++ [tkO]).map tc)
            rw [← SPC.one_end, List.map_append, ← List.append_assoc]
            exact S5
        · refine go 60 (by decide) ?_
          simp only [KX, KY, KZ, KW, KV, Nat.reduceAdd, Nat.reduceSub, Nat.reduceLeDiff, true_and, and_true, true_or, or_true, or_self, reduceCtorEq, if_true, if_false, not_false_eq_true, eq_self, c276, C4.e2, C4.e7]
          refine f55 C4 cc4 (fun h5 c5 cc5 C5 => ?_)
          first
            | (with_reducible show At 276 _ 6 _ _ _ _)
            | (refine go 60 (by decide) ?_; simp only [KX, KY, KZ, KW, KV, Nat.reduceAdd, Nat.reduceSub, Nat.reduceLeDiff, true_and, and_true, true_or, or_true, or_self, reduceCtorEq, if_true, if_false, not_false_eq_true, eq_self, c276, C5.e2, C5.e7])
          first
            | (with_reducible show At 276 _ 6 _ _ _ _)
            | (refine go 60 (by decide) ?_; simp only [KX, KY, KZ, KW, KV, Nat.reduceAdd, Nat.reduceSub, Nat.reduceLeDiff, true_and, and_true, true_or, or_true, or_self, reduceCtorEq, if_true, if_false, not_false_eq_true, eq_self, c276, C5.e2, C5.e7])
          first
            | (with_reducible show At 276 _ 6 _ _ _ _)
            | (refine go 60 (by decide) ?_; simp only [KX, KY, KZ, KW, KV, Nat.reduceAdd, Nat.reduceSub, Nat.reduceLeDiff, true_and, and_true, true_or, or_true, or_self, reduceCtorEq, if_true, if_false, not_false_eq_true, eq_self, c276, C5.e2, C5.e7])
          rw [nI_1 i]
          rw [pLoop_stop f _ (by show (pI (r.2.1 + 1)).1 = false; exact ok4)] at er
          exact kF2 (i + 1) h5 c5 (by omega) (by rw [← er]; exact ok4) cc5 (by rw [← er]; exact C5)
      · rw [pLoop_end y] at er
        refine go 60 (by decide) ?_
        simp only [KX, KY, KZ, KW, KV, Nat.reduceAdd, Nat.reduceSub, Nat.reduceLeDiff, true_and, and_true, true_or, or_true, or_self, reduceCtorEq, if_true, if_false, not_false_eq_true, eq_self, c276, C2.e2, C2.e7]
        first
          | exact kT _ (by rw [← er]; exact ok) (by rw [← er]; exact C2) (by rw [← er]; exact S2)
          | exact ⟨Or.inl rfl, kT _ (by rw [← er]; exact ok) (by rw [← er]; exact C2) (by rw [← er]; exact S2)⟩
          | exact ⟨Or.inr rfl, kT _ (by rw [← er]; exact ok) (by rw [← er]; exact C2) (by rw [← er]; exact S2)⟩
  refine ma_enter (m := 276) (Or.inl (by decide)) (by show 2 ≤ mt_n 276; decide +kernel) ?_
  show At 276 Q 0 (mt_c 276) [some (.ref 2), some (.int 1), none, none] [] hh
  refine go 60 (by decide) ?_
  simp only [KX, KY, KZ, KW, KV, Nat.reduceAdd, Nat.reduceSub, Nat.reduceLeDiff, true_and, and_true, true_or, or_true, or_self, reduceCtorEq, if_true, if_false, not_false_eq_true, eq_self, c276, CC.e2, CC.e7]
  obtain ⟨g1, g2, g3⟩ := gI _ hk
  refine sI _ _ C _ CC S hk lc (fun h4 ok4 C4 S4 => ?_) (fun h4 c4 ok4 cc4 C4 => ?_)
  · first
      | (with_reducible show At 276 _ 6 _ _ _ _)
      | (refine go 60 (by decide) ?_; simp only [KX, KY, KZ, KW, KV, Nat.reduceAdd, Nat.reduceSub, Nat.reduceLeDiff, true_and, and_true, true_or, or_true, or_self, reduceCtorEq, if_true, if_false, not_false_eq_true, eq_self, c276, C4.e2, C4.e7])
    first
      | (with_reducible show At 276 _ 6 _ _ _ _)
      | (refine go 60 (by decide) ?_; simp only [KX, KY, KZ, KW, KV, Nat.reduceAdd, Nat.reduceSub, Nat.reduceLeDiff, true_and, and_true, true_or, or_true, or_self, reduceCtorEq, if_true, if_false, not_false_eq_true, eq_self, c276, C4.e2, C4.e7])
    first
      | (with_reducible show At 276 _ 6 _ _ _ _)
      | (refine go 60 (by decide) ?_; simp only [KX, KY, KZ, KW, KV, Nat.reduceAdd, Nat.reduceSub, Nat.reduceLeDiff, true_and, and_true, true_or, or_true, or_self, reduceCtorEq, if_true, if_false, not_false_eq_true, eq_self, c276, C4.e2, C4.e7])
    exact lp 200 0 (pI k) h4 rfl rfl ok4 g1 g2 g3 C4 S4
  · first
      | (with_reducible show At 276 _ 6 _ _ _ _)
      | (refine go 60 (by decide) ?_; simp only [KX, KY, KZ, KW, KV, Nat.reduceAdd, Nat.reduceSub, Nat.reduceLeDiff, true_and, and_true, true_or, or_true, or_self, reduceCtorEq, if_true, if_false, not_false_eq_true, eq_self, c276, C4.e2, C4.e7])
    first
      | (with_reducible show At 276 _ 6 _ _ _ _)
      | (refine go 60 (by decide) ?_; simp only [KX, KY, KZ, KW, KV, Nat.reduceAdd, Nat.reduceSub, Nat.reduceLeDiff, true_and, and_true, true_or, or_true, or_self, reduceCtorEq, if_true, if_false, not_false_eq_true, eq_self, c276, C4.e2, C4.e7])
    first
      | (with_reducible show At 276 _ 6 _ _ _ _)
      | (refine go 60 (by decide) ?_; simp only [KX, KY, KZ, KW, KV, Nat.reduceAdd, Nat.reduceSub, Nat.reduceLeDiff, true_and, and_true, true_or, or_true, or_self, reduceCtorEq, if_true, if_false, not_false_eq_true, eq_self, c276, C4.e2, C4.e7])
    exact kF2 0 h4 c4 (Nat.zero_le _) (by rw [pLoop_stop _ _ ok4]; exact ok4) cc4 (by rw [pLoop_stop _ _ ok4]; exact C4)
theorem sAll0 {hb : ma_H} {b : Nat → Nat} {n K cl : Nat} (T : TS hb b n K) {pI : Nat → PR} (gI : PG (tq b n) K pI) (sI : SPC hb b n K cl 78 [.int 0] pI) : SPC hb b n K cl 77 [.int 0] (fun k => (pLoop (tq b n) 261 tkA pI 200 (pI k))) := by
  intro hh k C Q CC S hk lc kT kF
  have K2 := T.1
  have kT : ∀ h2, (pLoop (tq b n) 261 tkA pI 200 (pI k)).1 = true → CP hb n cl h2 (pLoop (tq b n) 261 tkA pI 200 (pI k)).2.1 (C.length + (pLoop (tq b n) 261 tkA pI 200 (pI k)).2.2.1.length) → seg (ai h2 10) 0 (C ++ (pLoop (tq b n) 261 tkA pI 200 (pI k)).2.2.1.map tc) → Q (some (.int 1)) h2 := kT
  have kF2 : ∀ i h2 c2, i ≤ 200 → (pLoop (tq b n) 261 tkA pI 200 (pI k)).1 = false → c2 ≤ 200 → CP hb n cl h2 (pLoop (tq b n) 261 tkA pI 200 (pI k)).2.1 c2 → At 77 Q 6 (0, 0) [some (.ref 2), some (.int 0), some (.int 0), some (.int (nI i))] [] h2 := by
    intro i h2 c2 i2 ok cc C2
    refine go 60 (by decide) ?_
    simp only [KX, KY, KZ, KW, KV, Nat.reduceAdd, Nat.reduceSub, Nat.reduceLeDiff, true_and, and_true, true_or, or_true, or_self, reduceCtorEq, if_true, if_false, not_false_eq_true, eq_self, c77, C2.e2, C2.e7]
    by_cases il : i < 200
    · rw [if_pos (show nI i < (200 : Int32) from nI_lt (b := 200) il (by decide))]
      try (refine go 60 (by decide) ?_; simp only [KX, KY, KZ, KW, KV, Nat.reduceAdd, Nat.reduceSub, Nat.reduceLeDiff, true_and, and_true, true_or, or_true, or_self, reduceCtorEq, if_true, if_false, not_false_eq_true, eq_self, c77, C2.e2, C2.e7])
      first
        | exact kF _ _ ok cc C2
        | exact ⟨Or.inl rfl, kF _ _ ok cc C2⟩
        | exact ⟨Or.inr rfl, kF _ _ ok cc C2⟩
    · rw [if_neg (show ¬ nI i < (200 : Int32) from nI_nlt (b := 200) (by omega) (by omega))]
      try (refine go 60 (by decide) ?_; simp only [KX, KY, KZ, KW, KV, Nat.reduceAdd, Nat.reduceSub, Nat.reduceLeDiff, true_and, and_true, true_or, or_true, or_self, reduceCtorEq, if_true, if_false, not_false_eq_true, eq_self, c77, C2.e2, C2.e7])
      first
        | exact kF _ _ ok cc C2
        | exact ⟨Or.inl rfl, kF _ _ ok cc C2⟩
        | exact ⟨Or.inr rfl, kF _ _ ok cc C2⟩
  have lp : ∀ f i (r : PR) h2, i + f = 200 → pLoop (tq b n) 261 tkA pI f r = (pLoop (tq b n) 261 tkA pI 200 (pI k)) → r.1 = true → k ≤ r.2.1 → r.2.1 ≤ K → r.2.2.1.length ≤ r.2.1 - k → CP hb n cl h2 r.2.1 (C.length + r.2.2.1.length) → seg (ai h2 10) 0 (C ++ r.2.2.1.map tc) → At 77 Q 6 (0, 0) [some (.ref 2), some (.int 0), some (.int 1), some (.int (nI i))] [] h2 := by
    intro f
    induction f with
    | zero =>
      intro i r h2 ei er ok k1 k2 k3 C2 S2
      obtain rfl : i = 200 := by omega
      have er : r = (pLoop (tq b n) 261 tkA pI 200 (pI k)) := er
      refine go 60 (by decide) ?_
      simp only [KX, KY, KZ, KW, KV, Nat.reduceAdd, Nat.reduceSub, Nat.reduceLeDiff, true_and, and_true, true_or, or_true, or_self, reduceCtorEq, if_true, if_false, not_false_eq_true, eq_self, c77, C2.e2, C2.e7]
      rw [if_neg (show ¬ nI 200 < (200 : Int32) from nI_nlt (Nat.le_refl _) (by decide))]
      try (refine go 60 (by decide) ?_; simp only [KX, KY, KZ, KW, KV, Nat.reduceAdd, Nat.reduceSub, Nat.reduceLeDiff, true_and, and_true, true_or, or_true, or_self, reduceCtorEq, if_true, if_false, not_false_eq_true, eq_self, c77, C2.e2, C2.e7])
      first
        | exact kT _ (by rw [← er]; exact ok) (by rw [← er]; exact C2) (by rw [← er]; exact S2)
        | exact ⟨Or.inl rfl, kT _ (by rw [← er]; exact ok) (by rw [← er]; exact C2) (by rw [← er]; exact S2)⟩
        | exact ⟨Or.inr rfl, kT _ (by rw [← er]; exact ok) (by rw [← er]; exact C2) (by rw [← er]; exact S2)⟩
    | succ f ih =>
      intro i r h2 ei er ok k1 k2 k3 C2 S2
      refine go 60 (by decide) ?_
      simp only [KX, KY, KZ, KW, KV, Nat.reduceAdd, Nat.reduceSub, Nat.reduceLeDiff, true_and, and_true, true_or, or_true, or_self, reduceCtorEq, if_true, if_false, not_false_eq_true, eq_self, c77, C2.e2, C2.e7]
      rw [if_pos (show nI i < (200 : Int32) from nI_lt (b := 200) (by omega) (by decide))]
      try (refine go 60 (by decide) ?_; simp only [KX, KY, KZ, KW, KV, Nat.reduceAdd, Nat.reduceSub, Nat.reduceLeDiff, true_and, and_true, true_or, or_true, or_self, reduceCtorEq, if_true, if_false, not_false_eq_true, eq_self, c77, C2.e2, C2.e7])
      refine g73 T C2 k2 (s := 261) (by decide) S2 (fun y k4 h3 C3 S3 => ?_) (fun y => ?_)
      · rw [pLoop_go ok y] at er
        obtain ⟨g1, g2, g3⟩ := gI _ k4
        refine go 60 (by decide) ?_
        simp only [KX, KY, KZ, KW, KV, Nat.reduceAdd, Nat.reduceSub, Nat.reduceLeDiff, true_and, and_true, true_or, or_true, or_self, reduceCtorEq, if_true, if_false, not_false_eq_true, eq_self, c77, C3.e2, C3.e7]
        refine sI _ _ (C ++ r.2.2.1.map tc) _ (by rw [seg_len]; exact C3) S3 k4 (by rw [seg_len]; omega) (fun h4 ok4 C4 S4 => ?_) (fun h4 c4 ok4 cc4 C4 => ?_)
        · refine go 60 (by decide) ?_
          simp only [KX, KY, KZ, KW, KV, Nat.reduceAdd, Nat.reduceSub, Nat.reduceLeDiff, true_and, and_true, true_or, or_true, or_self, reduceCtorEq, if_true, if_false, not_false_eq_true, eq_self, c77, C4.e2, C4.e7]
          rw [seg_len] at C4
          refine g55 C4 S4 (by rw [List.length_append, seg_len, List.length_map]) (by omega) (fun h5 C5 S5 => ?_)
          first
            | (with_reducible show At 77 _ 6 _ _ _ _)
            | (refine go 60 (by decide) ?_; simp only [KX, KY, KZ, KW, KV, Nat.reduceAdd, Nat.reduceSub, Nat.reduceLeDiff, true_and, and_true, true_or, or_true, or_self, reduceCtorEq, if_true, if_false, not_false_eq_true, eq_self, c77, C5.e2, C5.e7])
          first
            | (with_reducible show At 77 _ 6 _ _ _ _)
            | (refine go 60 (by decide) ?_; simp only [KX, KY, KZ, KW, KV, Nat.reduceAdd, Nat.reduceSub, Nat.reduceLeDiff, true_and, and_true, true_or, or_true, or_self, reduceCtorEq, if_true, if_false, not_false_eq_true, eq_self, c77, C5.e2, C5.e7])
          first
            | (with_reducible show At 77 _ 6 _ _ _ _)
            | (refine go 60 (by decide) ?_; simp only [KX, KY, KZ, KW, KV, Nat.reduceAdd, Nat.reduceSub, Nat.reduceLeDiff, true_and, and_true, true_or, or_true, or_self, reduceCtorEq, if_true, if_false, not_false_eq_true, eq_self, c77, C5.e2, C5.e7])
          rw [nI_1 i]
          refine ih (i + 1) _ h5 (by omega) er ok4 (by show k ≤ (pI (r.2.1 + 1)).2.1; omega) g2 ?_ ?_ ?_
          · show (r.2.2.1 ++ (pI (r.2.1 + 1)).2.2.1 ++ [tkA]).length ≤ (pI (r.2.1 + 1)).2.1 - k
            simp only [List.length_append, List.length_cons, List.length_nil]
            omega
          · show CP hb n cl h5 (pI (r.2.1 + 1)).2.1 (C.length + (r.2.2.1 ++ (pI (r.2.1 + 1)).2.2.1 ++ [tkA]).length)
            rw [show C.length + (r.2.2.1 ++ (pI (r.2.1 + 1)).2.2.1 ++ [tkA]).length = C.length + r.2.2.1.length + (pI (r.2.1 + 1)).2.2.1.length + 1 by simp only [List.length_append, List.length_cons, List.length_nil]; omega]
            exact C5
          · show seg (ai h5 10) 0 (C ++ (r.2.2.1 ++ (pI (r.2.1 + 1)).2.2.1 ++ [tkA]).map tc)
            rw [← SPC.one_end, List.map_append, ← List.append_assoc]
            exact S5
        · refine go 60 (by decide) ?_
          simp only [KX, KY, KZ, KW, KV, Nat.reduceAdd, Nat.reduceSub, Nat.reduceLeDiff, true_and, and_true, true_or, or_true, or_self, reduceCtorEq, if_true, if_false, not_false_eq_true, eq_self, c77, C4.e2, C4.e7]
          refine f55 C4 cc4 (fun h5 c5 cc5 C5 => ?_)
          first
            | (with_reducible show At 77 _ 6 _ _ _ _)
            | (refine go 60 (by decide) ?_; simp only [KX, KY, KZ, KW, KV, Nat.reduceAdd, Nat.reduceSub, Nat.reduceLeDiff, true_and, and_true, true_or, or_true, or_self, reduceCtorEq, if_true, if_false, not_false_eq_true, eq_self, c77, C5.e2, C5.e7])
          first
            | (with_reducible show At 77 _ 6 _ _ _ _)
            | (refine go 60 (by decide) ?_; simp only [KX, KY, KZ, KW, KV, Nat.reduceAdd, Nat.reduceSub, Nat.reduceLeDiff, true_and, and_true, true_or, or_true, or_self, reduceCtorEq, if_true, if_false, not_false_eq_true, eq_self, c77, C5.e2, C5.e7])
          first
            | (with_reducible show At 77 _ 6 _ _ _ _)
            | (refine go 60 (by decide) ?_; simp only [KX, KY, KZ, KW, KV, Nat.reduceAdd, Nat.reduceSub, Nat.reduceLeDiff, true_and, and_true, true_or, or_true, or_self, reduceCtorEq, if_true, if_false, not_false_eq_true, eq_self, c77, C5.e2, C5.e7])
          rw [nI_1 i]
          rw [pLoop_stop f _ (by show (pI (r.2.1 + 1)).1 = false; exact ok4)] at er
          exact kF2 (i + 1) h5 c5 (by omega) (by rw [← er]; exact ok4) cc5 (by rw [← er]; exact C5)
      · rw [pLoop_end y] at er
        refine go 60 (by decide) ?_
        simp only [KX, KY, KZ, KW, KV, Nat.reduceAdd, Nat.reduceSub, Nat.reduceLeDiff, true_and, and_true, true_or, or_true, or_self, reduceCtorEq, if_true, if_false, not_false_eq_true, eq_self, c77, C2.e2, C2.e7]
        first
          | exact kT _ (by rw [← er]; exact ok) (by rw [← er]; exact C2) (by rw [← er]; exact S2)
          | exact ⟨Or.inl rfl, kT _ (by rw [← er]; exact ok) (by rw [← er]; exact C2) (by rw [← er]; exact S2)⟩
          | exact ⟨Or.inr rfl, kT _ (by rw [← er]; exact ok) (by rw [← er]; exact C2) (by rw [← er]; exact S2)⟩
  refine ma_enter (m := 77) (Or.inl (by decide)) (by show 2 ≤ mt_n 77; decide +kernel) ?_
  show At 77 Q 0 (mt_c 77) [some (.ref 2), some (.int 0), none, none] [] hh
  refine go 60 (by decide) ?_
  simp only [KX, KY, KZ, KW, KV, Nat.reduceAdd, Nat.reduceSub, Nat.reduceLeDiff, true_and, and_true, true_or, or_true, or_self, reduceCtorEq, if_true, if_false, not_false_eq_true, eq_self, c77, CC.e2, CC.e7]
  obtain ⟨g1, g2, g3⟩ := gI _ hk
  refine sI _ _ C _ CC S hk lc (fun h4 ok4 C4 S4 => ?_) (fun h4 c4 ok4 cc4 C4 => ?_)
  · first
      | (with_reducible show At 77 _ 6 _ _ _ _)
      | (refine go 60 (by decide) ?_; simp only [KX, KY, KZ, KW, KV, Nat.reduceAdd, Nat.reduceSub, Nat.reduceLeDiff, true_and, and_true, true_or, or_true, or_self, reduceCtorEq, if_true, if_false, not_false_eq_true, eq_self, c77, C4.e2, C4.e7])
    first
      | (with_reducible show At 77 _ 6 _ _ _ _)
      | (refine go 60 (by decide) ?_; simp only [KX, KY, KZ, KW, KV, Nat.reduceAdd, Nat.reduceSub, Nat.reduceLeDiff, true_and, and_true, true_or, or_true, or_self, reduceCtorEq, if_true, if_false, not_false_eq_true, eq_self, c77, C4.e2, C4.e7])
    first
      | (with_reducible show At 77 _ 6 _ _ _ _)
      | (refine go 60 (by decide) ?_; simp only [KX, KY, KZ, KW, KV, Nat.reduceAdd, Nat.reduceSub, Nat.reduceLeDiff, true_and, and_true, true_or, or_true, or_self, reduceCtorEq, if_true, if_false, not_false_eq_true, eq_self, c77, C4.e2, C4.e7])
    exact lp 200 0 (pI k) h4 rfl rfl ok4 g1 g2 g3 C4 S4
  · first
      | (with_reducible show At 77 _ 6 _ _ _ _)
      | (refine go 60 (by decide) ?_; simp only [KX, KY, KZ, KW, KV, Nat.reduceAdd, Nat.reduceSub, Nat.reduceLeDiff, true_and, and_true, true_or, or_true, or_self, reduceCtorEq, if_true, if_false, not_false_eq_true, eq_self, c77, C4.e2, C4.e7])
    first
      | (with_reducible show At 77 _ 6 _ _ _ _)
      | (refine go 60 (by decide) ?_; simp only [KX, KY, KZ, KW, KV, Nat.reduceAdd, Nat.reduceSub, Nat.reduceLeDiff, true_and, and_true, true_or, or_true, or_self, reduceCtorEq, if_true, if_false, not_false_eq_true, eq_self, c77, C4.e2, C4.e7])
    first
      | (with_reducible show At 77 _ 6 _ _ _ _)
      | (refine go 60 (by decide) ?_; simp only [KX, KY, KZ, KW, KV, Nat.reduceAdd, Nat.reduceSub, Nat.reduceLeDiff, true_and, and_true, true_or, or_true, or_self, reduceCtorEq, if_true, if_false, not_false_eq_true, eq_self, c77, C4.e2, C4.e7])
    exact kF2 0 h4 c4 (Nat.zero_le _) (by rw [pLoop_stop _ _ ok4]; exact ok4) cc4 (by rw [pLoop_stop _ _ ok4]; exact C4)
theorem sCond0 {hb : ma_H} {b : Nat → Nat} {n K cl : Nat} (T : TS hb b n K) {pI : Nat → PR} (gI : PG (tq b n) K pI) (sI : SPC hb b n K cl 77 [.int 0] pI) : SPC hb b n K cl 76 [.int 0] (fun k => (pLoop (tq b n) 260 tkO pI 200 (pI k))) := by
  intro hh k C Q CC S hk lc kT kF
  have K2 := T.1
  have kT : ∀ h2, (pLoop (tq b n) 260 tkO pI 200 (pI k)).1 = true → CP hb n cl h2 (pLoop (tq b n) 260 tkO pI 200 (pI k)).2.1 (C.length + (pLoop (tq b n) 260 tkO pI 200 (pI k)).2.2.1.length) → seg (ai h2 10) 0 (C ++ (pLoop (tq b n) 260 tkO pI 200 (pI k)).2.2.1.map tc) → Q (some (.int 1)) h2 := kT
  have kF2 : ∀ i h2 c2, i ≤ 200 → (pLoop (tq b n) 260 tkO pI 200 (pI k)).1 = false → c2 ≤ 200 → CP hb n cl h2 (pLoop (tq b n) 260 tkO pI 200 (pI k)).2.1 c2 → At 76 Q 6 (0, 0) [some (.ref 2), some (.int 0), some (.int 0), some (.int (nI i))] [] h2 := by
    intro i h2 c2 i2 ok cc C2
    refine go 60 (by decide) ?_
    simp only [KX, KY, KZ, KW, KV, Nat.reduceAdd, Nat.reduceSub, Nat.reduceLeDiff, true_and, and_true, true_or, or_true, or_self, reduceCtorEq, if_true, if_false, not_false_eq_true, eq_self, c76, C2.e2, C2.e7]
    by_cases il : i < 200
    · rw [if_pos (show nI i < (200 : Int32) from nI_lt (b := 200) il (by decide))]
      try (refine go 60 (by decide) ?_; simp only [KX, KY, KZ, KW, KV, Nat.reduceAdd, Nat.reduceSub, Nat.reduceLeDiff, true_and, and_true, true_or, or_true, or_self, reduceCtorEq, if_true, if_false, not_false_eq_true, eq_self, c76, C2.e2, C2.e7])
      first
        | exact kF _ _ ok cc C2
        | exact ⟨Or.inl rfl, kF _ _ ok cc C2⟩
        | exact ⟨Or.inr rfl, kF _ _ ok cc C2⟩
    · rw [if_neg (show ¬ nI i < (200 : Int32) from nI_nlt (b := 200) (by omega) (by omega))]
      try (refine go 60 (by decide) ?_; simp only [KX, KY, KZ, KW, KV, Nat.reduceAdd, Nat.reduceSub, Nat.reduceLeDiff, true_and, and_true, true_or, or_true, or_self, reduceCtorEq, if_true, if_false, not_false_eq_true, eq_self, c76, C2.e2, C2.e7])
      first
        | exact kF _ _ ok cc C2
        | exact ⟨Or.inl rfl, kF _ _ ok cc C2⟩
        | exact ⟨Or.inr rfl, kF _ _ ok cc C2⟩
  have lp : ∀ f i (r : PR) h2, i + f = 200 → pLoop (tq b n) 260 tkO pI f r = (pLoop (tq b n) 260 tkO pI 200 (pI k)) → r.1 = true → k ≤ r.2.1 → r.2.1 ≤ K → r.2.2.1.length ≤ r.2.1 - k → CP hb n cl h2 r.2.1 (C.length + r.2.2.1.length) → seg (ai h2 10) 0 (C ++ r.2.2.1.map tc) → At 76 Q 6 (0, 0) [some (.ref 2), some (.int 0), some (.int 1), some (.int (nI i))] [] h2 := by
    intro f
    induction f with
    | zero =>
      intro i r h2 ei er ok k1 k2 k3 C2 S2
      obtain rfl : i = 200 := by omega
      have er : r = (pLoop (tq b n) 260 tkO pI 200 (pI k)) := er
      refine go 60 (by decide) ?_
      simp only [KX, KY, KZ, KW, KV, Nat.reduceAdd, Nat.reduceSub, Nat.reduceLeDiff, true_and, and_true, true_or, or_true, or_self, reduceCtorEq, if_true, if_false, not_false_eq_true, eq_self, c76, C2.e2, C2.e7]
      rw [if_neg (show ¬ nI 200 < (200 : Int32) from nI_nlt (Nat.le_refl _) (by decide))]
      try (refine go 60 (by decide) ?_; simp only [KX, KY, KZ, KW, KV, Nat.reduceAdd, Nat.reduceSub, Nat.reduceLeDiff, true_and, and_true, true_or, or_true, or_self, reduceCtorEq, if_true, if_false, not_false_eq_true, eq_self, c76, C2.e2, C2.e7])
      first
        | exact kT _ (by rw [← er]; exact ok) (by rw [← er]; exact C2) (by rw [← er]; exact S2)
        | exact ⟨Or.inl rfl, kT _ (by rw [← er]; exact ok) (by rw [← er]; exact C2) (by rw [← er]; exact S2)⟩
        | exact ⟨Or.inr rfl, kT _ (by rw [← er]; exact ok) (by rw [← er]; exact C2) (by rw [← er]; exact S2)⟩
    | succ f ih =>
      intro i r h2 ei er ok k1 k2 k3 C2 S2
      refine go 60 (by decide) ?_
      simp only [KX, KY, KZ, KW, KV, Nat.reduceAdd, Nat.reduceSub, Nat.reduceLeDiff, true_and, and_true, true_or, or_true, or_self, reduceCtorEq, if_true, if_false, not_false_eq_true, eq_self, c76, C2.e2, C2.e7]
      rw [if_pos (show nI i < (200 : Int32) from nI_lt (b := 200) (by omega) (by decide))]
      try (refine go 60 (by decide) ?_; simp only [KX, KY, KZ, KW, KV, Nat.reduceAdd, Nat.reduceSub, Nat.reduceLeDiff, true_and, and_true, true_or, or_true, or_self, reduceCtorEq, if_true, if_false, not_false_eq_true, eq_self, c76, C2.e2, C2.e7])
      refine g73 T C2 k2 (s := 260) (by decide) S2 (fun y k4 h3 C3 S3 => ?_) (fun y => ?_)
      · rw [pLoop_go ok y] at er
        obtain ⟨g1, g2, g3⟩ := gI _ k4
        refine go 60 (by decide) ?_
        simp only [KX, KY, KZ, KW, KV, Nat.reduceAdd, Nat.reduceSub, Nat.reduceLeDiff, true_and, and_true, true_or, or_true, or_self, reduceCtorEq, if_true, if_false, not_false_eq_true, eq_self, c76, C3.e2, C3.e7]
        refine sI _ _ (C ++ r.2.2.1.map tc) _ (by rw [seg_len]; exact C3) S3 k4 (by rw [seg_len]; omega) (fun h4 ok4 C4 S4 => ?_) (fun h4 c4 ok4 cc4 C4 => ?_)
        · refine go 60 (by decide) ?_
          simp only [KX, KY, KZ, KW, KV, Nat.reduceAdd, Nat.reduceSub, Nat.reduceLeDiff, true_and, and_true, true_or, or_true, or_self, reduceCtorEq, if_true, if_false, not_false_eq_true, eq_self, c76, C4.e2, C4.e7]
          rw [seg_len] at C4
          refine g55 C4 S4 (by rw [List.length_append, seg_len, List.length_map]) (by omega) (fun h5 C5 S5 => ?_)
          first
            | (with_reducible show At 76 _ 6 _ _ _ _)
            | (refine go 60 (by decide) ?_; simp only [KX, KY, KZ, KW, KV, Nat.reduceAdd, Nat.reduceSub, Nat.reduceLeDiff, true_and, and_true, true_or, or_true, or_self, reduceCtorEq, if_true, if_false, not_false_eq_true, eq_self, c76, C5.e2, C5.e7])
          first
            | (with_reducible show At 76 _ 6 _ _ _ _)
            | (refine go 60 (by decide) ?_; simp only [KX, KY, KZ, KW, KV, Nat.reduceAdd, Nat.reduceSub, Nat.reduceLeDiff, true_and, and_true, true_or, or_true, or_self, reduceCtorEq, if_true, if_false, not_false_eq_true, eq_self, c76, C5.e2, C5.e7])
          first
            | (with_reducible show At 76 _ 6 _ _ _ _)
            | (refine go 60 (by decide) ?_; simp only [KX, KY, KZ, KW, KV, Nat.reduceAdd, Nat.reduceSub, Nat.reduceLeDiff, true_and, and_true, true_or, or_true, or_self, reduceCtorEq, if_true, if_false, not_false_eq_true, eq_self, c76, C5.e2, C5.e7])
          rw [nI_1 i]
          refine ih (i + 1) _ h5 (by omega) er ok4 (by show k ≤ (pI (r.2.1 + 1)).2.1; omega) g2 ?_ ?_ ?_
          · show (r.2.2.1 ++ (pI (r.2.1 + 1)).2.2.1 ++ [tkO]).length ≤ (pI (r.2.1 + 1)).2.1 - k
            simp only [List.length_append, List.length_cons, List.length_nil]
            omega
          · show CP hb n cl h5 (pI (r.2.1 + 1)).2.1 (C.length + (r.2.2.1 ++ (pI (r.2.1 + 1)).2.2.1 ++ [tkO]).length)
            rw [show C.length + (r.2.2.1 ++ (pI (r.2.1 + 1)).2.2.1 ++ [tkO]).length = C.length + r.2.2.1.length + (pI (r.2.1 + 1)).2.2.1.length + 1 by simp only [List.length_append, List.length_cons, List.length_nil]; omega]
            exact C5
          · show seg (ai h5 10) 0 (C ++ (r.2.2.1 ++ (pI (r.2.1 + 1)).2.2.1 ++ [tkO]).map tc)
            rw [← SPC.one_end, List.map_append, ← List.append_assoc]
            exact S5
        · refine go 60 (by decide) ?_
          simp only [KX, KY, KZ, KW, KV, Nat.reduceAdd, Nat.reduceSub, Nat.reduceLeDiff, true_and, and_true, true_or, or_true, or_self, reduceCtorEq, if_true, if_false, not_false_eq_true, eq_self, c76, C4.e2, C4.e7]
          refine f55 C4 cc4 (fun h5 c5 cc5 C5 => ?_)
          first
            | (with_reducible show At 76 _ 6 _ _ _ _)
            | (refine go 60 (by decide) ?_; simp only [KX, KY, KZ, KW, KV, Nat.reduceAdd, Nat.reduceSub, Nat.reduceLeDiff, true_and, and_true, true_or, or_true, or_self, reduceCtorEq, if_true, if_false, not_false_eq_true, eq_self, c76, C5.e2, C5.e7])
          first
            | (with_reducible show At 76 _ 6 _ _ _ _)
            | (refine go 60 (by decide) ?_; simp only [KX, KY, KZ, KW, KV, Nat.reduceAdd, Nat.reduceSub, Nat.reduceLeDiff, true_and, and_true, true_or, or_true, or_self, reduceCtorEq, if_true, if_false, not_false_eq_true, eq_self, c76, C5.e2, C5.e7])
          first
            | (with_reducible show At 76 _ 6 _ _ _ _)
            | (refine go 60 (by decide) ?_; simp only [KX, KY, KZ, KW, KV, Nat.reduceAdd, Nat.reduceSub, Nat.reduceLeDiff, true_and, and_true, true_or, or_true, or_self, reduceCtorEq, if_true, if_false, not_false_eq_true, eq_self, c76, C5.e2, C5.e7])
          rw [nI_1 i]
          rw [pLoop_stop f _ (by show (pI (r.2.1 + 1)).1 = false; exact ok4)] at er
          exact kF2 (i + 1) h5 c5 (by omega) (by rw [← er]; exact ok4) cc5 (by rw [← er]; exact C5)
      · rw [pLoop_end y] at er
        refine go 60 (by decide) ?_
        simp only [KX, KY, KZ, KW, KV, Nat.reduceAdd, Nat.reduceSub, Nat.reduceLeDiff, true_and, and_true, true_or, or_true, or_self, reduceCtorEq, if_true, if_false, not_false_eq_true, eq_self, c76, C2.e2, C2.e7]
        first
          | exact kT _ (by rw [← er]; exact ok) (by rw [← er]; exact C2) (by rw [← er]; exact S2)
          | exact ⟨Or.inl rfl, kT _ (by rw [← er]; exact ok) (by rw [← er]; exact C2) (by rw [← er]; exact S2)⟩
          | exact ⟨Or.inr rfl, kT _ (by rw [← er]; exact ok) (by rw [← er]; exact C2) (by rw [← er]; exact S2)⟩
  refine ma_enter (m := 76) (Or.inl (by decide)) (by show 2 ≤ mt_n 76; decide +kernel) ?_
  show At 76 Q 0 (mt_c 76) [some (.ref 2), some (.int 0), none, none] [] hh
  refine go 60 (by decide) ?_
  simp only [KX, KY, KZ, KW, KV, Nat.reduceAdd, Nat.reduceSub, Nat.reduceLeDiff, true_and, and_true, true_or, or_true, or_self, reduceCtorEq, if_true, if_false, not_false_eq_true, eq_self, c76, CC.e2, CC.e7]
  obtain ⟨g1, g2, g3⟩ := gI _ hk
  refine sI _ _ C _ CC S hk lc (fun h4 ok4 C4 S4 => ?_) (fun h4 c4 ok4 cc4 C4 => ?_)
  · first
      | (with_reducible show At 76 _ 6 _ _ _ _)
      | (refine go 60 (by decide) ?_; simp only [KX, KY, KZ, KW, KV, Nat.reduceAdd, Nat.reduceSub, Nat.reduceLeDiff, true_and, and_true, true_or, or_true, or_self, reduceCtorEq, if_true, if_false, not_false_eq_true, eq_self, c76, C4.e2, C4.e7])
    first
      | (with_reducible show At 76 _ 6 _ _ _ _)
      | (refine go 60 (by decide) ?_; simp only [KX, KY, KZ, KW, KV, Nat.reduceAdd, Nat.reduceSub, Nat.reduceLeDiff, true_and, and_true, true_or, or_true, or_self, reduceCtorEq, if_true, if_false, not_false_eq_true, eq_self, c76, C4.e2, C4.e7])
    first
      | (with_reducible show At 76 _ 6 _ _ _ _)
      | (refine go 60 (by decide) ?_; simp only [KX, KY, KZ, KW, KV, Nat.reduceAdd, Nat.reduceSub, Nat.reduceLeDiff, true_and, and_true, true_or, or_true, or_self, reduceCtorEq, if_true, if_false, not_false_eq_true, eq_self, c76, C4.e2, C4.e7])
    exact lp 200 0 (pI k) h4 rfl rfl ok4 g1 g2 g3 C4 S4
  · first
      | (with_reducible show At 76 _ 6 _ _ _ _)
      | (refine go 60 (by decide) ?_; simp only [KX, KY, KZ, KW, KV, Nat.reduceAdd, Nat.reduceSub, Nat.reduceLeDiff, true_and, and_true, true_or, or_true, or_self, reduceCtorEq, if_true, if_false, not_false_eq_true, eq_self, c76, C4.e2, C4.e7])
    first
      | (with_reducible show At 76 _ 6 _ _ _ _)
      | (refine go 60 (by decide) ?_; simp only [KX, KY, KZ, KW, KV, Nat.reduceAdd, Nat.reduceSub, Nat.reduceLeDiff, true_and, and_true, true_or, or_true, or_self, reduceCtorEq, if_true, if_false, not_false_eq_true, eq_self, c76, C4.e2, C4.e7])
    first
      | (with_reducible show At 76 _ 6 _ _ _ _)
      | (refine go 60 (by decide) ?_; simp only [KX, KY, KZ, KW, KV, Nat.reduceAdd, Nat.reduceSub, Nat.reduceLeDiff, true_and, and_true, true_or, or_true, or_self, reduceCtorEq, if_true, if_false, not_false_eq_true, eq_self, c76, C4.e2, C4.e7])
    exact kF2 0 h4 c4 (Nat.zero_le _) (by rw [pLoop_stop _ _ ok4]; exact ok4) cc4 (by rw [pLoop_stop _ _ ok4]; exact C4)
def pC3 (q : Nat → Nat) : Nat → PR := pCond q none
def pC2 (q : Nat → Nat) : Nat → PR := pCond q (some (pC3 q))
def pC1 (q : Nat → Nat) : Nat → PR := pCond q (some (pC2 q))
def pC0 (q : Nat → Nat) : Nat → PR := pCond q (some (pC1 q))
theorem gC3 {q : Nat → Nat} {K : Nat} (e : q K = 256) : PG q K (pC3 q) := pCond_ok e (fun c z => by cases z)
theorem gC2 {q : Nat → Nat} {K : Nat} (e : q K = 256) : PG q K (pC2 q) := pCond_ok e (fun c z => by cases z; exact gC3 e)
theorem gC1 {q : Nat → Nat} {K : Nat} (e : q K = 256) : PG q K (pC1 q) := pCond_ok e (fun c z => by cases z; exact gC2 e)
theorem gC0 {q : Nat → Nat} {K : Nat} (e : q K = 256) : PG q K (pC0 q) := pCond_ok e (fun c z => by cases z; exact gC1 e)
theorem sC3 {hb : ma_H} {b : Nat → Nat} {n K cl : Nat} (T : TS hb b n K) : SPC hb b n K cl 282 [.int 3] (pC3 (tq b n)) := sCond3 T (pAll_ok (tq_K T) (fun c z => by cases z)) (sAll3 T (pOne_ok (tq_K T) (fun c z => by cases z)) (sOne3 T))
theorem sC2 {hb : ma_H} {b : Nat → Nat} {n K cl : Nat} (T : TS hb b n K) : SPC hb b n K cl 279 [.int 2] (pC2 (tq b n)) := sCond2 T (pAll_ok (tq_K T) (fun c z => by cases z; exact gC3 (tq_K T))) (sAll2 T (pOne_ok (tq_K T) (fun c z => by cases z; exact gC3 (tq_K T))) (sOne2 T (gC3 (tq_K T)) (sC3 T)))
theorem sC1 {hb : ma_H} {b : Nat → Nat} {n K cl : Nat} (T : TS hb b n K) : SPC hb b n K cl 276 [.int 1] (pC1 (tq b n)) := sCond1 T (pAll_ok (tq_K T) (fun c z => by cases z; exact gC2 (tq_K T))) (sAll1 T (pOne_ok (tq_K T) (fun c z => by cases z; exact gC2 (tq_K T))) (sOne1 T (gC2 (tq_K T)) (sC2 T)))
theorem sC0 {hb : ma_H} {b : Nat → Nat} {n K cl : Nat} (T : TS hb b n K) : SPC hb b n K cl 76 [.int 0] (pC0 (tq b n)) := sCond0 T (pAll_ok (tq_K T) (fun c z => by cases z; exact gC1 (tq_K T))) (sAll0 T (pOne_ok (tq_K T) (fun c z => by cases z; exact gC1 (tq_K T))) (sOne0 T (gC1 (tq_K T)) (sC1 T)))
