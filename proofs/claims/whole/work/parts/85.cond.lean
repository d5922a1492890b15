/-! THE LAW: what a COND comes to in the Model -/
/-- the Model's pile -/
def PL (g : Nat → Int32) : List Bool → Prop
  | [] => True
  | b :: r => g r.length = bI b ∧ PL g r
theorem PL_up {g : Nat → Int32} {i : Nat} {v : Int32} : ∀ st : List Bool, st.length ≤ i → PL g st → PL (upd g i v) st
  | [], _, _ => trivial
  | b :: r, h, w => by
    have h : r.length + 1 ≤ i := h
    refine ⟨?_, PL_up r (by omega) w.2⟩
    rw [show upd g i v r.length = g r.length from if_neg (by omega)]
    exact w.1
theorem tmv_v (F : Nat → Int32) {v : Nat} (hv : v < 1006) : (v < 1000 ∧ tmv v = nI v ∧ tv F v = nI v) ∨ ∃ w, w < 6 ∧ v = 1000 + w ∧ tmv v = nI (20000 + w) ∧ tv F v = F w := by
  by_cases c : v < 1000
  · exact Or.inl ⟨c, if_pos c, if_pos c⟩
  · obtain ⟨w, rfl⟩ : ∃ w, v = 1000 + w := ⟨v - 1000, by omega⟩
    refine Or.inr ⟨w, by omega, rfl, ?_, ?_⟩
    · rw [show tmv (1000 + w) = nI (19000 + (1000 + w)) from if_neg c, show 19000 + (1000 + w) = 20000 + w by omega]
    · rw [show tv F (1000 + w) = F (1000 + w - 1000) from if_neg c, Nat.add_sub_cancel_left]
theorem sub_20000 (w : Nat) : nI (20000 + w) - 20000 = nI w := by
  rw [← nI_add, Int32.add_comm]
  exact Int32.add_sub_cancel (nI w) (nI 20000)
theorem tmv_ne {v : Nat} (hv : v < 1006) : ¬ tmv v = 40002 ∧ ¬ tmv v = 40000 ∧ ¬ tmv v = 40001 := by
  have q : ∃ n, n < 30000 ∧ tmv v = nI n := by
    unfold tmv
    split
    · exact ⟨v, by omega, rfl⟩
    · exact ⟨19000 + v, by omega, rfl⟩
  obtain ⟨n, hn, e⟩ := q
  rw [e]
  exact ⟨fun z => absurd ((nI_eq (by omega) (by decide)).mp (show nI n = nI 40002 from z)) (by omega), fun z => absurd ((nI_eq (by omega) (by decide)).mp (show nI n = nI 40000 from z)) (by omega), fun z => absurd ((nI_eq (by omega) (by decide)).mp (show nI n = nI 40001 from z)) (by omega)⟩
theorem nI_dn (n : Nat) : nI (n + 1) + -1 = nI n := by
  rw [← nI_1, Int32.add_assoc, show (1 : Int32) + -1 = 0 from by decide, Int32.add_zero]
theorem s189 {h : ma_H} {Q : ma_Q} {b : Nat} {M : List Tok} {st : List Bool} {F : Nat → Int32} (H : Sh h) (hF : h.2.1 95 = .inl (.int, 6, .inl F)) (hM : b + (tms M).length ≤ 200) (sg : seg (ai h 93) b (tms M)) (ok : ∀ t ∈ M, tok_ok t) (e : ev F 90 M [] = some st) (s1 : st.length ≤ 1) (k : ∀ g, Q (some (.int (bI (sres st)))) (ma_set h 98 (.inl (.boolean, 100, .inl g)))) : ma_X 189 [.ref 80, .ref 93, .int (nI b), .int (nI (b + (tms M).length))] h Q := by
  have hs : ∀ g, Sh (ma_set h 98 (.inl (.boolean, 100, .inl g))) := fun g => sh_set H rfl
  have h93 : ∀ c, (ma_set h 98 c).2.1 93 = .inl (.int, 200, .inl (ai h 93)) := fun c => (ma_set_ne _ _ (by decide)).trans H.e93
  have h95 : ∀ c, (ma_set h 98 c).2.1 95 = .inl (.int, 6, .inl F) := fun c => (ma_set_ne _ _ (by decide)).trans hF
  have lp : ∀ (M2 : List Tok) (j : Nat) (s0 : List Bool) (g : Nat → Int32), (∀ k v, (tms M2)[k]? = some v → ai h 93 (b + j + k) = v) → (∀ t ∈ M2, tok_ok t) → j + (tms M2).length = (tms M).length → s0.length ≤ 90 → ev F 90 M2 s0 = some st → PL g s0 → At 189 Q 4 (0, 0) [some (.ref 80), some (.ref 93), none, some (.int (nI (b + (tms M).length))), some (.int (nI s0.length)), some (.int (nI (b + j))), none, none, none] [] (ma_set h 98 (.inl (.boolean, 100, .inl g))) := by
    intro M2
    induction M2 with
    | nil =>
      intro j s0 g w1 w2 w3 w4 w5 w6
      obtain rfl : j = (tms M).length := w3
      obtain rfl : s0 = st := Option.some.inj w5
      refine go 60 (by decide) ?_
      simp only [KX, KY, KZ, KW, KV, Nat.reduceAdd, Nat.reduceSub, Nat.reduceLeDiff, true_and, and_true, true_or, or_true, or_self, reduceCtorEq, if_true, if_false, not_false_eq_true, eq_self, c189, (hs _).e80, h93, h95, (hs _).e98, ai_at, nz0, nz1]
      rw [if_neg (nI_nlt (Nat.le_refl _) (by omega))]
      try (refine go 60 (by decide) ?_; simp only [KX, KY, KZ, KW, KV, Nat.reduceAdd, Nat.reduceSub, Nat.reduceLeDiff, true_and, and_true, true_or, or_true, or_self, reduceCtorEq, if_true, if_false, not_false_eq_true, eq_self, c189, (hs _).e80, h93, h95, (hs _).e98, ai_at, nz0, nz1])
      have kk := k g
      cases s0 with
      | nil =>
        try (refine go 60 (by decide) ?_; simp only [KX, KY, KZ, KW, KV, Nat.reduceAdd, Nat.reduceSub, Nat.reduceLeDiff, true_and, and_true, true_or, or_true, or_self, reduceCtorEq, if_true, if_false, not_false_eq_true, eq_self, c189, (hs _).e80, h93, h95, (hs _).e98, ai_at, nz0, nz1])
        simp only [KX, KY, KZ, KW, KV, Nat.reduceAdd, Nat.reduceSub, Nat.reduceLeDiff, true_and, and_true, true_or, or_true, or_self, reduceCtorEq, if_true, if_false, not_false_eq_true, eq_self, show (nI ([] : List Bool).length = 0) = True from by decide]
        try (refine go 60 (by decide) ?_; simp only [KX, KY, KZ, KW, KV, Nat.reduceAdd, Nat.reduceSub, Nat.reduceLeDiff, true_and, and_true, true_or, or_true, or_self, reduceCtorEq, if_true, if_false, not_false_eq_true, eq_self, c189, (hs _).e80, h93, h95, (hs _).e98, ai_at, nz0, nz1])
        exact kk
      | cons x q =>
        cases q with
        | nil =>
          have px : g 0 = bI x := w6.1
          simp only [KX, KY, KZ, KW, KV, Nat.reduceAdd, Nat.reduceSub, Nat.reduceLeDiff, true_and, and_true, true_or, or_true, or_self, reduceCtorEq, if_true, if_false, not_false_eq_true, eq_self, show (nI [x].length = 0) = False from by show (nI 1 = 0) = False; decide, show Int32.toNatClampNeg 0 = 0 from rfl, px]
          refine ⟨nI_in (c := 0) (by decide) (by decide), ?_⟩
          cases x
          · rw [if_pos (show bI false = 0 from rfl)]
            try (refine go 60 (by decide) ?_; simp only [KX, KY, KZ, KW, KV, Nat.reduceAdd, Nat.reduceSub, Nat.reduceLeDiff, true_and, and_true, true_or, or_true, or_self, reduceCtorEq, if_true, if_false, not_false_eq_true, eq_self, c189, (hs _).e80, h93, h95, (hs _).e98, ai_at, nz0, nz1])
            exact kk
          · rw [if_neg (show ¬ bI true = 0 by decide)]
            try (refine go 60 (by decide) ?_; simp only [KX, KY, KZ, KW, KV, Nat.reduceAdd, Nat.reduceSub, Nat.reduceLeDiff, true_and, and_true, true_or, or_true, or_self, reduceCtorEq, if_true, if_false, not_false_eq_true, eq_self, c189, (hs _).e80, h93, h95, (hs _).e98, ai_at, nz0, nz1])
            exact kk
        | cons y q => exact absurd s1 (by simp only [List.length_cons]; omega)
    | cons t r ih =>
      intro j s0 g w1 w2 w3 w4 w5 w6
      have wo : ∀ t ∈ r, tok_ok t := fun t ht => w2 t (List.mem_cons_of_mem _ ht)
      have ok : tok_ok t := w2 t (by simp)
      obtain ⟨o, l, r2⟩ := t
      obtain ⟨ok1, ok2, ok3⟩ := ok
      dsimp only at ok1 ok2 ok3
      rcases (show o = 3 ∨ o = 4 ∨ o = 5 ∨ o < 3 by omega) with rfl | rfl | rfl | ho
      · have w0 : ai h 93 (b + j) = 40002 := w1 0 _ rfl
        have w3 : j + ((tms r).length + 1) = (tms M).length := w3
        have wr : ∀ k v, (tms r)[k]? = some v → ai h 93 (b + (j + 1) + k) = v := fun k v e => by
          rw [show b + (j + 1) + k = b + j + (k + 1) by omega]
          exact w1 (k + 1) v e
        cases s0 with
        | nil => exact absurd (show (none : Option (List Bool)) = some st from w5) (by intro z; cases z)
        | cons x q =>
          refine go 60 (by decide) ?_
          simp only [KX, KY, KZ, KW, KV, Nat.reduceAdd, Nat.reduceSub, Nat.reduceLeDiff, true_and, and_true, true_or, or_true, or_self, reduceCtorEq, if_true, if_false, not_false_eq_true, eq_self, c189, (hs _).e80, h93, h95, (hs _).e98, ai_at, nz0, nz1, show ((40002 : Int32) = 40000) = False from by decide, show ((40002 : Int32) = 40001) = False from by decide, show ((40000 : Int32) = 40002) = False from by decide, show ((40000 : Int32) = 40001) = False from by decide, show ((40001 : Int32) = 40002) = False from by decide, show ((40001 : Int32) = 40000) = False from by decide]
          rw [if_pos (nI_lt (show b + j < b + (tms M).length by omega) (by omega)), nI_clamp (show b + j < 2 ^ 31 by omega)]
          refine ⟨nI_in (show b + j < 200 by omega) (by decide), ?_⟩
          rw [w0]
          simp only [KX, KY, KZ, KW, KV, Nat.reduceAdd, Nat.reduceSub, Nat.reduceLeDiff, true_and, and_true, true_or, or_true, or_self, reduceCtorEq, if_true, if_false, not_false_eq_true, eq_self, c189, show ((40002 : Int32) = 40000) = False from by decide, show ((40002 : Int32) = 40001) = False from by decide, show ((40000 : Int32) = 40002) = False from by decide, show ((40000 : Int32) = 40001) = False from by decide, show ((40001 : Int32) = 40002) = False from by decide, show ((40001 : Int32) = 40000) = False from by decide]
          rw [show (x :: q).length = q.length + 1 from rfl, nI_pred, nI_clamp (show q.length < 2 ^ 31 by simp only [List.length_cons] at w4; omega)]
          have q90 : q.length < 100 := by simp only [List.length_cons] at w4; omega
          have pv := w6.1
          refine ⟨nI_in q90 (by decide), ?_⟩
          rw [pv]
          have ih2 := ih (j + 1) ((!x) :: q) (upd g q.length (bI (!x))) wr wo (by omega) (by simp only [List.length_cons] at w4 ⊢; omega) w5 ⟨if_pos rfl, PL_up q (Nat.le_refl _) w6.2⟩
          cases x
          · rw [if_pos (show bI false = 0 from rfl)]
            first
              | (with_reducible show At 189 _ 29 _ _ _ _)
              | (refine go 60 (by decide) ?_; simp only [KX, KY, KZ, KW, KV, Nat.reduceAdd, Nat.reduceSub, Nat.reduceLeDiff, true_and, and_true, true_or, or_true, or_self, reduceCtorEq, if_true, if_false, not_false_eq_true, eq_self, c189, (hs _).e80, h93, h95, (hs _).e98, ai_at, nz0, nz1, show ((40002 : Int32) = 40000) = False from by decide, show ((40002 : Int32) = 40001) = False from by decide, show ((40000 : Int32) = 40002) = False from by decide, show ((40000 : Int32) = 40001) = False from by decide, show ((40001 : Int32) = 40002) = False from by decide, show ((40001 : Int32) = 40000) = False from by decide])
            first
              | (with_reducible show At 189 _ 29 _ _ _ _)
              | (refine go 60 (by decide) ?_; simp only [KX, KY, KZ, KW, KV, Nat.reduceAdd, Nat.reduceSub, Nat.reduceLeDiff, true_and, and_true, true_or, or_true, or_self, reduceCtorEq, if_true, if_false, not_false_eq_true, eq_self, c189, (hs _).e80, h93, h95, (hs _).e98, ai_at, nz0, nz1, show ((40002 : Int32) = 40000) = False from by decide, show ((40002 : Int32) = 40001) = False from by decide, show ((40000 : Int32) = 40002) = False from by decide, show ((40000 : Int32) = 40001) = False from by decide, show ((40001 : Int32) = 40002) = False from by decide, show ((40001 : Int32) = 40000) = False from by decide])
            first
              | (with_reducible show At 189 _ 29 _ _ _ _)
              | (refine go 60 (by decide) ?_; simp only [KX, KY, KZ, KW, KV, Nat.reduceAdd, Nat.reduceSub, Nat.reduceLeDiff, true_and, and_true, true_or, or_true, or_self, reduceCtorEq, if_true, if_false, not_false_eq_true, eq_self, c189, (hs _).e80, h93, h95, (hs _).e98, ai_at, nz0, nz1, show ((40002 : Int32) = 40000) = False from by decide, show ((40002 : Int32) = 40001) = False from by decide, show ((40000 : Int32) = 40002) = False from by decide, show ((40000 : Int32) = 40001) = False from by decide, show ((40001 : Int32) = 40002) = False from by decide, show ((40001 : Int32) = 40000) = False from by decide])
            refine go 60 (by decide) ?_
            simp only [KX, KY, KZ, KW, KV, Nat.reduceAdd, Nat.reduceSub, Nat.reduceLeDiff, true_and, and_true, true_or, or_true, or_self, reduceCtorEq, if_true, if_false, not_false_eq_true, eq_self, c189, (hs _).e80, h93, h95, (hs _).e98, ai_at, nz0, nz1, show ((40002 : Int32) = 40000) = False from by decide, show ((40002 : Int32) = 40001) = False from by decide, show ((40000 : Int32) = 40002) = False from by decide, show ((40000 : Int32) = 40001) = False from by decide, show ((40001 : Int32) = 40002) = False from by decide, show ((40001 : Int32) = 40000) = False from by decide]
            rw [nI_clamp (show q.length < 2 ^ 31 by omega)]
            refine ⟨nI_in q90 (by decide), ?_⟩
            first
              | (with_reducible show At 189 _ 4 _ _ _ _)
              | (refine go 60 (by decide) ?_; simp only [KX, KY, KZ, KW, KV, Nat.reduceAdd, Nat.reduceSub, Nat.reduceLeDiff, true_and, and_true, true_or, or_true, or_self, reduceCtorEq, if_true, if_false, not_false_eq_true, eq_self, c189, (hs _).e80, h93, h95, (hs _).e98, ai_at, nz0, nz1, show ((40002 : Int32) = 40000) = False from by decide, show ((40002 : Int32) = 40001) = False from by decide, show ((40000 : Int32) = 40002) = False from by decide, show ((40000 : Int32) = 40001) = False from by decide, show ((40001 : Int32) = 40002) = False from by decide, show ((40001 : Int32) = 40000) = False from by decide])
            first
              | (with_reducible show At 189 _ 4 _ _ _ _)
              | (refine go 60 (by decide) ?_; simp only [KX, KY, KZ, KW, KV, Nat.reduceAdd, Nat.reduceSub, Nat.reduceLeDiff, true_and, and_true, true_or, or_true, or_self, reduceCtorEq, if_true, if_false, not_false_eq_true, eq_self, c189, (hs _).e80, h93, h95, (hs _).e98, ai_at, nz0, nz1, show ((40002 : Int32) = 40000) = False from by decide, show ((40002 : Int32) = 40001) = False from by decide, show ((40000 : Int32) = 40002) = False from by decide, show ((40000 : Int32) = 40001) = False from by decide, show ((40001 : Int32) = 40002) = False from by decide, show ((40001 : Int32) = 40000) = False from by decide])
            first
              | (with_reducible show At 189 _ 4 _ _ _ _)
              | (refine go 60 (by decide) ?_; simp only [KX, KY, KZ, KW, KV, Nat.reduceAdd, Nat.reduceSub, Nat.reduceLeDiff, true_and, and_true, true_or, or_true, or_self, reduceCtorEq, if_true, if_false, not_false_eq_true, eq_self, c189, (hs _).e80, h93, h95, (hs _).e98, ai_at, nz0, nz1, show ((40002 : Int32) = 40000) = False from by decide, show ((40002 : Int32) = 40001) = False from by decide, show ((40000 : Int32) = 40002) = False from by decide, show ((40000 : Int32) = 40001) = False from by decide, show ((40001 : Int32) = 40002) = False from by decide, show ((40001 : Int32) = 40000) = False from by decide])
            rw [ma_set_set, nI_1 (b + j)]
            exact At_le ih2 ⟨rfl, rfl, rfl, rfl, rfl, trivial⟩
          · rw [if_neg (show ¬ bI true = 0 by decide)]
            first
              | (with_reducible show At 189 _ 29 _ _ _ _)
              | (refine go 60 (by decide) ?_; simp only [KX, KY, KZ, KW, KV, Nat.reduceAdd, Nat.reduceSub, Nat.reduceLeDiff, true_and, and_true, true_or, or_true, or_self, reduceCtorEq, if_true, if_false, not_false_eq_true, eq_self, c189, (hs _).e80, h93, h95, (hs _).e98, ai_at, nz0, nz1, show ((40002 : Int32) = 40000) = False from by decide, show ((40002 : Int32) = 40001) = False from by decide, show ((40000 : Int32) = 40002) = False from by decide, show ((40000 : Int32) = 40001) = False from by decide, show ((40001 : Int32) = 40002) = False from by decide, show ((40001 : Int32) = 40000) = False from by decide])
            first
              | (with_reducible show At 189 _ 29 _ _ _ _)
              | (refine go 60 (by decide) ?_; simp only [KX, KY, KZ, KW, KV, Nat.reduceAdd, Nat.reduceSub, Nat.reduceLeDiff, true_and, and_true, true_or, or_true, or_self, reduceCtorEq, if_true, if_false, not_false_eq_true, eq_self, c189, (hs _).e80, h93, h95, (hs _).e98, ai_at, nz0, nz1, show ((40002 : Int32) = 40000) = False from by decide, show ((40002 : Int32) = 40001) = False from by decide, show ((40000 : Int32) = 40002) = False from by decide, show ((40000 : Int32) = 40001) = False from by decide, show ((40001 : Int32) = 40002) = False from by decide, show ((40001 : Int32) = 40000) = False from by decide])
            first
              | (with_reducible show At 189 _ 29 _ _ _ _)
              | (refine go 60 (by decide) ?_; simp only [KX, KY, KZ, KW, KV, Nat.reduceAdd, Nat.reduceSub, Nat.reduceLeDiff, true_and, and_true, true_or, or_true, or_self, reduceCtorEq, if_true, if_false, not_false_eq_true, eq_self, c189, (hs _).e80, h93, h95, (hs _).e98, ai_at, nz0, nz1, show ((40002 : Int32) = 40000) = False from by decide, show ((40002 : Int32) = 40001) = False from by decide, show ((40000 : Int32) = 40002) = False from by decide, show ((40000 : Int32) = 40001) = False from by decide, show ((40001 : Int32) = 40002) = False from by decide, show ((40001 : Int32) = 40000) = False from by decide])
            refine go 60 (by decide) ?_
            simp only [KX, KY, KZ, KW, KV, Nat.reduceAdd, Nat.reduceSub, Nat.reduceLeDiff, true_and, and_true, true_or, or_true, or_self, reduceCtorEq, if_true, if_false, not_false_eq_true, eq_self, c189, (hs _).e80, h93, h95, (hs _).e98, ai_at, nz0, nz1, show ((40002 : Int32) = 40000) = False from by decide, show ((40002 : Int32) = 40001) = False from by decide, show ((40000 : Int32) = 40002) = False from by decide, show ((40000 : Int32) = 40001) = False from by decide, show ((40001 : Int32) = 40002) = False from by decide, show ((40001 : Int32) = 40000) = False from by decide]
            rw [nI_clamp (show q.length < 2 ^ 31 by omega)]
            refine ⟨nI_in q90 (by decide), ?_⟩
            first
              | (with_reducible show At 189 _ 4 _ _ _ _)
              | (refine go 60 (by decide) ?_; simp only [KX, KY, KZ, KW, KV, Nat.reduceAdd, Nat.reduceSub, Nat.reduceLeDiff, true_and, and_true, true_or, or_true, or_self, reduceCtorEq, if_true, if_false, not_false_eq_true, eq_self, c189, (hs _).e80, h93, h95, (hs _).e98, ai_at, nz0, nz1, show ((40002 : Int32) = 40000) = False from by decide, show ((40002 : Int32) = 40001) = False from by decide, show ((40000 : Int32) = 40002) = False from by decide, show ((40000 : Int32) = 40001) = False from by decide, show ((40001 : Int32) = 40002) = False from by decide, show ((40001 : Int32) = 40000) = False from by decide])
            first
              | (with_reducible show At 189 _ 4 _ _ _ _)
              | (refine go 60 (by decide) ?_; simp only [KX, KY, KZ, KW, KV, Nat.reduceAdd, Nat.reduceSub, Nat.reduceLeDiff, true_and, and_true, true_or, or_true, or_self, reduceCtorEq, if_true, if_false, not_false_eq_true, eq_self, c189, (hs _).e80, h93, h95, (hs _).e98, ai_at, nz0, nz1, show ((40002 : Int32) = 40000) = False from by decide, show ((40002 : Int32) = 40001) = False from by decide, show ((40000 : Int32) = 40002) = False from by decide, show ((40000 : Int32) = 40001) = False from by decide, show ((40001 : Int32) = 40002) = False from by decide, show ((40001 : Int32) = 40000) = False from by decide])
            first
              | (with_reducible show At 189 _ 4 _ _ _ _)
              | (refine go 60 (by decide) ?_; simp only [KX, KY, KZ, KW, KV, Nat.reduceAdd, Nat.reduceSub, Nat.reduceLeDiff, true_and, and_true, true_or, or_true, or_self, reduceCtorEq, if_true, if_false, not_false_eq_true, eq_self, c189, (hs _).e80, h93, h95, (hs _).e98, ai_at, nz0, nz1, show ((40002 : Int32) = 40000) = False from by decide, show ((40002 : Int32) = 40001) = False from by decide, show ((40000 : Int32) = 40002) = False from by decide, show ((40000 : Int32) = 40001) = False from by decide, show ((40001 : Int32) = 40002) = False from by decide, show ((40001 : Int32) = 40000) = False from by decide])
            rw [ma_set_set, nI_1 (b + j)]
            exact At_le ih2 ⟨rfl, rfl, rfl, rfl, rfl, trivial⟩
      · have w0 : ai h 93 (b + j) = 40000 := w1 0 _ rfl
        have w3 : j + ((tms r).length + 1) = (tms M).length := w3
        have wr : ∀ k v, (tms r)[k]? = some v → ai h 93 (b + (j + 1) + k) = v := fun k v e => by
          rw [show b + (j + 1) + k = b + j + (k + 1) by omega]
          exact w1 (k + 1) v e
        cases s0 with
        | nil => exact absurd (show (none : Option (List Bool)) = some st from w5) (by intro z; cases z)
        | cons x q0 =>
          cases q0 with
          | nil => exact absurd (show (none : Option (List Bool)) = some st from w5) (by intro z; cases z)
          | cons y q =>
            refine go 60 (by decide) ?_
            simp only [KX, KY, KZ, KW, KV, Nat.reduceAdd, Nat.reduceSub, Nat.reduceLeDiff, true_and, and_true, true_or, or_true, or_self, reduceCtorEq, if_true, if_false, not_false_eq_true, eq_self, c189, (hs _).e80, h93, h95, (hs _).e98, ai_at, nz0, nz1, show ((40002 : Int32) = 40000) = False from by decide, show ((40002 : Int32) = 40001) = False from by decide, show ((40000 : Int32) = 40002) = False from by decide, show ((40000 : Int32) = 40001) = False from by decide, show ((40001 : Int32) = 40002) = False from by decide, show ((40001 : Int32) = 40000) = False from by decide]
            rw [if_pos (nI_lt (show b + j < b + (tms M).length by omega) (by omega)), nI_clamp (show b + j < 2 ^ 31 by omega)]
            refine ⟨nI_in (show b + j < 200 by omega) (by decide), ?_⟩
            rw [w0]
            simp only [KX, KY, KZ, KW, KV, Nat.reduceAdd, Nat.reduceSub, Nat.reduceLeDiff, true_and, and_true, true_or, or_true, or_self, reduceCtorEq, if_true, if_false, not_false_eq_true, eq_self, c189, show ((40002 : Int32) = 40000) = False from by decide, show ((40002 : Int32) = 40001) = False from by decide, show ((40000 : Int32) = 40002) = False from by decide, show ((40000 : Int32) = 40001) = False from by decide, show ((40001 : Int32) = 40002) = False from by decide, show ((40001 : Int32) = 40000) = False from by decide]
            have q90 : q.length + 2 ≤ 90 := by simp only [List.length_cons] at w4; omega
            rw [show (x :: y :: q).length = q.length + 2 from rfl, show nI (q.length + 2) + -1 = nI (q.length + 1) from nI_dn (q.length + 1), show nI (q.length + 1) - 1 = nI q.length from nI_pred q.length, nI_clamp (show q.length < 2 ^ 31 by omega)]
            have px : g (q.length + 1) = bI x := w6.1
            have py : g q.length = bI y := w6.2.1
            refine ⟨nI_in (show q.length < 100 by omega) (by decide), ?_⟩
            rw [py]
            have ih2 := ih (j + 1) ((y && x) :: q) (upd g q.length (bI (y && x))) wr wo (by omega) (by simp only [List.length_cons]; omega) w5 ⟨if_pos rfl, PL_up q (Nat.le_refl _) w6.2.2⟩
            cases y <;> cases x
            · rw [if_pos (show bI false = 0 from rfl)]
              first
                | (with_reducible show At 189 _ 77 _ _ _ _)
                | (refine go 60 (by decide) ?_; simp only [KX, KY, KZ, KW, KV, Nat.reduceAdd, Nat.reduceSub, Nat.reduceLeDiff, true_and, and_true, true_or, or_true, or_self, reduceCtorEq, if_true, if_false, not_false_eq_true, eq_self, c189, (hs _).e80, h93, h95, (hs _).e98, ai_at, nz0, nz1, show ((40002 : Int32) = 40000) = False from by decide, show ((40002 : Int32) = 40001) = False from by decide, show ((40000 : Int32) = 40002) = False from by decide, show ((40000 : Int32) = 40001) = False from by decide, show ((40001 : Int32) = 40002) = False from by decide, show ((40001 : Int32) = 40000) = False from by decide])
              first
                | (with_reducible show At 189 _ 77 _ _ _ _)
                | (refine go 60 (by decide) ?_; simp only [KX, KY, KZ, KW, KV, Nat.reduceAdd, Nat.reduceSub, Nat.reduceLeDiff, true_and, and_true, true_or, or_true, or_self, reduceCtorEq, if_true, if_false, not_false_eq_true, eq_self, c189, (hs _).e80, h93, h95, (hs _).e98, ai_at, nz0, nz1, show ((40002 : Int32) = 40000) = False from by decide, show ((40002 : Int32) = 40001) = False from by decide, show ((40000 : Int32) = 40002) = False from by decide, show ((40000 : Int32) = 40001) = False from by decide, show ((40001 : Int32) = 40002) = False from by decide, show ((40001 : Int32) = 40000) = False from by decide])
              first
                | (with_reducible show At 189 _ 77 _ _ _ _)
                | (refine go 60 (by decide) ?_; simp only [KX, KY, KZ, KW, KV, Nat.reduceAdd, Nat.reduceSub, Nat.reduceLeDiff, true_and, and_true, true_or, or_true, or_self, reduceCtorEq, if_true, if_false, not_false_eq_true, eq_self, c189, (hs _).e80, h93, h95, (hs _).e98, ai_at, nz0, nz1, show ((40002 : Int32) = 40000) = False from by decide, show ((40002 : Int32) = 40001) = False from by decide, show ((40000 : Int32) = 40002) = False from by decide, show ((40000 : Int32) = 40001) = False from by decide, show ((40001 : Int32) = 40002) = False from by decide, show ((40001 : Int32) = 40000) = False from by decide])
              refine go 60 (by decide) ?_
              simp only [KX, KY, KZ, KW, KV, Nat.reduceAdd, Nat.reduceSub, Nat.reduceLeDiff, true_and, and_true, true_or, or_true, or_self, reduceCtorEq, if_true, if_false, not_false_eq_true, eq_self, c189, (hs _).e80, h93, h95, (hs _).e98, ai_at, nz0, nz1, show ((40002 : Int32) = 40000) = False from by decide, show ((40002 : Int32) = 40001) = False from by decide, show ((40000 : Int32) = 40002) = False from by decide, show ((40000 : Int32) = 40001) = False from by decide, show ((40001 : Int32) = 40002) = False from by decide, show ((40001 : Int32) = 40000) = False from by decide]
              first
                | rw [nI_clamp (show q.length < 2 ^ 31 by omega)]
                | skip
              refine ⟨nI_in (show q.length < 100 by omega) (by decide), ?_⟩
              first
                | (with_reducible show At 189 _ 4 _ _ _ _)
                | (refine go 60 (by decide) ?_; simp only [KX, KY, KZ, KW, KV, Nat.reduceAdd, Nat.reduceSub, Nat.reduceLeDiff, true_and, and_true, true_or, or_true, or_self, reduceCtorEq, if_true, if_false, not_false_eq_true, eq_self, c189, (hs _).e80, h93, h95, (hs _).e98, ai_at, nz0, nz1, show ((40002 : Int32) = 40000) = False from by decide, show ((40002 : Int32) = 40001) = False from by decide, show ((40000 : Int32) = 40002) = False from by decide, show ((40000 : Int32) = 40001) = False from by decide, show ((40001 : Int32) = 40002) = False from by decide, show ((40001 : Int32) = 40000) = False from by decide])
              first
                | (with_reducible show At 189 _ 4 _ _ _ _)
                | (refine go 60 (by decide) ?_; simp only [KX, KY, KZ, KW, KV, Nat.reduceAdd, Nat.reduceSub, Nat.reduceLeDiff, true_and, and_true, true_or, or_true, or_self, reduceCtorEq, if_true, if_false, not_false_eq_true, eq_self, c189, (hs _).e80, h93, h95, (hs _).e98, ai_at, nz0, nz1, show ((40002 : Int32) = 40000) = False from by decide, show ((40002 : Int32) = 40001) = False from by decide, show ((40000 : Int32) = 40002) = False from by decide, show ((40000 : Int32) = 40001) = False from by decide, show ((40001 : Int32) = 40002) = False from by decide, show ((40001 : Int32) = 40000) = False from by decide])
              first
                | (with_reducible show At 189 _ 4 _ _ _ _)
                | (refine go 60 (by decide) ?_; simp only [KX, KY, KZ, KW, KV, Nat.reduceAdd, Nat.reduceSub, Nat.reduceLeDiff, true_and, and_true, true_or, or_true, or_self, reduceCtorEq, if_true, if_false, not_false_eq_true, eq_self, c189, (hs _).e80, h93, h95, (hs _).e98, ai_at, nz0, nz1, show ((40002 : Int32) = 40000) = False from by decide, show ((40002 : Int32) = 40001) = False from by decide, show ((40000 : Int32) = 40002) = False from by decide, show ((40000 : Int32) = 40001) = False from by decide, show ((40001 : Int32) = 40002) = False from by decide, show ((40001 : Int32) = 40000) = False from by decide])
              rw [ma_set_set, nI_1 (b + j)]
              exact At_le ih2 ⟨rfl, rfl, rfl, rfl, rfl, trivial⟩
            · rw [if_pos (show bI false = 0 from rfl)]
              first
                | (with_reducible show At 189 _ 77 _ _ _ _)
                | (refine go 60 (by decide) ?_; simp only [KX, KY, KZ, KW, KV, Nat.reduceAdd, Nat.reduceSub, Nat.reduceLeDiff, true_and, and_true, true_or, or_true, or_self, reduceCtorEq, if_true, if_false, not_false_eq_true, eq_self, c189, (hs _).e80, h93, h95, (hs _).e98, ai_at, nz0, nz1, show ((40002 : Int32) = 40000) = False from by decide, show ((40002 : Int32) = 40001) = False from by decide, show ((40000 : Int32) = 40002) = False from by decide, show ((40000 : Int32) = 40001) = False from by decide, show ((40001 : Int32) = 40002) = False from by decide, show ((40001 : Int32) = 40000) = False from by decide])
              first
                | (with_reducible show At 189 _ 77 _ _ _ _)
                | (refine go 60 (by decide) ?_; simp only [KX, KY, KZ, KW, KV, Nat.reduceAdd, Nat.reduceSub, Nat.reduceLeDiff, true_and, and_true, true_or, or_true, or_self, reduceCtorEq, if_true, if_false, not_false_eq_true, eq_self, c189, (hs _).e80, h93, h95, (hs _).e98, ai_at, nz0, nz1, show ((40002 : Int32) = 40000) = False from by decide, show ((40002 : Int32) = 40001) = False from by decide, show ((40000 : Int32) = 40002) = False from by decide, show ((40000 : Int32) = 40001) = False from by decide, show ((40001 : Int32) = 40002) = False from by decide, show ((40001 : Int32) = 40000) = False from by decide])
              first
                | (with_reducible show At 189 _ 77 _ _ _ _)
                | (refine go 60 (by decide) ?_; simp only [KX, KY, KZ, KW, KV, Nat.reduceAdd, Nat.reduceSub, Nat.reduceLeDiff, true_and, and_true, true_or, or_true, or_self, reduceCtorEq, if_true, if_false, not_false_eq_true, eq_self, c189, (hs _).e80, h93, h95, (hs _).e98, ai_at, nz0, nz1, show ((40002 : Int32) = 40000) = False from by decide, show ((40002 : Int32) = 40001) = False from by decide, show ((40000 : Int32) = 40002) = False from by decide, show ((40000 : Int32) = 40001) = False from by decide, show ((40001 : Int32) = 40002) = False from by decide, show ((40001 : Int32) = 40000) = False from by decide])
              refine go 60 (by decide) ?_
              simp only [KX, KY, KZ, KW, KV, Nat.reduceAdd, Nat.reduceSub, Nat.reduceLeDiff, true_and, and_true, true_or, or_true, or_self, reduceCtorEq, if_true, if_false, not_false_eq_true, eq_self, c189, (hs _).e80, h93, h95, (hs _).e98, ai_at, nz0, nz1, show ((40002 : Int32) = 40000) = False from by decide, show ((40002 : Int32) = 40001) = False from by decide, show ((40000 : Int32) = 40002) = False from by decide, show ((40000 : Int32) = 40001) = False from by decide, show ((40001 : Int32) = 40002) = False from by decide, show ((40001 : Int32) = 40000) = False from by decide]
              first
                | rw [nI_clamp (show q.length < 2 ^ 31 by omega)]
                | skip
              refine ⟨nI_in (show q.length < 100 by omega) (by decide), ?_⟩
              first
                | (with_reducible show At 189 _ 4 _ _ _ _)
                | (refine go 60 (by decide) ?_; simp only [KX, KY, KZ, KW, KV, Nat.reduceAdd, Nat.reduceSub, Nat.reduceLeDiff, true_and, and_true, true_or, or_true, or_self, reduceCtorEq, if_true, if_false, not_false_eq_true, eq_self, c189, (hs _).e80, h93, h95, (hs _).e98, ai_at, nz0, nz1, show ((40002 : Int32) = 40000) = False from by decide, show ((40002 : Int32) = 40001) = False from by decide, show ((40000 : Int32) = 40002) = False from by decide, show ((40000 : Int32) = 40001) = False from by decide, show ((40001 : Int32) = 40002) = False from by decide, show ((40001 : Int32) = 40000) = False from by decide])
              first
                | (with_reducible show At 189 _ 4 _ _ _ _)
                | (refine go 60 (by decide) ?_; simp only [KX, KY, KZ, KW, KV, Nat.reduceAdd, Nat.reduceSub, Nat.reduceLeDiff, true_and, and_true, true_or, or_true, or_self, reduceCtorEq, if_true, if_false, not_false_eq_true, eq_self, c189, (hs _).e80, h93, h95, (hs _).e98, ai_at, nz0, nz1, show ((40002 : Int32) = 40000) = False from by decide, show ((40002 : Int32) = 40001) = False from by decide, show ((40000 : Int32) = 40002) = False from by decide, show ((40000 : Int32) = 40001) = False from by decide, show ((40001 : Int32) = 40002) = False from by decide, show ((40001 : Int32) = 40000) = False from by decide])
              first
                | (with_reducible show At 189 _ 4 _ _ _ _)
                | (refine go 60 (by decide) ?_; simp only [KX, KY, KZ, KW, KV, Nat.reduceAdd, Nat.reduceSub, Nat.reduceLeDiff, true_and, and_true, true_or, or_true, or_self, reduceCtorEq, if_true, if_false, not_false_eq_true, eq_self, c189, (hs _).e80, h93, h95, (hs _).e98, ai_at, nz0, nz1, show ((40002 : Int32) = 40000) = False from by decide, show ((40002 : Int32) = 40001) = False from by decide, show ((40000 : Int32) = 40002) = False from by decide, show ((40000 : Int32) = 40001) = False from by decide, show ((40001 : Int32) = 40002) = False from by decide, show ((40001 : Int32) = 40000) = False from by decide])
              rw [ma_set_set, nI_1 (b + j)]
              exact At_le ih2 ⟨rfl, rfl, rfl, rfl, rfl, trivial⟩
            · rw [if_neg (show ¬ bI true = 0 by decide)]
              rw [nI_clamp (show q.length + 1 < 2 ^ 31 by omega)]
              refine ⟨nI_in (show q.length + 1 < 100 by omega) (by decide), ?_⟩
              rw [px]
              rw [if_pos (show bI false = 0 from rfl)]
              first
                | (with_reducible show At 189 _ 77 _ _ _ _)
                | (refine go 60 (by decide) ?_; simp only [KX, KY, KZ, KW, KV, Nat.reduceAdd, Nat.reduceSub, Nat.reduceLeDiff, true_and, and_true, true_or, or_true, or_self, reduceCtorEq, if_true, if_false, not_false_eq_true, eq_self, c189, (hs _).e80, h93, h95, (hs _).e98, ai_at, nz0, nz1, show ((40002 : Int32) = 40000) = False from by decide, show ((40002 : Int32) = 40001) = False from by decide, show ((40000 : Int32) = 40002) = False from by decide, show ((40000 : Int32) = 40001) = False from by decide, show ((40001 : Int32) = 40002) = False from by decide, show ((40001 : Int32) = 40000) = False from by decide])
              first
                | (with_reducible show At 189 _ 77 _ _ _ _)
                | (refine go 60 (by decide) ?_; simp only [KX, KY, KZ, KW, KV, Nat.reduceAdd, Nat.reduceSub, Nat.reduceLeDiff, true_and, and_true, true_or, or_true, or_self, reduceCtorEq, if_true, if_false, not_false_eq_true, eq_self, c189, (hs _).e80, h93, h95, (hs _).e98, ai_at, nz0, nz1, show ((40002 : Int32) = 40000) = False from by decide, show ((40002 : Int32) = 40001) = False from by decide, show ((40000 : Int32) = 40002) = False from by decide, show ((40000 : Int32) = 40001) = False from by decide, show ((40001 : Int32) = 40002) = False from by decide, show ((40001 : Int32) = 40000) = False from by decide])
              first
                | (with_reducible show At 189 _ 77 _ _ _ _)
                | (refine go 60 (by decide) ?_; simp only [KX, KY, KZ, KW, KV, Nat.reduceAdd, Nat.reduceSub, Nat.reduceLeDiff, true_and, and_true, true_or, or_true, or_self, reduceCtorEq, if_true, if_false, not_false_eq_true, eq_self, c189, (hs _).e80, h93, h95, (hs _).e98, ai_at, nz0, nz1, show ((40002 : Int32) = 40000) = False from by decide, show ((40002 : Int32) = 40001) = False from by decide, show ((40000 : Int32) = 40002) = False from by decide, show ((40000 : Int32) = 40001) = False from by decide, show ((40001 : Int32) = 40002) = False from by decide, show ((40001 : Int32) = 40000) = False from by decide])
              refine go 60 (by decide) ?_
              simp only [KX, KY, KZ, KW, KV, Nat.reduceAdd, Nat.reduceSub, Nat.reduceLeDiff, true_and, and_true, true_or, or_true, or_self, reduceCtorEq, if_true, if_false, not_false_eq_true, eq_self, c189, (hs _).e80, h93, h95, (hs _).e98, ai_at, nz0, nz1, show ((40002 : Int32) = 40000) = False from by decide, show ((40002 : Int32) = 40001) = False from by decide, show ((40000 : Int32) = 40002) = False from by decide, show ((40000 : Int32) = 40001) = False from by decide, show ((40001 : Int32) = 40002) = False from by decide, show ((40001 : Int32) = 40000) = False from by decide]
              first
                | rw [nI_clamp (show q.length < 2 ^ 31 by omega)]
                | skip
              refine ⟨nI_in (show q.length < 100 by omega) (by decide), ?_⟩
              first
                | (with_reducible show At 189 _ 4 _ _ _ _)
                | (refine go 60 (by decide) ?_; simp only [KX, KY, KZ, KW, KV, Nat.reduceAdd, Nat.reduceSub, Nat.reduceLeDiff, true_and, and_true, true_or, or_true, or_self, reduceCtorEq, if_true, if_false, not_false_eq_true, eq_self, c189, (hs _).e80, h93, h95, (hs _).e98, ai_at, nz0, nz1, show ((40002 : Int32) = 40000) = False from by decide, show ((40002 : Int32) = 40001) = False from by decide, show ((40000 : Int32) = 40002) = False from by decide, show ((40000 : Int32) = 40001) = False from by decide, show ((40001 : Int32) = 40002) = False from by decide, show ((40001 : Int32) = 40000) = False from by decide])
              first
                | (with_reducible show At 189 _ 4 _ _ _ _)
                | (refine go 60 (by decide) ?_; simp only [KX, KY, KZ, KW, KV, Nat.reduceAdd, Nat.reduceSub, Nat.reduceLeDiff, true_and, and_true, true_or, or_true, or_self, reduceCtorEq, if_true, if_false, not_false_eq_true, eq_self, c189, (hs _).e80, h93, h95, (hs _).e98, ai_at, nz0, nz1, show ((40002 : Int32) = 40000) = False from by decide, show ((40002 : Int32) = 40001) = False from by decide, show ((40000 : Int32) = 40002) = False from by decide, show ((40000 : Int32) = 40001) = False from by decide, show ((40001 : Int32) = 40002) = False from by decide, show ((40001 : Int32) = 40000) = False from by decide])
              first
                | (with_reducible show At 189 _ 4 _ _ _ _)
                | (refine go 60 (by decide) ?_; simp only [KX, KY, KZ, KW, KV, Nat.reduceAdd, Nat.reduceSub, Nat.reduceLeDiff, true_and, and_true, true_or, or_true, or_self, reduceCtorEq, if_true, if_false, not_false_eq_true, eq_self, c189, (hs _).e80, h93, h95, (hs _).e98, ai_at, nz0, nz1, show ((40002 : Int32) = 40000) = False from by decide, show ((40002 : Int32) = 40001) = False from by decide, show ((40000 : Int32) = 40002) = False from by decide, show ((40000 : Int32) = 40001) = False from by decide, show ((40001 : Int32) = 40002) = False from by decide, show ((40001 : Int32) = 40000) = False from by decide])
              rw [ma_set_set, nI_1 (b + j)]
              exact At_le ih2 ⟨rfl, rfl, rfl, rfl, rfl, trivial⟩
            · rw [if_neg (show ¬ bI true = 0 by decide)]
              rw [nI_clamp (show q.length + 1 < 2 ^ 31 by omega)]
              refine ⟨nI_in (show q.length + 1 < 100 by omega) (by decide), ?_⟩
              rw [px]
              rw [if_neg (show ¬ bI true = 0 by decide)]
              first
                | (with_reducible show At 189 _ 77 _ _ _ _)
                | (refine go 60 (by decide) ?_; simp only [KX, KY, KZ, KW, KV, Nat.reduceAdd, Nat.reduceSub, Nat.reduceLeDiff, true_and, and_true, true_or, or_true, or_self, reduceCtorEq, if_true, if_false, not_false_eq_true, eq_self, c189, (hs _).e80, h93, h95, (hs _).e98, ai_at, nz0, nz1, show ((40002 : Int32) = 40000) = False from by decide, show ((40002 : Int32) = 40001) = False from by decide, show ((40000 : Int32) = 40002) = False from by decide, show ((40000 : Int32) = 40001) = False from by decide, show ((40001 : Int32) = 40002) = False from by decide, show ((40001 : Int32) = 40000) = False from by decide])
              first
                | (with_reducible show At 189 _ 77 _ _ _ _)
                | (refine go 60 (by decide) ?_; simp only [KX, KY, KZ, KW, KV, Nat.reduceAdd, Nat.reduceSub, Nat.reduceLeDiff, true_and, and_true, true_or, or_true, or_self, reduceCtorEq, if_true, if_false, not_false_eq_true, eq_self, c189, (hs _).e80, h93, h95, (hs _).e98, ai_at, nz0, nz1, show ((40002 : Int32) = 40000) = False from by decide, show ((40002 : Int32) = 40001) = False from by decide, show ((40000 : Int32) = 40002) = False from by decide, show ((40000 : Int32) = 40001) = False from by decide, show ((40001 : Int32) = 40002) = False from by decide, show ((40001 : Int32) = 40000) = False from by decide])
              first
                | (with_reducible show At 189 _ 77 _ _ _ _)
                | (refine go 60 (by decide) ?_; simp only [KX, KY, KZ, KW, KV, Nat.reduceAdd, Nat.reduceSub, Nat.reduceLeDiff, true_and, and_true, true_or, or_true, or_self, reduceCtorEq, if_true, if_false, not_false_eq_true, eq_self, c189, (hs _).e80, h93, h95, (hs _).e98, ai_at, nz0, nz1, show ((40002 : Int32) = 40000) = False from by decide, show ((40002 : Int32) = 40001) = False from by decide, show ((40000 : Int32) = 40002) = False from by decide, show ((40000 : Int32) = 40001) = False from by decide, show ((40001 : Int32) = 40002) = False from by decide, show ((40001 : Int32) = 40000) = False from by decide])
              refine go 60 (by decide) ?_
              simp only [KX, KY, KZ, KW, KV, Nat.reduceAdd, Nat.reduceSub, Nat.reduceLeDiff, true_and, and_true, true_or, or_true, or_self, reduceCtorEq, if_true, if_false, not_false_eq_true, eq_self, c189, (hs _).e80, h93, h95, (hs _).e98, ai_at, nz0, nz1, show ((40002 : Int32) = 40000) = False from by decide, show ((40002 : Int32) = 40001) = False from by decide, show ((40000 : Int32) = 40002) = False from by decide, show ((40000 : Int32) = 40001) = False from by decide, show ((40001 : Int32) = 40002) = False from by decide, show ((40001 : Int32) = 40000) = False from by decide]
              first
                | rw [nI_clamp (show q.length < 2 ^ 31 by omega)]
                | skip
              refine ⟨nI_in (show q.length < 100 by omega) (by decide), ?_⟩
              first
                | (with_reducible show At 189 _ 4 _ _ _ _)
                | (refine go 60 (by decide) ?_; simp only [KX, KY, KZ, KW, KV, Nat.reduceAdd, Nat.reduceSub, Nat.reduceLeDiff, true_and, and_true, true_or, or_true, or_self, reduceCtorEq, if_true, if_false, not_false_eq_true, eq_self, c189, (hs _).e80, h93, h95, (hs _).e98, ai_at, nz0, nz1, show ((40002 : Int32) = 40000) = False from by decide, show ((40002 : Int32) = 40001) = False from by decide, show ((40000 : Int32) = 40002) = False from by decide, show ((40000 : Int32) = 40001) = False from by decide, show ((40001 : Int32) = 40002) = False from by decide, show ((40001 : Int32) = 40000) = False from by decide])
              first
                | (with_reducible show At 189 _ 4 _ _ _ _)
                | (refine go 60 (by decide) ?_; simp only [KX, KY, KZ, KW, KV, Nat.reduceAdd, Nat.reduceSub, Nat.reduceLeDiff, true_and, and_true, true_or, or_true, or_self, reduceCtorEq, if_true, if_false, not_false_eq_true, eq_self, c189, (hs _).e80, h93, h95, (hs _).e98, ai_at, nz0, nz1, show ((40002 : Int32) = 40000) = False from by decide, show ((40002 : Int32) = 40001) = False from by decide, show ((40000 : Int32) = 40002) = False from by decide, show ((40000 : Int32) = 40001) = False from by decide, show ((40001 : Int32) = 40002) = False from by decide, show ((40001 : Int32) = 40000) = False from by decide])
              first
                | (with_reducible show At 189 _ 4 _ _ _ _)
                | (refine go 60 (by decide) ?_; simp only [KX, KY, KZ, KW, KV, Nat.reduceAdd, Nat.reduceSub, Nat.reduceLeDiff, true_and, and_true, true_or, or_true, or_self, reduceCtorEq, if_true, if_false, not_false_eq_true, eq_self, c189, (hs _).e80, h93, h95, (hs _).e98, ai_at, nz0, nz1, show ((40002 : Int32) = 40000) = False from by decide, show ((40002 : Int32) = 40001) = False from by decide, show ((40000 : Int32) = 40002) = False from by decide, show ((40000 : Int32) = 40001) = False from by decide, show ((40001 : Int32) = 40002) = False from by decide, show ((40001 : Int32) = 40000) = False from by decide])
              rw [ma_set_set, nI_1 (b + j)]
              exact At_le ih2 ⟨rfl, rfl, rfl, rfl, rfl, trivial⟩
      · have w0 : ai h 93 (b + j) = 40001 := w1 0 _ rfl
        have w3 : j + ((tms r).length + 1) = (tms M).length := w3
        have wr : ∀ k v, (tms r)[k]? = some v → ai h 93 (b + (j + 1) + k) = v := fun k v e => by
          rw [show b + (j + 1) + k = b + j + (k + 1) by omega]
          exact w1 (k + 1) v e
        cases s0 with
        | nil => exact absurd (show (none : Option (List Bool)) = some st from w5) (by intro z; cases z)
        | cons x q0 =>
          cases q0 with
          | nil => exact absurd (show (none : Option (List Bool)) = some st from w5) (by intro z; cases z)
          | cons y q =>
            refine go 60 (by decide) ?_
            simp only [KX, KY, KZ, KW, KV, Nat.reduceAdd, Nat.reduceSub, Nat.reduceLeDiff, true_and, and_true, true_or, or_true, or_self, reduceCtorEq, if_true, if_false, not_false_eq_true, eq_self, c189, (hs _).e80, h93, h95, (hs _).e98, ai_at, nz0, nz1, show ((40002 : Int32) = 40000) = False from by decide, show ((40002 : Int32) = 40001) = False from by decide, show ((40000 : Int32) = 40002) = False from by decide, show ((40000 : Int32) = 40001) = False from by decide, show ((40001 : Int32) = 40002) = False from by decide, show ((40001 : Int32) = 40000) = False from by decide]
            rw [if_pos (nI_lt (show b + j < b + (tms M).length by omega) (by omega)), nI_clamp (show b + j < 2 ^ 31 by omega)]
            refine ⟨nI_in (show b + j < 200 by omega) (by decide), ?_⟩
            rw [w0]
            simp only [KX, KY, KZ, KW, KV, Nat.reduceAdd, Nat.reduceSub, Nat.reduceLeDiff, true_and, and_true, true_or, or_true, or_self, reduceCtorEq, if_true, if_false, not_false_eq_true, eq_self, c189, show ((40002 : Int32) = 40000) = False from by decide, show ((40002 : Int32) = 40001) = False from by decide, show ((40000 : Int32) = 40002) = False from by decide, show ((40000 : Int32) = 40001) = False from by decide, show ((40001 : Int32) = 40002) = False from by decide, show ((40001 : Int32) = 40000) = False from by decide]
            have q90 : q.length + 2 ≤ 90 := by simp only [List.length_cons] at w4; omega
            rw [show (x :: y :: q).length = q.length + 2 from rfl, show nI (q.length + 2) + -1 = nI (q.length + 1) from nI_dn (q.length + 1), show nI (q.length + 1) - 1 = nI q.length from nI_pred q.length, nI_clamp (show q.length < 2 ^ 31 by omega)]
            have px : g (q.length + 1) = bI x := w6.1
            have py : g q.length = bI y := w6.2.1
            refine ⟨nI_in (show q.length < 100 by omega) (by decide), ?_⟩
            rw [py]
            have ih2 := ih (j + 1) ((y || x) :: q) (upd g q.length (bI (y || x))) wr wo (by omega) (by simp only [List.length_cons]; omega) w5 ⟨if_pos rfl, PL_up q (Nat.le_refl _) w6.2.2⟩
            cases y <;> cases x
            · rw [if_pos (show bI false = 0 from rfl)]
              rw [nI_clamp (show q.length + 1 < 2 ^ 31 by omega)]
              refine ⟨nI_in (show q.length + 1 < 100 by omega) (by decide), ?_⟩
              rw [px]
              rw [if_pos (show bI false = 0 from rfl)]
              first
                | (with_reducible show At 189 _ 77 _ _ _ _)
                | (refine go 60 (by decide) ?_; simp only [KX, KY, KZ, KW, KV, Nat.reduceAdd, Nat.reduceSub, Nat.reduceLeDiff, true_and, and_true, true_or, or_true, or_self, reduceCtorEq, if_true, if_false, not_false_eq_true, eq_self, c189, (hs _).e80, h93, h95, (hs _).e98, ai_at, nz0, nz1, show ((40002 : Int32) = 40000) = False from by decide, show ((40002 : Int32) = 40001) = False from by decide, show ((40000 : Int32) = 40002) = False from by decide, show ((40000 : Int32) = 40001) = False from by decide, show ((40001 : Int32) = 40002) = False from by decide, show ((40001 : Int32) = 40000) = False from by decide])
              first
                | (with_reducible show At 189 _ 77 _ _ _ _)
                | (refine go 60 (by decide) ?_; simp only [KX, KY, KZ, KW, KV, Nat.reduceAdd, Nat.reduceSub, Nat.reduceLeDiff, true_and, and_true, true_or, or_true, or_self, reduceCtorEq, if_true, if_false, not_false_eq_true, eq_self, c189, (hs _).e80, h93, h95, (hs _).e98, ai_at, nz0, nz1, show ((40002 : Int32) = 40000) = False from by decide, show ((40002 : Int32) = 40001) = False from by decide, show ((40000 : Int32) = 40002) = False from by decide, show ((40000 : Int32) = 40001) = False from by decide, show ((40001 : Int32) = 40002) = False from by decide, show ((40001 : Int32) = 40000) = False from by decide])
              first
                | (with_reducible show At 189 _ 77 _ _ _ _)
                | (refine go 60 (by decide) ?_; simp only [KX, KY, KZ, KW, KV, Nat.reduceAdd, Nat.reduceSub, Nat.reduceLeDiff, true_and, and_true, true_or, or_true, or_self, reduceCtorEq, if_true, if_false, not_false_eq_true, eq_self, c189, (hs _).e80, h93, h95, (hs _).e98, ai_at, nz0, nz1, show ((40002 : Int32) = 40000) = False from by decide, show ((40002 : Int32) = 40001) = False from by decide, show ((40000 : Int32) = 40002) = False from by decide, show ((40000 : Int32) = 40001) = False from by decide, show ((40001 : Int32) = 40002) = False from by decide, show ((40001 : Int32) = 40000) = False from by decide])
              refine go 60 (by decide) ?_
              simp only [KX, KY, KZ, KW, KV, Nat.reduceAdd, Nat.reduceSub, Nat.reduceLeDiff, true_and, and_true, true_or, or_true, or_self, reduceCtorEq, if_true, if_false, not_false_eq_true, eq_self, c189, (hs _).e80, h93, h95, (hs _).e98, ai_at, nz0, nz1, show ((40002 : Int32) = 40000) = False from by decide, show ((40002 : Int32) = 40001) = False from by decide, show ((40000 : Int32) = 40002) = False from by decide, show ((40000 : Int32) = 40001) = False from by decide, show ((40001 : Int32) = 40002) = False from by decide, show ((40001 : Int32) = 40000) = False from by decide]
              first
                | rw [nI_clamp (show q.length < 2 ^ 31 by omega)]
                | skip
              refine ⟨nI_in (show q.length < 100 by omega) (by decide), ?_⟩
              first
                | (with_reducible show At 189 _ 4 _ _ _ _)
                | (refine go 60 (by decide) ?_; simp only [KX, KY, KZ, KW, KV, Nat.reduceAdd, Nat.reduceSub, Nat.reduceLeDiff, true_and, and_true, true_or, or_true, or_self, reduceCtorEq, if_true, if_false, not_false_eq_true, eq_self, c189, (hs _).e80, h93, h95, (hs _).e98, ai_at, nz0, nz1, show ((40002 : Int32) = 40000) = False from by decide, show ((40002 : Int32) = 40001) = False from by decide, show ((40000 : Int32) = 40002) = False from by decide, show ((40000 : Int32) = 40001) = False from by decide, show ((40001 : Int32) = 40002) = False from by decide, show ((40001 : Int32) = 40000) = False from by decide])
              first
                | (with_reducible show At 189 _ 4 _ _ _ _)
                | (refine go 60 (by decide) ?_; simp only [KX, KY, KZ, KW, KV, Nat.reduceAdd, Nat.reduceSub, Nat.reduceLeDiff, true_and, and_true, true_or, or_true, or_self, reduceCtorEq, if_true, if_false, not_false_eq_true, eq_self, c189, (hs _).e80, h93, h95, (hs _).e98, ai_at, nz0, nz1, show ((40002 : Int32) = 40000) = False from by decide, show ((40002 : Int32) = 40001) = False from by decide, show ((40000 : Int32) = 40002) = False from by decide, show ((40000 : Int32) = 40001) = False from by decide, show ((40001 : Int32) = 40002) = False from by decide, show ((40001 : Int32) = 40000) = False from by decide])
              first
                | (with_reducible show At 189 _ 4 _ _ _ _)
                | (refine go 60 (by decide) ?_; simp only [KX, KY, KZ, KW, KV, Nat.reduceAdd, Nat.reduceSub, Nat.reduceLeDiff, true_and, and_true, true_or, or_true, or_self, reduceCtorEq, if_true, if_false, not_false_eq_true, eq_self, c189, (hs _).e80, h93, h95, (hs _).e98, ai_at, nz0, nz1, show ((40002 : Int32) = 40000) = False from by decide, show ((40002 : Int32) = 40001) = False from by decide, show ((40000 : Int32) = 40002) = False from by decide, show ((40000 : Int32) = 40001) = False from by decide, show ((40001 : Int32) = 40002) = False from by decide, show ((40001 : Int32) = 40000) = False from by decide])
              rw [ma_set_set, nI_1 (b + j)]
              exact At_le ih2 ⟨rfl, rfl, rfl, rfl, rfl, trivial⟩
            · rw [if_pos (show bI false = 0 from rfl)]
              rw [nI_clamp (show q.length + 1 < 2 ^ 31 by omega)]
              refine ⟨nI_in (show q.length + 1 < 100 by omega) (by decide), ?_⟩
              rw [px]
              rw [if_neg (show ¬ bI true = 0 by decide)]
              first
                | (with_reducible show At 189 _ 77 _ _ _ _)
                | (refine go 60 (by decide) ?_; simp only [KX, KY, KZ, KW, KV, Nat.reduceAdd, Nat.reduceSub, Nat.reduceLeDiff, true_and, and_true, true_or, or_true, or_self, reduceCtorEq, if_true, if_false, not_false_eq_true, eq_self, c189, (hs _).e80, h93, h95, (hs _).e98, ai_at, nz0, nz1, show ((40002 : Int32) = 40000) = False from by decide, show ((40002 : Int32) = 40001) = False from by decide, show ((40000 : Int32) = 40002) = False from by decide, show ((40000 : Int32) = 40001) = False from by decide, show ((40001 : Int32) = 40002) = False from by decide, show ((40001 : Int32) = 40000) = False from by decide])
              first
                | (with_reducible show At 189 _ 77 _ _ _ _)
                | (refine go 60 (by decide) ?_; simp only [KX, KY, KZ, KW, KV, Nat.reduceAdd, Nat.reduceSub, Nat.reduceLeDiff, true_and, and_true, true_or, or_true, or_self, reduceCtorEq, if_true, if_false, not_false_eq_true, eq_self, c189, (hs _).e80, h93, h95, (hs _).e98, ai_at, nz0, nz1, show ((40002 : Int32) = 40000) = False from by decide, show ((40002 : Int32) = 40001) = False from by decide, show ((40000 : Int32) = 40002) = False from by decide, show ((40000 : Int32) = 40001) = False from by decide, show ((40001 : Int32) = 40002) = False from by decide, show ((40001 : Int32) = 40000) = False from by decide])
              first
                | (with_reducible show At 189 _ 77 _ _ _ _)
                | (refine go 60 (by decide) ?_; simp only [KX, KY, KZ, KW, KV, Nat.reduceAdd, Nat.reduceSub, Nat.reduceLeDiff, true_and, and_true, true_or, or_true, or_self, reduceCtorEq, if_true, if_false, not_false_eq_true, eq_self, c189, (hs _).e80, h93, h95, (hs _).e98, ai_at, nz0, nz1, show ((40002 : Int32) = 40000) = False from by decide, show ((40002 : Int32) = 40001) = False from by decide, show ((40000 : Int32) = 40002) = False from by decide, show ((40000 : Int32) = 40001) = False from by decide, show ((40001 : Int32) = 40002) = False from by decide, show ((40001 : Int32) = 40000) = False from by decide])
              refine go 60 (by decide) ?_
              simp only [KX, KY, KZ, KW, KV, Nat.reduceAdd, Nat.reduceSub, Nat.reduceLeDiff, true_and, and_true, true_or, or_true, or_self, reduceCtorEq, if_true, if_false, not_false_eq_true, eq_self, c189, (hs _).e80, h93, h95, (hs _).e98, ai_at, nz0, nz1, show ((40002 : Int32) = 40000) = False from by decide, show ((40002 : Int32) = 40001) = False from by decide, show ((40000 : Int32) = 40002) = False from by decide, show ((40000 : Int32) = 40001) = False from by decide, show ((40001 : Int32) = 40002) = False from by decide, show ((40001 : Int32) = 40000) = False from by decide]
              first
                | rw [nI_clamp (show q.length < 2 ^ 31 by omega)]
                | skip
              refine ⟨nI_in (show q.length < 100 by omega) (by decide), ?_⟩
              first
                | (with_reducible show At 189 _ 4 _ _ _ _)
                | (refine go 60 (by decide) ?_; simp only [KX, KY, KZ, KW, KV, Nat.reduceAdd, Nat.reduceSub, Nat.reduceLeDiff, true_and, and_true, true_or, or_true, or_self, reduceCtorEq, if_true, if_false, not_false_eq_true, eq_self, c189, (hs _).e80, h93, h95, (hs _).e98, ai_at, nz0, nz1, show ((40002 : Int32) = 40000) = False from by decide, show ((40002 : Int32) = 40001) = False from by decide, show ((40000 : Int32) = 40002) = False from by decide, show ((40000 : Int32) = 40001) = False from by decide, show ((40001 : Int32) = 40002) = False from by decide, show ((40001 : Int32) = 40000) = False from by decide])
              first
                | (with_reducible show At 189 _ 4 _ _ _ _)
                | (refine go 60 (by decide) ?_; simp only [KX, KY, KZ, KW, KV, Nat.reduceAdd, Nat.reduceSub, Nat.reduceLeDiff, true_and, and_true, true_or, or_true, or_self, reduceCtorEq, if_true, if_false, not_false_eq_true, eq_self, c189, (hs _).e80, h93, h95, (hs _).e98, ai_at, nz0, nz1, show ((40002 : Int32) = 40000) = False from by decide, show ((40002 : Int32) = 40001) = False from by decide, show ((40000 : Int32) = 40002) = False from by decide, show ((40000 : Int32) = 40001) = False from by decide, show ((40001 : Int32) = 40002) = False from by decide, show ((40001 : Int32) = 40000) = False from by decide])
              first
                | (with_reducible show At 189 _ 4 _ _ _ _)
                | (refine go 60 (by decide) ?_; simp only [KX, KY, KZ, KW, KV, Nat.reduceAdd, Nat.reduceSub, Nat.reduceLeDiff, true_and, and_true, true_or, or_true, or_self, reduceCtorEq, if_true, if_false, not_false_eq_true, eq_self, c189, (hs _).e80, h93, h95, (hs _).e98, ai_at, nz0, nz1, show ((40002 : Int32) = 40000) = False from by decide, show ((40002 : Int32) = 40001) = False from by decide, show ((40000 : Int32) = 40002) = False from by decide, show ((40000 : Int32) = 40001) = False from by decide, show ((40001 : Int32) = 40002) = False from by decide, show ((40001 : Int32) = 40000) = False from by decide])
              rw [ma_set_set, nI_1 (b + j)]
              exact At_le ih2 ⟨rfl, rfl, rfl, rfl, rfl, trivial⟩
            · rw [if_neg (show ¬ bI true = 0 by decide)]
              first
                | (with_reducible show At 189 _ 77 _ _ _ _)
                | (refine go 60 (by decide) ?_; simp only [KX, KY, KZ, KW, KV, Nat.reduceAdd, Nat.reduceSub, Nat.reduceLeDiff, true_and, and_true, true_or, or_true, or_self, reduceCtorEq, if_true, if_false, not_false_eq_true, eq_self, c189, (hs _).e80, h93, h95, (hs _).e98, ai_at, nz0, nz1, show ((40002 : Int32) = 40000) = False from by decide, show ((40002 : Int32) = 40001) = False from by decide, show ((40000 : Int32) = 40002) = False from by decide, show ((40000 : Int32) = 40001) = False from by decide, show ((40001 : Int32) = 40002) = False from by decide, show ((40001 : Int32) = 40000) = False from by decide])
              first
                | (with_reducible show At 189 _ 77 _ _ _ _)
                | (refine go 60 (by decide) ?_; simp only [KX, KY, KZ, KW, KV, Nat.reduceAdd, Nat.reduceSub, Nat.reduceLeDiff, true_and, and_true, true_or, or_true, or_self, reduceCtorEq, if_true, if_false, not_false_eq_true, eq_self, c189, (hs _).e80, h93, h95, (hs _).e98, ai_at, nz0, nz1, show ((40002 : Int32) = 40000) = False from by decide, show ((40002 : Int32) = 40001) = False from by decide, show ((40000 : Int32) = 40002) = False from by decide, show ((40000 : Int32) = 40001) = False from by decide, show ((40001 : Int32) = 40002) = False from by decide, show ((40001 : Int32) = 40000) = False from by decide])
              first
                | (with_reducible show At 189 _ 77 _ _ _ _)
                | (refine go 60 (by decide) ?_; simp only [KX, KY, KZ, KW, KV, Nat.reduceAdd, Nat.reduceSub, Nat.reduceLeDiff, true_and, and_true, true_or, or_true, or_self, reduceCtorEq, if_true, if_false, not_false_eq_true, eq_self, c189, (hs _).e80, h93, h95, (hs _).e98, ai_at, nz0, nz1, show ((40002 : Int32) = 40000) = False from by decide, show ((40002 : Int32) = 40001) = False from by decide, show ((40000 : Int32) = 40002) = False from by decide, show ((40000 : Int32) = 40001) = False from by decide, show ((40001 : Int32) = 40002) = False from by decide, show ((40001 : Int32) = 40000) = False from by decide])
              refine go 60 (by decide) ?_
              simp only [KX, KY, KZ, KW, KV, Nat.reduceAdd, Nat.reduceSub, Nat.reduceLeDiff, true_and, and_true, true_or, or_true, or_self, reduceCtorEq, if_true, if_false, not_false_eq_true, eq_self, c189, (hs _).e80, h93, h95, (hs _).e98, ai_at, nz0, nz1, show ((40002 : Int32) = 40000) = False from by decide, show ((40002 : Int32) = 40001) = False from by decide, show ((40000 : Int32) = 40002) = False from by decide, show ((40000 : Int32) = 40001) = False from by decide, show ((40001 : Int32) = 40002) = False from by decide, show ((40001 : Int32) = 40000) = False from by decide]
              first
                | rw [nI_clamp (show q.length < 2 ^ 31 by omega)]
                | skip
              refine ⟨nI_in (show q.length < 100 by omega) (by decide), ?_⟩
              first
                | (with_reducible show At 189 _ 4 _ _ _ _)
                | (refine go 60 (by decide) ?_; simp only [KX, KY, KZ, KW, KV, Nat.reduceAdd, Nat.reduceSub, Nat.reduceLeDiff, true_and, and_true, true_or, or_true, or_self, reduceCtorEq, if_true, if_false, not_false_eq_true, eq_self, c189, (hs _).e80, h93, h95, (hs _).e98, ai_at, nz0, nz1, show ((40002 : Int32) = 40000) = False from by decide, show ((40002 : Int32) = 40001) = False from by decide, show ((40000 : Int32) = 40002) = False from by decide, show ((40000 : Int32) = 40001) = False from by decide, show ((40001 : Int32) = 40002) = False from by decide, show ((40001 : Int32) = 40000) = False from by decide])
              first
                | (with_reducible show At 189 _ 4 _ _ _ _)
                | (refine go 60 (by decide) ?_; simp only [KX, KY, KZ, KW, KV, Nat.reduceAdd, Nat.reduceSub, Nat.reduceLeDiff, true_and, and_true, true_or, or_true, or_self, reduceCtorEq, if_true, if_false, not_false_eq_true, eq_self, c189, (hs _).e80, h93, h95, (hs _).e98, ai_at, nz0, nz1, show ((40002 : Int32) = 40000) = False from by decide, show ((40002 : Int32) = 40001) = False from by decide, show ((40000 : Int32) = 40002) = False from by decide, show ((40000 : Int32) = 40001) = False from by decide, show ((40001 : Int32) = 40002) = False from by decide, show ((40001 : Int32) = 40000) = False from by decide])
              first
                | (with_reducible show At 189 _ 4 _ _ _ _)
                | (refine go 60 (by decide) ?_; simp only [KX, KY, KZ, KW, KV, Nat.reduceAdd, Nat.reduceSub, Nat.reduceLeDiff, true_and, and_true, true_or, or_true, or_self, reduceCtorEq, if_true, if_false, not_false_eq_true, eq_self, c189, (hs _).e80, h93, h95, (hs _).e98, ai_at, nz0, nz1, show ((40002 : Int32) = 40000) = False from by decide, show ((40002 : Int32) = 40001) = False from by decide, show ((40000 : Int32) = 40002) = False from by decide, show ((40000 : Int32) = 40001) = False from by decide, show ((40001 : Int32) = 40002) = False from by decide, show ((40001 : Int32) = 40000) = False from by decide])
              rw [ma_set_set, nI_1 (b + j)]
              exact At_le ih2 ⟨rfl, rfl, rfl, rfl, rfl, trivial⟩
            · rw [if_neg (show ¬ bI true = 0 by decide)]
              first
                | (with_reducible show At 189 _ 77 _ _ _ _)
                | (refine go 60 (by decide) ?_; simp only [KX, KY, KZ, KW, KV, Nat.reduceAdd, Nat.reduceSub, Nat.reduceLeDiff, true_and, and_true, true_or, or_true, or_self, reduceCtorEq, if_true, if_false, not_false_eq_true, eq_self, c189, (hs _).e80, h93, h95, (hs _).e98, ai_at, nz0, nz1, show ((40002 : Int32) = 40000) = False from by decide, show ((40002 : Int32) = 40001) = False from by decide, show ((40000 : Int32) = 40002) = False from by decide, show ((40000 : Int32) = 40001) = False from by decide, show ((40001 : Int32) = 40002) = False from by decide, show ((40001 : Int32) = 40000) = False from by decide])
              first
                | (with_reducible show At 189 _ 77 _ _ _ _)
                | (refine go 60 (by decide) ?_; simp only [KX, KY, KZ, KW, KV, Nat.reduceAdd, Nat.reduceSub, Nat.reduceLeDiff, true_and, and_true, true_or, or_true, or_self, reduceCtorEq, if_true, if_false, not_false_eq_true, eq_self, c189, (hs _).e80, h93, h95, (hs _).e98, ai_at, nz0, nz1, show ((40002 : Int32) = 40000) = False from by decide, show ((40002 : Int32) = 40001) = False from by decide, show ((40000 : Int32) = 40002) = False from by decide, show ((40000 : Int32) = 40001) = False from by decide, show ((40001 : Int32) = 40002) = False from by decide, show ((40001 : Int32) = 40000) = False from by decide])
              first
                | (with_reducible show At 189 _ 77 _ _ _ _)
                | (refine go 60 (by decide) ?_; simp only [KX, KY, KZ, KW, KV, Nat.reduceAdd, Nat.reduceSub, Nat.reduceLeDiff, true_and, and_true, true_or, or_true, or_self, reduceCtorEq, if_true, if_false, not_false_eq_true, eq_self, c189, (hs _).e80, h93, h95, (hs _).e98, ai_at, nz0, nz1, show ((40002 : Int32) = 40000) = False from by decide, show ((40002 : Int32) = 40001) = False from by decide, show ((40000 : Int32) = 40002) = False from by decide, show ((40000 : Int32) = 40001) = False from by decide, show ((40001 : Int32) = 40002) = False from by decide, show ((40001 : Int32) = 40000) = False from by decide])
              refine go 60 (by decide) ?_
              simp only [KX, KY, KZ, KW, KV, Nat.reduceAdd, Nat.reduceSub, Nat.reduceLeDiff, true_and, and_true, true_or, or_true, or_self, reduceCtorEq, if_true, if_false, not_false_eq_true, eq_self, c189, (hs _).e80, h93, h95, (hs _).e98, ai_at, nz0, nz1, show ((40002 : Int32) = 40000) = False from by decide, show ((40002 : Int32) = 40001) = False from by decide, show ((40000 : Int32) = 40002) = False from by decide, show ((40000 : Int32) = 40001) = False from by decide, show ((40001 : Int32) = 40002) = False from by decide, show ((40001 : Int32) = 40000) = False from by decide]
              first
                | rw [nI_clamp (show q.length < 2 ^ 31 by omega)]
                | skip
              refine ⟨nI_in (show q.length < 100 by omega) (by decide), ?_⟩
              first
                | (with_reducible show At 189 _ 4 _ _ _ _)
                | (refine go 60 (by decide) ?_; simp only [KX, KY, KZ, KW, KV, Nat.reduceAdd, Nat.reduceSub, Nat.reduceLeDiff, true_and, and_true, true_or, or_true, or_self, reduceCtorEq, if_true, if_false, not_false_eq_true, eq_self, c189, (hs _).e80, h93, h95, (hs _).e98, ai_at, nz0, nz1, show ((40002 : Int32) = 40000) = False from by decide, show ((40002 : Int32) = 40001) = False from by decide, show ((40000 : Int32) = 40002) = False from by decide, show ((40000 : Int32) = 40001) = False from by decide, show ((40001 : Int32) = 40002) = False from by decide, show ((40001 : Int32) = 40000) = False from by decide])
              first
                | (with_reducible show At 189 _ 4 _ _ _ _)
                | (refine go 60 (by decide) ?_; simp only [KX, KY, KZ, KW, KV, Nat.reduceAdd, Nat.reduceSub, Nat.reduceLeDiff, true_and, and_true, true_or, or_true, or_self, reduceCtorEq, if_true, if_false, not_false_eq_true, eq_self, c189, (hs _).e80, h93, h95, (hs _).e98, ai_at, nz0, nz1, show ((40002 : Int32) = 40000) = False from by decide, show ((40002 : Int32) = 40001) = False from by decide, show ((40000 : Int32) = 40002) = False from by decide, show ((40000 : Int32) = 40001) = False from by decide, show ((40001 : Int32) = 40002) = False from by decide, show ((40001 : Int32) = 40000) = False from by decide])
              first
                | (with_reducible show At 189 _ 4 _ _ _ _)
                | (refine go 60 (by decide) ?_; simp only [KX, KY, KZ, KW, KV, Nat.reduceAdd, Nat.reduceSub, Nat.reduceLeDiff, true_and, and_true, true_or, or_true, or_self, reduceCtorEq, if_true, if_false, not_false_eq_true, eq_self, c189, (hs _).e80, h93, h95, (hs _).e98, ai_at, nz0, nz1, show ((40002 : Int32) = 40000) = False from by decide, show ((40002 : Int32) = 40001) = False from by decide, show ((40000 : Int32) = 40002) = False from by decide, show ((40000 : Int32) = 40001) = False from by decide, show ((40001 : Int32) = 40002) = False from by decide, show ((40001 : Int32) = 40000) = False from by decide])
              rw [ma_set_set, nI_1 (b + j)]
              exact At_le ih2 ⟨rfl, rfl, rfl, rfl, rfl, trivial⟩
      · have w0 : ai h 93 (b + j) = tmv l := w1 0 _ (by rw [show tms ((o, l, r2) :: r) = tm (o, l, r2) ++ tms r from rfl, tm_cmp ho]; rfl)
        have w01 : ai h 93 (b + j + 1) = nI (60 + o) := w1 1 _ (by rw [show tms ((o, l, r2) :: r) = tm (o, l, r2) ++ tms r from rfl, tm_cmp ho]; rfl)
        have w02 : ai h 93 (b + j + 2) = tmv r2 := w1 2 _ (by rw [show tms ((o, l, r2) :: r) = tm (o, l, r2) ++ tms r from rfl, tm_cmp ho]; rfl)
        have w3 : j + (3 + (tms r).length) = (tms M).length := by rw [← w3, show tms ((o, l, r2) :: r) = tm (o, l, r2) ++ tms r from rfl, tm_cmp ho]; simp only [List.length_append, List.length_cons, List.length_nil]
        have wr : ∀ k v, (tms r)[k]? = some v → ai h 93 (b + (j + 3) + k) = v := fun k v e => by
          rw [show b + (j + 3) + k = b + j + (k + 3) by omega]
          refine w1 (k + 3) v ?_
          rw [show tms ((o, l, r2) :: r) = tm (o, l, r2) ++ tms r from rfl, tm_cmp ho]
          exact e
        rw [ev_cons, tk_cmp F 90 ho] at w5
        by_cases c : s0.length < 90
        · rw [if_pos c] at w5
          have ih2 := ih (j + 3) ((cb F o l r2) :: s0) (upd g s0.length (bI (cb F o l r2))) wr wo (by omega) (by simp only [List.length_cons]; omega) w5 ⟨if_pos rfl, PL_up s0 (Nat.le_refl _) w6⟩
          have tn := tmv_ne ok2
          have e2 : nI (b + j) + 2 = nI (b + j + 2) := nI_add (b + j) 2
          refine go 60 (by decide) ?_
          simp only [KX, KY, KZ, KW, KV, Nat.reduceAdd, Nat.reduceSub, Nat.reduceLeDiff, true_and, and_true, true_or, or_true, or_self, reduceCtorEq, if_true, if_false, not_false_eq_true, eq_self, c189, (hs _).e80, h93, h95, (hs _).e98, ai_at, nz0, nz1, show ((40002 : Int32) = 40000) = False from by decide, show ((40002 : Int32) = 40001) = False from by decide, show ((40000 : Int32) = 40002) = False from by decide, show ((40000 : Int32) = 40001) = False from by decide, show ((40001 : Int32) = 40002) = False from by decide, show ((40001 : Int32) = 40000) = False from by decide]
          rw [if_pos (nI_lt (show b + j < b + (tms M).length by omega) (by omega)), nI_clamp (show b + j < 2 ^ 31 by omega)]
          refine ⟨nI_in (show b + j < 200 by omega) (by decide), ?_⟩
          rw [w0, if_neg tn.1, if_neg tn.2.1, if_neg tn.2.2]
          have X : At 189 Q 90 (0, 0) [some (.ref 80), some (.ref 93), none, some (.int (nI (b + (tms M).length))), some (.int (nI s0.length)), some (.int (nI (b + j))), none, none, none] [.int (tv F l)] (ma_set h 98 (.inl (.boolean, 100, .inl g))) := by
            have Y : At 189 Q 114 (0, 0) [some (.ref 80), some (.ref 93), none, some (.int (nI (b + (tms M).length))), some (.int (nI s0.length)), some (.int (nI (b + j))), none, some (.int (tv F l)), none] [.int (tv F r2)] (ma_set h 98 (.inl (.boolean, 100, .inl g))) := by
              refine go 60 (by decide) ?_
              simp only [KX, KY, KZ, KW, KV, Nat.reduceAdd, Nat.reduceSub, Nat.reduceLeDiff, true_and, and_true, true_or, or_true, or_self, reduceCtorEq, if_true, if_false, not_false_eq_true, eq_self, c189, (hs _).e80, h93, h95, (hs _).e98, ai_at, nz0, nz1]
              rw [nI_1 (b + j), nI_clamp (show b + j + 1 < 2 ^ 31 by omega), w01]
              refine ⟨nI_in (show b + j + 1 < 200 by omega) (by decide), ?_⟩
              rcases (show o = 0 ∨ o = 1 ∨ o = 2 by omega) with rfl | rfl | rfl
              · have ih3 := ih2
                simp only [KX, KY, KZ, KW, KV, Nat.reduceAdd, Nat.reduceSub, Nat.reduceLeDiff, true_and, and_true, true_or, or_true, or_self, reduceCtorEq, if_true, if_false, not_false_eq_true, eq_self, show (nI (60 + 0) = 60) = True from by decide, show (nI (60 + 1) = 60) = False from by decide, show (nI (60 + 2) = 60) = False from by decide, show (nI (60 + 1) = 61) = True from by decide, show (nI (60 + 2) = 61) = False from by decide]
                try refine ⟨nI_in (show b + j + 1 < 200 by omega) (by decide), ?_⟩
                skip
                by_cases d : tv F l < tv F r2
                · rw [if_pos d]
                  rw [show cb F 0 l r2 = true from decide_eq_true d] at ih3
                  first
                    | (with_reducible show At 189 _ 152 _ _ _ _)
                    | (refine go 60 (by decide) ?_; simp only [KX, KY, KZ, KW, KV, Nat.reduceAdd, Nat.reduceSub, Nat.reduceLeDiff, true_and, and_true, true_or, or_true, or_self, reduceCtorEq, if_true, if_false, not_false_eq_true, eq_self, c189, (hs _).e80, h93, h95, (hs _).e98, ai_at, nz0, nz1])
                  first
                    | (with_reducible show At 189 _ 152 _ _ _ _)
                    | (refine go 60 (by decide) ?_; simp only [KX, KY, KZ, KW, KV, Nat.reduceAdd, Nat.reduceSub, Nat.reduceLeDiff, true_and, and_true, true_or, or_true, or_self, reduceCtorEq, if_true, if_false, not_false_eq_true, eq_self, c189, (hs _).e80, h93, h95, (hs _).e98, ai_at, nz0, nz1])
                  first
                    | (with_reducible show At 189 _ 152 _ _ _ _)
                    | (refine go 60 (by decide) ?_; simp only [KX, KY, KZ, KW, KV, Nat.reduceAdd, Nat.reduceSub, Nat.reduceLeDiff, true_and, and_true, true_or, or_true, or_self, reduceCtorEq, if_true, if_false, not_false_eq_true, eq_self, c189, (hs _).e80, h93, h95, (hs _).e98, ai_at, nz0, nz1])
                  refine go 60 (by decide) ?_
                  simp only [KX, KY, KZ, KW, KV, Nat.reduceAdd, Nat.reduceSub, Nat.reduceLeDiff, true_and, and_true, true_or, or_true, or_self, reduceCtorEq, if_true, if_false, not_false_eq_true, eq_self, c189, (hs _).e80, h93, h95, (hs _).e98, ai_at, nz0, nz1]
                  rw [nI_clamp (show s0.length < 2 ^ 31 by omega)]
                  refine ⟨nI_in (show s0.length < 100 by omega) (by decide), ?_⟩
                  first
                    | (with_reducible show At 189 _ 4 _ _ _ _)
                    | (refine go 60 (by decide) ?_; simp only [KX, KY, KZ, KW, KV, Nat.reduceAdd, Nat.reduceSub, Nat.reduceLeDiff, true_and, and_true, true_or, or_true, or_self, reduceCtorEq, if_true, if_false, not_false_eq_true, eq_self, c189, (hs _).e80, h93, h95, (hs _).e98, ai_at, nz0, nz1])
                  first
                    | (with_reducible show At 189 _ 4 _ _ _ _)
                    | (refine go 60 (by decide) ?_; simp only [KX, KY, KZ, KW, KV, Nat.reduceAdd, Nat.reduceSub, Nat.reduceLeDiff, true_and, and_true, true_or, or_true, or_self, reduceCtorEq, if_true, if_false, not_false_eq_true, eq_self, c189, (hs _).e80, h93, h95, (hs _).e98, ai_at, nz0, nz1])
                  first
                    | (with_reducible show At 189 _ 4 _ _ _ _)
                    | (refine go 60 (by decide) ?_; simp only [KX, KY, KZ, KW, KV, Nat.reduceAdd, Nat.reduceSub, Nat.reduceLeDiff, true_and, and_true, true_or, or_true, or_self, reduceCtorEq, if_true, if_false, not_false_eq_true, eq_self, c189, (hs _).e80, h93, h95, (hs _).e98, ai_at, nz0, nz1])
                  rw [ma_set_set]
                  rw [nI_1 s0.length, e2, nI_1 (b + j + 2), show b + j + 2 + 1 = b + (j + 3) by omega]
                  exact At_le ih3 ⟨rfl, rfl, rfl, rfl, rfl, trivial⟩
                · rw [if_neg d]
                  rw [show cb F 0 l r2 = false from decide_eq_false d] at ih3
                  first
                    | (with_reducible show At 189 _ 152 _ _ _ _)
                    | (refine go 60 (by decide) ?_; simp only [KX, KY, KZ, KW, KV, Nat.reduceAdd, Nat.reduceSub, Nat.reduceLeDiff, true_and, and_true, true_or, or_true, or_self, reduceCtorEq, if_true, if_false, not_false_eq_true, eq_self, c189, (hs _).e80, h93, h95, (hs _).e98, ai_at, nz0, nz1])
                  first
                    | (with_reducible show At 189 _ 152 _ _ _ _)
                    | (refine go 60 (by decide) ?_; simp only [KX, KY, KZ, KW, KV, Nat.reduceAdd, Nat.reduceSub, Nat.reduceLeDiff, true_and, and_true, true_or, or_true, or_self, reduceCtorEq, if_true, if_false, not_false_eq_true, eq_self, c189, (hs _).e80, h93, h95, (hs _).e98, ai_at, nz0, nz1])
                  first
                    | (with_reducible show At 189 _ 152 _ _ _ _)
                    | (refine go 60 (by decide) ?_; simp only [KX, KY, KZ, KW, KV, Nat.reduceAdd, Nat.reduceSub, Nat.reduceLeDiff, true_and, and_true, true_or, or_true, or_self, reduceCtorEq, if_true, if_false, not_false_eq_true, eq_self, c189, (hs _).e80, h93, h95, (hs _).e98, ai_at, nz0, nz1])
                  refine go 60 (by decide) ?_
                  simp only [KX, KY, KZ, KW, KV, Nat.reduceAdd, Nat.reduceSub, Nat.reduceLeDiff, true_and, and_true, true_or, or_true, or_self, reduceCtorEq, if_true, if_false, not_false_eq_true, eq_self, c189, (hs _).e80, h93, h95, (hs _).e98, ai_at, nz0, nz1]
                  rw [nI_clamp (show s0.length < 2 ^ 31 by omega)]
                  refine ⟨nI_in (show s0.length < 100 by omega) (by decide), ?_⟩
                  first
                    | (with_reducible show At 189 _ 4 _ _ _ _)
                    | (refine go 60 (by decide) ?_; simp only [KX, KY, KZ, KW, KV, Nat.reduceAdd, Nat.reduceSub, Nat.reduceLeDiff, true_and, and_true, true_or, or_true, or_self, reduceCtorEq, if_true, if_false, not_false_eq_true, eq_self, c189, (hs _).e80, h93, h95, (hs _).e98, ai_at, nz0, nz1])
                  first
                    | (with_reducible show At 189 _ 4 _ _ _ _)
                    | (refine go 60 (by decide) ?_; simp only [KX, KY, KZ, KW, KV, Nat.reduceAdd, Nat.reduceSub, Nat.reduceLeDiff, true_and, and_true, true_or, or_true, or_self, reduceCtorEq, if_true, if_false, not_false_eq_true, eq_self, c189, (hs _).e80, h93, h95, (hs _).e98, ai_at, nz0, nz1])
                  first
                    | (with_reducible show At 189 _ 4 _ _ _ _)
                    | (refine go 60 (by decide) ?_; simp only [KX, KY, KZ, KW, KV, Nat.reduceAdd, Nat.reduceSub, Nat.reduceLeDiff, true_and, and_true, true_or, or_true, or_self, reduceCtorEq, if_true, if_false, not_false_eq_true, eq_self, c189, (hs _).e80, h93, h95, (hs _).e98, ai_at, nz0, nz1])
                  rw [ma_set_set]
                  rw [nI_1 s0.length, e2, nI_1 (b + j + 2), show b + j + 2 + 1 = b + (j + 3) by omega]
                  exact At_le ih3 ⟨rfl, rfl, rfl, rfl, rfl, trivial⟩
              · have ih3 := ih2
                simp only [KX, KY, KZ, KW, KV, Nat.reduceAdd, Nat.reduceSub, Nat.reduceLeDiff, true_and, and_true, true_or, or_true, or_self, reduceCtorEq, if_true, if_false, not_false_eq_true, eq_self, show (nI (60 + 0) = 60) = True from by decide, show (nI (60 + 1) = 60) = False from by decide, show (nI (60 + 2) = 60) = False from by decide, show (nI (60 + 1) = 61) = True from by decide, show (nI (60 + 2) = 61) = False from by decide]
                try refine ⟨nI_in (show b + j + 1 < 200 by omega) (by decide), ?_⟩
                skip
                by_cases d : tv F l = tv F r2
                · rw [if_pos d]
                  rw [show cb F 1 l r2 = true from decide_eq_true d] at ih3
                  first
                    | (with_reducible show At 189 _ 152 _ _ _ _)
                    | (refine go 60 (by decide) ?_; simp only [KX, KY, KZ, KW, KV, Nat.reduceAdd, Nat.reduceSub, Nat.reduceLeDiff, true_and, and_true, true_or, or_true, or_self, reduceCtorEq, if_true, if_false, not_false_eq_true, eq_self, c189, (hs _).e80, h93, h95, (hs _).e98, ai_at, nz0, nz1])
                  first
                    | (with_reducible show At 189 _ 152 _ _ _ _)
                    | (refine go 60 (by decide) ?_; simp only [KX, KY, KZ, KW, KV, Nat.reduceAdd, Nat.reduceSub, Nat.reduceLeDiff, true_and, and_true, true_or, or_true, or_self, reduceCtorEq, if_true, if_false, not_false_eq_true, eq_self, c189, (hs _).e80, h93, h95, (hs _).e98, ai_at, nz0, nz1])
                  first
                    | (with_reducible show At 189 _ 152 _ _ _ _)
                    | (refine go 60 (by decide) ?_; simp only [KX, KY, KZ, KW, KV, Nat.reduceAdd, Nat.reduceSub, Nat.reduceLeDiff, true_and, and_true, true_or, or_true, or_self, reduceCtorEq, if_true, if_false, not_false_eq_true, eq_self, c189, (hs _).e80, h93, h95, (hs _).e98, ai_at, nz0, nz1])
                  refine go 60 (by decide) ?_
                  simp only [KX, KY, KZ, KW, KV, Nat.reduceAdd, Nat.reduceSub, Nat.reduceLeDiff, true_and, and_true, true_or, or_true, or_self, reduceCtorEq, if_true, if_false, not_false_eq_true, eq_self, c189, (hs _).e80, h93, h95, (hs _).e98, ai_at, nz0, nz1]
                  rw [nI_clamp (show s0.length < 2 ^ 31 by omega)]
                  refine ⟨nI_in (show s0.length < 100 by omega) (by decide), ?_⟩
                  first
                    | (with_reducible show At 189 _ 4 _ _ _ _)
                    | (refine go 60 (by decide) ?_; simp only [KX, KY, KZ, KW, KV, Nat.reduceAdd, Nat.reduceSub, Nat.reduceLeDiff, true_and, and_true, true_or, or_true, or_self, reduceCtorEq, if_true, if_false, not_false_eq_true, eq_self, c189, (hs _).e80, h93, h95, (hs _).e98, ai_at, nz0, nz1])
                  first
                    | (with_reducible show At 189 _ 4 _ _ _ _)
                    | (refine go 60 (by decide) ?_; simp only [KX, KY, KZ, KW, KV, Nat.reduceAdd, Nat.reduceSub, Nat.reduceLeDiff, true_and, and_true, true_or, or_true, or_self, reduceCtorEq, if_true, if_false, not_false_eq_true, eq_self, c189, (hs _).e80, h93, h95, (hs _).e98, ai_at, nz0, nz1])
                  first
                    | (with_reducible show At 189 _ 4 _ _ _ _)
                    | (refine go 60 (by decide) ?_; simp only [KX, KY, KZ, KW, KV, Nat.reduceAdd, Nat.reduceSub, Nat.reduceLeDiff, true_and, and_true, true_or, or_true, or_self, reduceCtorEq, if_true, if_false, not_false_eq_true, eq_self, c189, (hs _).e80, h93, h95, (hs _).e98, ai_at, nz0, nz1])
                  rw [ma_set_set]
                  rw [nI_1 s0.length, e2, nI_1 (b + j + 2), show b + j + 2 + 1 = b + (j + 3) by omega]
                  exact At_le ih3 ⟨rfl, rfl, rfl, rfl, rfl, trivial⟩
                · rw [if_neg d]
                  rw [show cb F 1 l r2 = false from decide_eq_false d] at ih3
                  first
                    | (with_reducible show At 189 _ 152 _ _ _ _)
                    | (refine go 60 (by decide) ?_; simp only [KX, KY, KZ, KW, KV, Nat.reduceAdd, Nat.reduceSub, Nat.reduceLeDiff, true_and, and_true, true_or, or_true, or_self, reduceCtorEq, if_true, if_false, not_false_eq_true, eq_self, c189, (hs _).e80, h93, h95, (hs _).e98, ai_at, nz0, nz1])
                  first
                    | (with_reducible show At 189 _ 152 _ _ _ _)
                    | (refine go 60 (by decide) ?_; simp only [KX, KY, KZ, KW, KV, Nat.reduceAdd, Nat.reduceSub, Nat.reduceLeDiff, true_and, and_true, true_or, or_true, or_self, reduceCtorEq, if_true, if_false, not_false_eq_true, eq_self, c189, (hs _).e80, h93, h95, (hs _).e98, ai_at, nz0, nz1])
                  first
                    | (with_reducible show At 189 _ 152 _ _ _ _)
                    | (refine go 60 (by decide) ?_; simp only [KX, KY, KZ, KW, KV, Nat.reduceAdd, Nat.reduceSub, Nat.reduceLeDiff, true_and, and_true, true_or, or_true, or_self, reduceCtorEq, if_true, if_false, not_false_eq_true, eq_self, c189, (hs _).e80, h93, h95, (hs _).e98, ai_at, nz0, nz1])
                  refine go 60 (by decide) ?_
                  simp only [KX, KY, KZ, KW, KV, Nat.reduceAdd, Nat.reduceSub, Nat.reduceLeDiff, true_and, and_true, true_or, or_true, or_self, reduceCtorEq, if_true, if_false, not_false_eq_true, eq_self, c189, (hs _).e80, h93, h95, (hs _).e98, ai_at, nz0, nz1]
                  rw [nI_clamp (show s0.length < 2 ^ 31 by omega)]
                  refine ⟨nI_in (show s0.length < 100 by omega) (by decide), ?_⟩
                  first
                    | (with_reducible show At 189 _ 4 _ _ _ _)
                    | (refine go 60 (by decide) ?_; simp only [KX, KY, KZ, KW, KV, Nat.reduceAdd, Nat.reduceSub, Nat.reduceLeDiff, true_and, and_true, true_or, or_true, or_self, reduceCtorEq, if_true, if_false, not_false_eq_true, eq_self, c189, (hs _).e80, h93, h95, (hs _).e98, ai_at, nz0, nz1])
                  first
                    | (with_reducible show At 189 _ 4 _ _ _ _)
                    | (refine go 60 (by decide) ?_; simp only [KX, KY, KZ, KW, KV, Nat.reduceAdd, Nat.reduceSub, Nat.reduceLeDiff, true_and, and_true, true_or, or_true, or_self, reduceCtorEq, if_true, if_false, not_false_eq_true, eq_self, c189, (hs _).e80, h93, h95, (hs _).e98, ai_at, nz0, nz1])
                  first
                    | (with_reducible show At 189 _ 4 _ _ _ _)
                    | (refine go 60 (by decide) ?_; simp only [KX, KY, KZ, KW, KV, Nat.reduceAdd, Nat.reduceSub, Nat.reduceLeDiff, true_and, and_true, true_or, or_true, or_self, reduceCtorEq, if_true, if_false, not_false_eq_true, eq_self, c189, (hs _).e80, h93, h95, (hs _).e98, ai_at, nz0, nz1])
                  rw [ma_set_set]
                  rw [nI_1 s0.length, e2, nI_1 (b + j + 2), show b + j + 2 + 1 = b + (j + 3) by omega]
                  exact At_le ih3 ⟨rfl, rfl, rfl, rfl, rfl, trivial⟩
              · have ih3 := ih2
                simp only [KX, KY, KZ, KW, KV, Nat.reduceAdd, Nat.reduceSub, Nat.reduceLeDiff, true_and, and_true, true_or, or_true, or_self, reduceCtorEq, if_true, if_false, not_false_eq_true, eq_self, show (nI (60 + 0) = 60) = True from by decide, show (nI (60 + 1) = 60) = False from by decide, show (nI (60 + 2) = 60) = False from by decide, show (nI (60 + 1) = 61) = True from by decide, show (nI (60 + 2) = 61) = False from by decide]
                try refine ⟨nI_in (show b + j + 1 < 200 by omega) (by decide), ?_⟩
                skip
                by_cases d : tv F r2 < tv F l
                · rw [if_neg (Int32.not_le.mpr d)]
                  rw [show cb F 2 l r2 = true from decide_eq_true d] at ih3
                  first
                    | (with_reducible show At 189 _ 152 _ _ _ _)
                    | (refine go 60 (by decide) ?_; simp only [KX, KY, KZ, KW, KV, Nat.reduceAdd, Nat.reduceSub, Nat.reduceLeDiff, true_and, and_true, true_or, or_true, or_self, reduceCtorEq, if_true, if_false, not_false_eq_true, eq_self, c189, (hs _).e80, h93, h95, (hs _).e98, ai_at, nz0, nz1])
                  first
                    | (with_reducible show At 189 _ 152 _ _ _ _)
                    | (refine go 60 (by decide) ?_; simp only [KX, KY, KZ, KW, KV, Nat.reduceAdd, Nat.reduceSub, Nat.reduceLeDiff, true_and, and_true, true_or, or_true, or_self, reduceCtorEq, if_true, if_false, not_false_eq_true, eq_self, c189, (hs _).e80, h93, h95, (hs _).e98, ai_at, nz0, nz1])
                  first
                    | (with_reducible show At 189 _ 152 _ _ _ _)
                    | (refine go 60 (by decide) ?_; simp only [KX, KY, KZ, KW, KV, Nat.reduceAdd, Nat.reduceSub, Nat.reduceLeDiff, true_and, and_true, true_or, or_true, or_self, reduceCtorEq, if_true, if_false, not_false_eq_true, eq_self, c189, (hs _).e80, h93, h95, (hs _).e98, ai_at, nz0, nz1])
                  refine go 60 (by decide) ?_
                  simp only [KX, KY, KZ, KW, KV, Nat.reduceAdd, Nat.reduceSub, Nat.reduceLeDiff, true_and, and_true, true_or, or_true, or_self, reduceCtorEq, if_true, if_false, not_false_eq_true, eq_self, c189, (hs _).e80, h93, h95, (hs _).e98, ai_at, nz0, nz1]
                  rw [nI_clamp (show s0.length < 2 ^ 31 by omega)]
                  refine ⟨nI_in (show s0.length < 100 by omega) (by decide), ?_⟩
                  first
                    | (with_reducible show At 189 _ 4 _ _ _ _)
                    | (refine go 60 (by decide) ?_; simp only [KX, KY, KZ, KW, KV, Nat.reduceAdd, Nat.reduceSub, Nat.reduceLeDiff, true_and, and_true, true_or, or_true, or_self, reduceCtorEq, if_true, if_false, not_false_eq_true, eq_self, c189, (hs _).e80, h93, h95, (hs _).e98, ai_at, nz0, nz1])
                  first
                    | (with_reducible show At 189 _ 4 _ _ _ _)
                    | (refine go 60 (by decide) ?_; simp only [KX, KY, KZ, KW, KV, Nat.reduceAdd, Nat.reduceSub, Nat.reduceLeDiff, true_and, and_true, true_or, or_true, or_self, reduceCtorEq, if_true, if_false, not_false_eq_true, eq_self, c189, (hs _).e80, h93, h95, (hs _).e98, ai_at, nz0, nz1])
                  first
                    | (with_reducible show At 189 _ 4 _ _ _ _)
                    | (refine go 60 (by decide) ?_; simp only [KX, KY, KZ, KW, KV, Nat.reduceAdd, Nat.reduceSub, Nat.reduceLeDiff, true_and, and_true, true_or, or_true, or_self, reduceCtorEq, if_true, if_false, not_false_eq_true, eq_self, c189, (hs _).e80, h93, h95, (hs _).e98, ai_at, nz0, nz1])
                  rw [ma_set_set]
                  rw [nI_1 s0.length, e2, nI_1 (b + j + 2), show b + j + 2 + 1 = b + (j + 3) by omega]
                  exact At_le ih3 ⟨rfl, rfl, rfl, rfl, rfl, trivial⟩
                · rw [if_pos (Int32.not_lt.mp d)]
                  rw [show cb F 2 l r2 = false from decide_eq_false d] at ih3
                  first
                    | (with_reducible show At 189 _ 152 _ _ _ _)
                    | (refine go 60 (by decide) ?_; simp only [KX, KY, KZ, KW, KV, Nat.reduceAdd, Nat.reduceSub, Nat.reduceLeDiff, true_and, and_true, true_or, or_true, or_self, reduceCtorEq, if_true, if_false, not_false_eq_true, eq_self, c189, (hs _).e80, h93, h95, (hs _).e98, ai_at, nz0, nz1])
                  first
                    | (with_reducible show At 189 _ 152 _ _ _ _)
                    | (refine go 60 (by decide) ?_; simp only [KX, KY, KZ, KW, KV, Nat.reduceAdd, Nat.reduceSub, Nat.reduceLeDiff, true_and, and_true, true_or, or_true, or_self, reduceCtorEq, if_true, if_false, not_false_eq_true, eq_self, c189, (hs _).e80, h93, h95, (hs _).e98, ai_at, nz0, nz1])
                  first
                    | (with_reducible show At 189 _ 152 _ _ _ _)
                    | (refine go 60 (by decide) ?_; simp only [KX, KY, KZ, KW, KV, Nat.reduceAdd, Nat.reduceSub, Nat.reduceLeDiff, true_and, and_true, true_or, or_true, or_self, reduceCtorEq, if_true, if_false, not_false_eq_true, eq_self, c189, (hs _).e80, h93, h95, (hs _).e98, ai_at, nz0, nz1])
                  refine go 60 (by decide) ?_
                  simp only [KX, KY, KZ, KW, KV, Nat.reduceAdd, Nat.reduceSub, Nat.reduceLeDiff, true_and, and_true, true_or, or_true, or_self, reduceCtorEq, if_true, if_false, not_false_eq_true, eq_self, c189, (hs _).e80, h93, h95, (hs _).e98, ai_at, nz0, nz1]
                  rw [nI_clamp (show s0.length < 2 ^ 31 by omega)]
                  refine ⟨nI_in (show s0.length < 100 by omega) (by decide), ?_⟩
                  first
                    | (with_reducible show At 189 _ 4 _ _ _ _)
                    | (refine go 60 (by decide) ?_; simp only [KX, KY, KZ, KW, KV, Nat.reduceAdd, Nat.reduceSub, Nat.reduceLeDiff, true_and, and_true, true_or, or_true, or_self, reduceCtorEq, if_true, if_false, not_false_eq_true, eq_self, c189, (hs _).e80, h93, h95, (hs _).e98, ai_at, nz0, nz1])
                  first
                    | (with_reducible show At 189 _ 4 _ _ _ _)
                    | (refine go 60 (by decide) ?_; simp only [KX, KY, KZ, KW, KV, Nat.reduceAdd, Nat.reduceSub, Nat.reduceLeDiff, true_and, and_true, true_or, or_true, or_self, reduceCtorEq, if_true, if_false, not_false_eq_true, eq_self, c189, (hs _).e80, h93, h95, (hs _).e98, ai_at, nz0, nz1])
                  first
                    | (with_reducible show At 189 _ 4 _ _ _ _)
                    | (refine go 60 (by decide) ?_; simp only [KX, KY, KZ, KW, KV, Nat.reduceAdd, Nat.reduceSub, Nat.reduceLeDiff, true_and, and_true, true_or, or_true, or_self, reduceCtorEq, if_true, if_false, not_false_eq_true, eq_self, c189, (hs _).e80, h93, h95, (hs _).e98, ai_at, nz0, nz1])
                  rw [ma_set_set]
                  rw [nI_1 s0.length, e2, nI_1 (b + j + 2), show b + j + 2 + 1 = b + (j + 3) by omega]
                  exact At_le ih3 ⟨rfl, rfl, rfl, rfl, rfl, trivial⟩
            refine go 60 (by decide) ?_
            simp only [KX, KY, KZ, KW, KV, Nat.reduceAdd, Nat.reduceSub, Nat.reduceLeDiff, true_and, and_true, true_or, or_true, or_self, reduceCtorEq, if_true, if_false, not_false_eq_true, eq_self, c189, (hs _).e80, h93, h95, (hs _).e98, ai_at, nz0, nz1]
            rw [e2, nI_clamp (show b + j + 2 < 2 ^ 31 by omega), w02]
            refine ⟨nI_in (show b + j + 2 < 200 by omega) (by decide), ?_⟩
            rcases tmv_v F ok3 with ⟨v1, v2, v3⟩ | ⟨w, v0, v1, v2, v3⟩
            · rw [v2, if_pos (show nI r2 < 20000 from nI_lt (b := 20000) (by omega) (by decide))]
              first
                | (refine ⟨nI_in (show b + j + 2 < 200 by omega) (by decide), ?_⟩)
                | skip
              rw [v3] at Y
              first
                | (with_reducible show At 189 _ 114 _ _ _ _)
                | (refine go 60 (by decide) ?_; simp only [KX, KY, KZ, KW, KV, Nat.reduceAdd, Nat.reduceSub, Nat.reduceLeDiff, true_and, and_true, true_or, or_true, or_self, reduceCtorEq, if_true, if_false, not_false_eq_true, eq_self, c189, (hs _).e80, h93, h95, (hs _).e98, ai_at, nz0, nz1])
              first
                | (with_reducible show At 189 _ 114 _ _ _ _)
                | (refine go 60 (by decide) ?_; simp only [KX, KY, KZ, KW, KV, Nat.reduceAdd, Nat.reduceSub, Nat.reduceLeDiff, true_and, and_true, true_or, or_true, or_self, reduceCtorEq, if_true, if_false, not_false_eq_true, eq_self, c189, (hs _).e80, h93, h95, (hs _).e98, ai_at, nz0, nz1])
              first
                | (with_reducible show At 189 _ 114 _ _ _ _)
                | (refine go 60 (by decide) ?_; simp only [KX, KY, KZ, KW, KV, Nat.reduceAdd, Nat.reduceSub, Nat.reduceLeDiff, true_and, and_true, true_or, or_true, or_self, reduceCtorEq, if_true, if_false, not_false_eq_true, eq_self, c189, (hs _).e80, h93, h95, (hs _).e98, ai_at, nz0, nz1])
              exact At_le Y ⟨rfl, rfl, rfl, rfl, rfl, rfl, trivial⟩
            · rw [v2, if_neg (show ¬ nI (20000 + w) < 20000 from nI_nlt (b := 20000) (by omega) (by omega)), sub_20000, nI_clamp (show w < 2 ^ 31 by omega)]
              rw [v3] at Y
              refine ⟨nI_in (show b + j + 2 < 200 by omega) (by decide), nI_in v0 (by decide), ?_⟩
              first
                | (with_reducible show At 189 _ 114 _ _ _ _)
                | (refine go 60 (by decide) ?_; simp only [KX, KY, KZ, KW, KV, Nat.reduceAdd, Nat.reduceSub, Nat.reduceLeDiff, true_and, and_true, true_or, or_true, or_self, reduceCtorEq, if_true, if_false, not_false_eq_true, eq_self, c189, (hs _).e80, h93, h95, (hs _).e98, ai_at, nz0, nz1])
              first
                | (with_reducible show At 189 _ 114 _ _ _ _)
                | (refine go 60 (by decide) ?_; simp only [KX, KY, KZ, KW, KV, Nat.reduceAdd, Nat.reduceSub, Nat.reduceLeDiff, true_and, and_true, true_or, or_true, or_self, reduceCtorEq, if_true, if_false, not_false_eq_true, eq_self, c189, (hs _).e80, h93, h95, (hs _).e98, ai_at, nz0, nz1])
              first
                | (with_reducible show At 189 _ 114 _ _ _ _)
                | (refine go 60 (by decide) ?_; simp only [KX, KY, KZ, KW, KV, Nat.reduceAdd, Nat.reduceSub, Nat.reduceLeDiff, true_and, and_true, true_or, or_true, or_self, reduceCtorEq, if_true, if_false, not_false_eq_true, eq_self, c189, (hs _).e80, h93, h95, (hs _).e98, ai_at, nz0, nz1])
              exact At_le Y ⟨rfl, rfl, rfl, rfl, rfl, rfl, trivial⟩
          rcases tmv_v F ok2 with ⟨v1, v2, v3⟩ | ⟨w, v0, v1, v2, v3⟩
          · rw [v2, if_pos (show nI l < 20000 from nI_lt (b := 20000) (by omega) (by decide))]
            rw [v3] at X
            first
              | (with_reducible show At 189 _ 90 _ _ _ _)
              | (refine go 60 (by decide) ?_; simp only [KX, KY, KZ, KW, KV, Nat.reduceAdd, Nat.reduceSub, Nat.reduceLeDiff, true_and, and_true, true_or, or_true, or_self, reduceCtorEq, if_true, if_false, not_false_eq_true, eq_self, c189, (hs _).e80, h93, h95, (hs _).e98, ai_at, nz0, nz1])
            first
              | (with_reducible show At 189 _ 90 _ _ _ _)
              | (refine go 60 (by decide) ?_; simp only [KX, KY, KZ, KW, KV, Nat.reduceAdd, Nat.reduceSub, Nat.reduceLeDiff, true_and, and_true, true_or, or_true, or_self, reduceCtorEq, if_true, if_false, not_false_eq_true, eq_self, c189, (hs _).e80, h93, h95, (hs _).e98, ai_at, nz0, nz1])
            first
              | (with_reducible show At 189 _ 90 _ _ _ _)
              | (refine go 60 (by decide) ?_; simp only [KX, KY, KZ, KW, KV, Nat.reduceAdd, Nat.reduceSub, Nat.reduceLeDiff, true_and, and_true, true_or, or_true, or_self, reduceCtorEq, if_true, if_false, not_false_eq_true, eq_self, c189, (hs _).e80, h93, h95, (hs _).e98, ai_at, nz0, nz1])
            exact At_le X ⟨rfl, rfl, rfl, rfl, rfl, trivial⟩
          · rw [v2, if_neg (show ¬ nI (20000 + w) < 20000 from nI_nlt (b := 20000) (by omega) (by omega)), sub_20000, nI_clamp (show w < 2 ^ 31 by omega)]
            rw [v3] at X
            refine ⟨nI_in v0 (by decide), ?_⟩
            first
              | (with_reducible show At 189 _ 90 _ _ _ _)
              | (refine go 60 (by decide) ?_; simp only [KX, KY, KZ, KW, KV, Nat.reduceAdd, Nat.reduceSub, Nat.reduceLeDiff, true_and, and_true, true_or, or_true, or_self, reduceCtorEq, if_true, if_false, not_false_eq_true, eq_self, c189, (hs _).e80, h93, h95, (hs _).e98, ai_at, nz0, nz1])
            first
              | (with_reducible show At 189 _ 90 _ _ _ _)
              | (refine go 60 (by decide) ?_; simp only [KX, KY, KZ, KW, KV, Nat.reduceAdd, Nat.reduceSub, Nat.reduceLeDiff, true_and, and_true, true_or, or_true, or_self, reduceCtorEq, if_true, if_false, not_false_eq_true, eq_self, c189, (hs _).e80, h93, h95, (hs _).e98, ai_at, nz0, nz1])
            first
              | (with_reducible show At 189 _ 90 _ _ _ _)
              | (refine go 60 (by decide) ?_; simp only [KX, KY, KZ, KW, KV, Nat.reduceAdd, Nat.reduceSub, Nat.reduceLeDiff, true_and, and_true, true_or, or_true, or_self, reduceCtorEq, if_true, if_false, not_false_eq_true, eq_self, c189, (hs _).e80, h93, h95, (hs _).e98, ai_at, nz0, nz1])
            exact At_le X ⟨rfl, rfl, rfl, rfl, rfl, trivial⟩
        · rw [if_neg c] at w5
          exact absurd (show (none : Option (List Bool)) = some st from w5) (by intro z; cases z)
  refine ma_enter (m := 189) (Or.inl (by decide)) (by show 4 ≤ mt_n 189; decide +kernel) ?_
  show At 189 Q 0 (mt_c 189) [some (.ref 80), some (.ref 93), some (.int (nI b)), some (.int (nI (b + (tms M).length))), none, none, none, none, none] [] h
  refine go 60 (by decide) ?_
  simp only [KX, KY, KZ, KW, KV, Nat.reduceAdd, Nat.reduceSub, Nat.reduceLeDiff, true_and, and_true, true_or, or_true, or_self, reduceCtorEq, if_true, if_false, not_false_eq_true, eq_self, c189]
  have l0 := lp M 0 [] (ai h 98) (fun k v w => sg k v w) ok (by omega) (by simp) e trivial
  rw [show (ma_set h 98 (.inl (.boolean, 100, .inl (ai h 98)))) = h from ma_set_id H.e98] at l0
  exact At_le l0 ⟨rfl, rfl, rfl, rfl, rfl, trivial⟩
