/-! FLAKE: what lies beside, rings -/
/-- ICE on a place -/
def fl_has (g : Nat → Int32) (p : Nat) : Int32 := if g p < 0 then 0 else 1
/-- the place beside CELL i towards j -/
def fl_nb (i j : Nat) : Nat := (nI (ma_cell i) + ma_TOW.getD j 0).toNatClampNeg
theorem fl_nb_ok : ∀ i, i < 91 → ∀ j, j < 6 → nI (ma_cell i) + ma_TOW.getD j 0 = nI (fl_nb i j) ∧ fl_nb i j < 169 := by decide +kernel
theorem sv1 (k : Nat) : ma_sv 1 k = ma_TOW.getD k 0 := rfl
/-- the ring of a place -/
def i_ring (x : Int32) : Int32 := i_max (i_max (i_abs (x - x / 13 * 13 - 6)) (i_abs (x / 13 - 6))) (i_abs (x - x / 13 * 13 - 6 + (x / 13 - 6)))
def fl_ring (i : Nat) : Int32 := i_ring (nI (ma_cell i))
def fl_ringIce (g : Nat → Int32) (w : Int32) (i : Nat) : Int32 := if fl_ring i = w then if g (ma_cell i) < 0 then 0 else 1 else 0
def fl_beside (g : Nat → Int32) (i j : Nat) : Int32 := fl_has g (fl_nb i j)
theorem s18n {h : ma_H} {Q : ma_Q} {a s rc : Nat} {mn : Int32} {g : Nat → Int32} (h1 : h.2.1 a = .inr (2, [.int mn, .ref s, .ref rc])) (h2 : h.2.1 s = .inl (.int, 169, .inl g)) {p : Nat} (hp : p < 169) (k : Q (some (.int (g p))) h) : ma_X 18 [.ref a, .int (nI p)] h Q := by
  refine s18 h1 h2 ?_
  rw [if_neg (nI_pos (by omega)), if_pos (nI_lt hp (by decide)), nI_clamp (by omega)]
  exact k
theorem s19n {h : ma_H} {Q : ma_Q} {a s rc : Nat} {mn : Int32} {g : Nat → Int32} (h1 : h.2.1 a = .inr (2, [.int mn, .ref s, .ref rc])) (h2 : h.2.1 s = .inl (.int, 169, .inl g)) {p : Nat} (hp : p < 169) (k : Q (some (.int (fl_has g p))) h) : ma_X 19 [.ref a, .int (nI p)] h Q := by
  refine s19 h1 h2 ?_
  rw [if_neg (nI_pos (by omega)), if_pos (nI_lt hp (by decide)), nI_clamp (by omega)]
  exact k
theorem s12r {h : ma_H} {Q : ma_Q} {x : Int32} (k : Q (some (.int (i_ring x))) h) : ma_X 12 [.int x] h Q := by
  exact s12 k
theorem fl_01 (g : Nat → Int32) (p : Nat) : fl_has g p = 0 ∨ fl_has g p = 1 := by
  unfold fl_has
  split
  · exact Or.inl rfl
  · exact Or.inr rfl
theorem s20 {h : ma_H} {Q : ma_Q} {a s rc : Nat} {mn : Int32} {g : Nat → Int32} (h1 : h.2.1 a = .inr (2, [.int mn, .ref s, .ref rc])) (h2 : h.2.1 s = .inl (.int, 169, .inl g)) {i : Nat} (hi : i < 91) (k : Q (some (.int (fl_has g (fl_nb i 0) + fl_has g (fl_nb i 3)))) h) : ma_X 20 [.ref a, .int (nI (ma_cell i))] h Q := by
  refine ma_enter (m := 20) (Or.inl (by decide)) (by show 2 ≤ mt_n 20; decide +kernel) ?_
  show At 20 Q 0 (0, 0) [some (.ref a), some (.int (nI (ma_cell i)))] [] h
  refine go 60 (by decide) ?_
  simp only [KX, KY, KZ, KW, KV, Nat.reduceAdd, Nat.reduceSub, Nat.reduceLeDiff, true_and, and_true, true_or, or_true, or_self, reduceCtorEq, if_true, if_false, not_false_eq_true, eq_self, c20, h1, h2, sv1]
  refine ⟨by unfold vp_in; decide, ?_⟩
  rw [show Int32.toNatClampNeg 0 = 0 from rfl, (fl_nb_ok i hi 0 (by decide)).1]
  refine s19n h1 h2 (fl_nb_ok i hi 0 (by decide)).2 ?_
  rcases fl_01 g (fl_nb i 0) with e | e
  · rw [e] at k ⊢
    refine go 60 (by decide) ?_
    simp only [KX, KY, KZ, KW, KV, Nat.reduceAdd, Nat.reduceSub, Nat.reduceLeDiff, true_and, and_true, true_or, or_true, or_self, reduceCtorEq, if_true, if_false, not_false_eq_true, eq_self, c20, h1, h2, sv1]
    refine go 60 (by decide) ?_
    simp only [KX, KY, KZ, KW, KV, Nat.reduceAdd, Nat.reduceSub, Nat.reduceLeDiff, true_and, and_true, true_or, or_true, or_self, reduceCtorEq, if_true, if_false, not_false_eq_true, eq_self, c20, h1, h2, sv1]
    refine ⟨by unfold vp_in; decide, ?_⟩
    rw [show Int32.toNatClampNeg 3 = 3 from rfl, (fl_nb_ok i hi 3 (by decide)).1]
    refine s19n h1 h2 (fl_nb_ok i hi 3 (by decide)).2 ?_
    rcases fl_01 g (fl_nb i 3) with e2 | e2
    · rw [e2] at k ⊢
      refine go 60 (by decide) ?_
      simp only [KX, KY, KZ, KW, KV, Nat.reduceAdd, Nat.reduceSub, Nat.reduceLeDiff, true_and, and_true, true_or, or_true, or_self, reduceCtorEq, if_true, if_false, not_false_eq_true, eq_self, c20, h1, h2, sv1]
      refine go 60 (by decide) ?_
      simp only [KX, KY, KZ, KW, KV, Nat.reduceAdd, Nat.reduceSub, Nat.reduceLeDiff, true_and, and_true, true_or, or_true, or_self, reduceCtorEq, if_true, if_false, not_false_eq_true, eq_self, c20, h1, h2, sv1]
      exact k
    · rw [e2] at k ⊢
      refine go 60 (by decide) ?_
      simp only [KX, KY, KZ, KW, KV, Nat.reduceAdd, Nat.reduceSub, Nat.reduceLeDiff, true_and, and_true, true_or, or_true, or_self, reduceCtorEq, if_true, if_false, not_false_eq_true, eq_self, c20, h1, h2, sv1]
      refine go 60 (by decide) ?_
      simp only [KX, KY, KZ, KW, KV, Nat.reduceAdd, Nat.reduceSub, Nat.reduceLeDiff, true_and, and_true, true_or, or_true, or_self, reduceCtorEq, if_true, if_false, not_false_eq_true, eq_self, c20, h1, h2, sv1]
      exact k
  · rw [e] at k ⊢
    refine go 60 (by decide) ?_
    simp only [KX, KY, KZ, KW, KV, Nat.reduceAdd, Nat.reduceSub, Nat.reduceLeDiff, true_and, and_true, true_or, or_true, or_self, reduceCtorEq, if_true, if_false, not_false_eq_true, eq_self, c20, h1, h2, sv1]
    refine go 60 (by decide) ?_
    simp only [KX, KY, KZ, KW, KV, Nat.reduceAdd, Nat.reduceSub, Nat.reduceLeDiff, true_and, and_true, true_or, or_true, or_self, reduceCtorEq, if_true, if_false, not_false_eq_true, eq_self, c20, h1, h2, sv1]
    refine ⟨by unfold vp_in; decide, ?_⟩
    rw [show Int32.toNatClampNeg 3 = 3 from rfl, (fl_nb_ok i hi 3 (by decide)).1]
    refine s19n h1 h2 (fl_nb_ok i hi 3 (by decide)).2 ?_
    rcases fl_01 g (fl_nb i 3) with e2 | e2
    · rw [e2] at k ⊢
      refine go 60 (by decide) ?_
      simp only [KX, KY, KZ, KW, KV, Nat.reduceAdd, Nat.reduceSub, Nat.reduceLeDiff, true_and, and_true, true_or, or_true, or_self, reduceCtorEq, if_true, if_false, not_false_eq_true, eq_self, c20, h1, h2, sv1]
      refine go 60 (by decide) ?_
      simp only [KX, KY, KZ, KW, KV, Nat.reduceAdd, Nat.reduceSub, Nat.reduceLeDiff, true_and, and_true, true_or, or_true, or_self, reduceCtorEq, if_true, if_false, not_false_eq_true, eq_self, c20, h1, h2, sv1]
      exact k
    · rw [e2] at k ⊢
      refine go 60 (by decide) ?_
      simp only [KX, KY, KZ, KW, KV, Nat.reduceAdd, Nat.reduceSub, Nat.reduceLeDiff, true_and, and_true, true_or, or_true, or_self, reduceCtorEq, if_true, if_false, not_false_eq_true, eq_self, c20, h1, h2, sv1]
      refine go 60 (by decide) ?_
      simp only [KX, KY, KZ, KW, KV, Nat.reduceAdd, Nat.reduceSub, Nat.reduceLeDiff, true_and, and_true, true_or, or_true, or_self, reduceCtorEq, if_true, if_false, not_false_eq_true, eq_self, c20, h1, h2, sv1]
      exact k
theorem s21 {h : ma_H} {Q : ma_Q} {a s rc : Nat} {mn : Int32} {g : Nat → Int32} (h1 : h.2.1 a = .inr (2, [.int mn, .ref s, .ref rc])) (h2 : h.2.1 s = .inl (.int, 169, .inl g)) {c : Nat} (hc : c < 91) (k : Q (some (.int (su (fl_beside g c) 6))) h) : ma_X 21 [.ref a, .int (nI (ma_cell c))] h Q := by
  refine ma_enter (m := 21) (Or.inl (by decide)) (by show 2 ≤ mt_n 21; decide +kernel) ?_
  show At 21 Q 0 (0, 0) [some (.ref a), some (.int (nI (ma_cell c))), none, none, none, none, none] [] h
  have lp : ∀ n i, i + n = 6 → At 21 Q 9 (0, 0) [some (.ref a), some (.int (nI (ma_cell c))), some (.int (su (fl_beside g c) i)), some (.retAddr 1), some (.int (nI 6)), some (.int (nI i)), none] [] h := by
    intro n
    induction n with
    | zero =>
      intro i e
      obtain rfl : i = 6 := by omega
      refine go 60 (by decide) ?_
      simp only [KX, KY, KZ, KW, KV, Nat.reduceAdd, Nat.reduceSub, Nat.reduceLeDiff, true_and, and_true, true_or, or_true, or_self, reduceCtorEq, if_true, if_false, not_false_eq_true, eq_self, c21, h1, h2, sv1]
      rw [if_neg (nI_nlt (Nat.le_refl _) (by decide))]
      exact k
    | succ n ih =>
      intro i e
      have hi : i < 6 := by omega
      refine go 60 (by decide) ?_
      simp only [KX, KY, KZ, KW, KV, Nat.reduceAdd, Nat.reduceSub, Nat.reduceLeDiff, true_and, and_true, true_or, or_true, or_self, reduceCtorEq, if_true, if_false, not_false_eq_true, eq_self, c21, h1, h2, sv1]
      rw [if_pos (nI_lt hi (by decide))]
      rw [nI_clamp (show i < 2 ^ 31 by omega)]
      refine ⟨nI_in hi (by decide), ?_⟩
      have e1 := nI_1 i
      rw [(fl_nb_ok c hc i hi).1]
      refine s19n h1 h2 (fl_nb_ok c hc i hi).2 ?_
      have e2 : su (fl_beside g c) (i + 1) = su (fl_beside g c) i + fl_has g (fl_nb c i) := rfl
      rcases fl_01 g (fl_nb c i) with e3 | e3
      · rw [e3] at e2 ⊢
        refine go 60 (by decide) ?_
        simp only [KX, KY, KZ, KW, KV, Nat.reduceAdd, Nat.reduceSub, Nat.reduceLeDiff, true_and, and_true, true_or, or_true, or_self, reduceCtorEq, if_true, if_false, not_false_eq_true, eq_self, c21, h1, h2, sv1]
        refine go 60 (by decide) ?_
        simp only [KX, KY, KZ, KW, KV, Nat.reduceAdd, Nat.reduceSub, Nat.reduceLeDiff, true_and, and_true, true_or, or_true, or_self, reduceCtorEq, if_true, if_false, not_false_eq_true, eq_self, c21, h1, h2, sv1]
        rw [e1, ← e2]
        exact At_le (ih (i + 1) (by omega)) ⟨rfl, rfl, rfl, rfl, rfl, rfl, trivial⟩
      · rw [e3] at e2 ⊢
        refine go 60 (by decide) ?_
        simp only [KX, KY, KZ, KW, KV, Nat.reduceAdd, Nat.reduceSub, Nat.reduceLeDiff, true_and, and_true, true_or, or_true, or_self, reduceCtorEq, if_true, if_false, not_false_eq_true, eq_self, c21, h1, h2, sv1]
        refine go 60 (by decide) ?_
        simp only [KX, KY, KZ, KW, KV, Nat.reduceAdd, Nat.reduceSub, Nat.reduceLeDiff, true_and, and_true, true_or, or_true, or_self, reduceCtorEq, if_true, if_false, not_false_eq_true, eq_self, c21, h1, h2, sv1]
        rw [e1, ← e2]
        exact At_le (ih (i + 1) (by omega)) ⟨rfl, rfl, rfl, rfl, rfl, rfl, trivial⟩
  refine go 60 (by decide) ?_
  simp only [KX, KY, KZ, KW, KV, Nat.reduceAdd, Nat.reduceSub, Nat.reduceLeDiff, true_and, and_true, true_or, or_true, or_self, reduceCtorEq, if_true, if_false, not_false_eq_true, eq_self, c21, h1, h2, sv1]
  exact lp 6 0 rfl
def fl_span (g : Nat → Int32) : Nat → Int32
  | 0 => 0
  | n + 1 => if g (ma_cell n) < 0 then fl_span g n else i_max (fl_span g n) (fl_ring n)
theorem s25 {h : ma_H} {Q : ma_Q} {a s rc : Nat} {mn : Int32} {g : Nat → Int32} (h1 : h.2.1 a = .inr (2, [.int mn, .ref s, .ref rc])) (h2 : h.2.1 s = .inl (.int, 169, .inl g)) (k : Q (some (.int (fl_span g 91))) h) : ma_X 25 [.ref a] h Q := by
  refine ma_enter (m := 25) (Or.inl (by decide)) (by show 1 ≤ mt_n 25; decide +kernel) ?_
  show At 25 Q 0 (0, 0) [some (.ref a), none, none, none, none, none] [] h
  have lp : ∀ n i, i + n = 91 → At 25 Q 9 (0, 0) [some (.ref a), some (.int (fl_span g i)), some (.retAddr 0), some (.int (nI 91)), some (.int (nI i)), none] [] h := by
    intro n
    induction n with
    | zero =>
      intro i e
      obtain rfl : i = 91 := by omega
      refine go 60 (by decide) ?_
      simp only [KX, KY, KZ, KW, KV, Nat.reduceAdd, Nat.reduceSub, Nat.reduceLeDiff, true_and, and_true, true_or, or_true, or_self, reduceCtorEq, if_true, if_false, not_false_eq_true, eq_self, c25, h1, h2]
      rw [if_neg (nI_nlt (Nat.le_refl _) (by decide))]
      exact k
    | succ n ih =>
      intro i e
      have hi : i < 91 := by omega
      refine go 60 (by decide) ?_
      simp only [KX, KY, KZ, KW, KV, Nat.reduceAdd, Nat.reduceSub, Nat.reduceLeDiff, true_and, and_true, true_or, or_true, or_self, reduceCtorEq, if_true, if_false, not_false_eq_true, eq_self, c25, h1, h2]
      rw [if_pos (nI_lt hi (by decide))]
      rw [nI_clamp (show i < 2 ^ 31 by omega)]
      refine ⟨nI_in hi (by decide), ?_⟩
      have e1 := nI_1 i
      refine s19c h1 h2 hi (fun q => ?_) fun q => ?_
      · have e2 : fl_span g (i + 1) = fl_span g i := by
          show (if g (ma_cell i) < 0 then _ else _) = _
          rw [if_pos q]
        refine go 60 (by decide) ?_
        simp only [KX, KY, KZ, KW, KV, Nat.reduceAdd, Nat.reduceSub, Nat.reduceLeDiff, true_and, and_true, true_or, or_true, or_self, reduceCtorEq, if_true, if_false, not_false_eq_true, eq_self, c25, h1, h2]
        rw [e1, ← e2]
        exact At_le (ih (i + 1) (by omega)) ⟨rfl, rfl, rfl, rfl, rfl, trivial⟩
      · have e2 : fl_span g (i + 1) = i_max (fl_span g i) (fl_ring i) := by
          show (if g (ma_cell i) < 0 then _ else _) = _
          rw [if_neg q]
        refine go 60 (by decide) ?_
        simp only [KX, KY, KZ, KW, KV, Nat.reduceAdd, Nat.reduceSub, Nat.reduceLeDiff, true_and, and_true, true_or, or_true, or_self, reduceCtorEq, if_true, if_false, not_false_eq_true, eq_self, c25, h1, h2]
        refine s12r ?_
        show At 25 Q 23 (0, 0) [some (.ref a), some (.int (fl_span g i)), some (.retAddr 0), some (.int (nI 91)), some (.int (nI i)), some (.int (nI (ma_cell i)))] [.int (fl_ring i), .int (fl_span g i)] h
        refine go 60 (by decide) ?_
        simp only [KX, KY, KZ, KW, KV, Nat.reduceAdd, Nat.reduceSub, Nat.reduceLeDiff, true_and, and_true, true_or, or_true, or_self, reduceCtorEq, if_true, if_false, not_false_eq_true, eq_self, c25, h1, h2]
        rw [e1]
        show At 25 Q 9 (0, 0) [some (.ref a), some (.int (i_max (fl_span g i) (fl_ring i))), some (.retAddr 0), some (.int (nI 91)), some (.int (nI (i + 1))), some (.int (nI (ma_cell i)))] [] h
        rw [← e2]
        exact At_le (ih (i + 1) (by omega)) ⟨rfl, rfl, rfl, rfl, rfl, trivial⟩
  refine go 60 (by decide) ?_
  simp only [KX, KY, KZ, KW, KV, Nat.reduceAdd, Nat.reduceSub, Nat.reduceLeDiff, true_and, and_true, true_or, or_true, or_self, reduceCtorEq, if_true, if_false, not_false_eq_true, eq_self, c25, h1, h2]
  exact lp 91 0 rfl
theorem s24 {h : ma_H} {Q : ma_Q} {a s rc : Nat} {mn : Int32} {g : Nat → Int32} (h1 : h.2.1 a = .inr (2, [.int mn, .ref s, .ref rc])) (h2 : h.2.1 s = .inl (.int, 169, .inl g)) {w : Int32} (k : Q (some (.int (su (fl_ringIce g w) 91))) h) : ma_X 24 [.ref a, .int w] h Q := by
  refine ma_enter (m := 24) (Or.inl (by decide)) (by show 2 ≤ mt_n 24; decide +kernel) ?_
  show At 24 Q 0 (0, 0) [some (.ref a), some (.int w), none, none, none, none, none] [] h
  have lp : ∀ n i, i + n = 91 → At 24 Q 9 (0, 0) [some (.ref a), some (.int w), some (.int (su (fl_ringIce g w) i)), some (.retAddr 0), some (.int (nI 91)), some (.int (nI i)), none] [] h := by
    intro n
    induction n with
    | zero =>
      intro i e
      obtain rfl : i = 91 := by omega
      refine go 60 (by decide) ?_
      simp only [KX, KY, KZ, KW, KV, Nat.reduceAdd, Nat.reduceSub, Nat.reduceLeDiff, true_and, and_true, true_or, or_true, or_self, reduceCtorEq, if_true, if_false, not_false_eq_true, eq_self, c24, h1, h2]
      rw [if_neg (nI_nlt (Nat.le_refl _) (by decide))]
      exact k
    | succ n ih =>
      intro i e
      have hi : i < 91 := by omega
      refine go 60 (by decide) ?_
      simp only [KX, KY, KZ, KW, KV, Nat.reduceAdd, Nat.reduceSub, Nat.reduceLeDiff, true_and, and_true, true_or, or_true, or_self, reduceCtorEq, if_true, if_false, not_false_eq_true, eq_self, c24, h1, h2]
      rw [if_pos (nI_lt hi (by decide))]
      rw [nI_clamp (show i < 2 ^ 31 by omega)]
      refine ⟨nI_in hi (by decide), ?_⟩
      have e1 := nI_1 i
      refine s12r ?_
      show At 24 Q 19 (0, 0) [some (.ref a), some (.int w), some (.int (su (fl_ringIce g w) i)), some (.retAddr 0), some (.int (nI 91)), some (.int (nI i)), some (.int (nI (ma_cell i)))] [.int (fl_ring i), .int (su (fl_ringIce g w) i)] h
      refine go 60 (by decide) ?_
      simp only [KX, KY, KZ, KW, KV, Nat.reduceAdd, Nat.reduceSub, Nat.reduceLeDiff, true_and, and_true, true_or, or_true, or_self, reduceCtorEq, if_true, if_false, not_false_eq_true, eq_self, c24, h1, h2]
      split
      · rename_i q1
        refine s19c h1 h2 hi (fun q => ?_) fun q => ?_
        · refine go 60 (by decide) ?_
          simp only [KX, KY, KZ, KW, KV, Nat.reduceAdd, Nat.reduceSub, Nat.reduceLeDiff, true_and, and_true, true_or, or_true, or_self, reduceCtorEq, if_true, if_false, not_false_eq_true, eq_self, c24, h1, h2]
          refine go 60 (by decide) ?_
          simp only [KX, KY, KZ, KW, KV, Nat.reduceAdd, Nat.reduceSub, Nat.reduceLeDiff, true_and, and_true, true_or, or_true, or_self, reduceCtorEq, if_true, if_false, not_false_eq_true, eq_self, c24, h1, h2]
          have e2 : su (fl_ringIce g w) (i + 1) = su (fl_ringIce g w) i + 0 := by
            show su (fl_ringIce g w) i + fl_ringIce g w i = _
            unfold fl_ringIce
            rw [if_pos q1, if_pos q]
          refine go 60 (by decide) ?_
          simp only [KX, KY, KZ, KW, KV, Nat.reduceAdd, Nat.reduceSub, Nat.reduceLeDiff, true_and, and_true, true_or, or_true, or_self, reduceCtorEq, if_true, if_false, not_false_eq_true, eq_self, c24, h1, h2]
          rw [e1, ← e2]
          exact At_le (ih (i + 1) (by omega)) ⟨rfl, rfl, rfl, rfl, rfl, rfl, trivial⟩
        · refine go 60 (by decide) ?_
          simp only [KX, KY, KZ, KW, KV, Nat.reduceAdd, Nat.reduceSub, Nat.reduceLeDiff, true_and, and_true, true_or, or_true, or_self, reduceCtorEq, if_true, if_false, not_false_eq_true, eq_self, c24, h1, h2]
          have e2 : su (fl_ringIce g w) (i + 1) = su (fl_ringIce g w) i + 1 := by
            show su (fl_ringIce g w) i + fl_ringIce g w i = _
            unfold fl_ringIce
            rw [if_pos q1, if_neg q]
          refine go 60 (by decide) ?_
          simp only [KX, KY, KZ, KW, KV, Nat.reduceAdd, Nat.reduceSub, Nat.reduceLeDiff, true_and, and_true, true_or, or_true, or_self, reduceCtorEq, if_true, if_false, not_false_eq_true, eq_self, c24, h1, h2]
          rw [e1, ← e2]
          exact At_le (ih (i + 1) (by omega)) ⟨rfl, rfl, rfl, rfl, rfl, rfl, trivial⟩
      · rename_i q1
        refine go 60 (by decide) ?_
        simp only [KX, KY, KZ, KW, KV, Nat.reduceAdd, Nat.reduceSub, Nat.reduceLeDiff, true_and, and_true, true_or, or_true, or_self, reduceCtorEq, if_true, if_false, not_false_eq_true, eq_self, c24, h1, h2]
        have e2 : su (fl_ringIce g w) (i + 1) = su (fl_ringIce g w) i + 0 := by
          show su (fl_ringIce g w) i + fl_ringIce g w i = _
          unfold fl_ringIce
          rw [if_neg q1]
        refine go 60 (by decide) ?_
        simp only [KX, KY, KZ, KW, KV, Nat.reduceAdd, Nat.reduceSub, Nat.reduceLeDiff, true_and, and_true, true_or, or_true, or_self, reduceCtorEq, if_true, if_false, not_false_eq_true, eq_self, c24, h1, h2]
        rw [e1, ← e2]
        exact At_le (ih (i + 1) (by omega)) ⟨rfl, rfl, rfl, rfl, rfl, rfl, trivial⟩
  refine go 60 (by decide) ?_
  simp only [KX, KY, KZ, KW, KV, Nat.reduceAdd, Nat.reduceSub, Nat.reduceLeDiff, true_and, and_true, true_or, or_true, or_self, reduceCtorEq, if_true, if_false, not_false_eq_true, eq_self, c24, h1, h2]
  exact lp 91 0 rfl
