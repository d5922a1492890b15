/-! FLAKE: the edge, images, joins -/
def fl_bare (g : Nat → Int32) (p : Nat) : Int32 := if g p = -1 then 1 else 0
theorem fl_bare01 (g : Nat → Int32) (p : Nat) : fl_bare g p = 0 ∨ fl_bare g p = 1 := by
  unfold fl_bare
  split
  · exact Or.inr rfl
  · exact Or.inl rfl
/-- a sum that begins at A -/
def su2 (A : Int32) (f : Nat → Int32) : Nat → Int32
  | 0 => A
  | n + 1 => su2 A f n + f n
def fl_edge (g : Nat → Int32) : Nat → Int32
  | 0 => 0
  | n + 1 => if g (ma_cell n) < 0 then fl_edge g n else su2 (fl_edge g n) (fun j => fl_bare g (fl_nb n j)) 6
theorem s27n {h : ma_H} {Q : ma_Q} {a s rc : Nat} {mn : Int32} {g : Nat → Int32} (h1 : h.2.1 a = .inr (2, [.int mn, .ref s, .ref rc])) (h2 : h.2.1 s = .inl (.int, 169, .inl g)) {p : Nat} (hp : p < 169) (k : Q (some (.int (fl_bare g p))) h) : ma_X 27 [.ref a, .int (nI p)] h Q := by
  refine s27 h1 h2 ?_
  rw [if_neg (nI_pos (by omega)), if_pos (nI_lt hp (by decide)), nI_clamp (by omega)]
  exact k
theorem s26 {h : ma_H} {Q : ma_Q} {a s rc : Nat} {mn : Int32} {g : Nat → Int32} (h1 : h.2.1 a = .inr (2, [.int mn, .ref s, .ref rc])) (h2 : h.2.1 s = .inl (.int, 169, .inl g)) (k : Q (some (.int (fl_edge g 91))) h) : ma_X 26 [.ref a] h Q := by
  refine ma_enter (m := 26) (Or.inl (by decide)) (by show 1 ≤ mt_n 26; decide +kernel) ?_
  show At 26 Q 0 (0, 0) [some (.ref a), none, none, none, none, none, none, none, none, none] [] h
  have lp : ∀ n i, i + n = 91 → At 26 Q 9 (0, 0) [some (.ref a), some (.int (fl_edge g i)), some (.retAddr 0), some (.int (nI 91)), some (.int (nI i)), none, none, none, none, none] [] h := by
    intro n
    induction n with
    | zero =>
      intro i e
      obtain rfl : i = 91 := by omega
      refine go 60 (by decide) ?_
      simp only [KX, KY, KZ, KW, KV, Nat.reduceAdd, Nat.reduceSub, Nat.reduceLeDiff, true_and, and_true, true_or, or_true, or_self, reduceCtorEq, if_true, if_false, not_false_eq_true, eq_self, c26, h1, h2, sv1]
      rw [if_neg (nI_nlt (Nat.le_refl _) (by decide))]
      exact k
    | succ n ih =>
      intro i e
      have hi : i < 91 := by omega
      refine go 60 (by decide) ?_
      simp only [KX, KY, KZ, KW, KV, Nat.reduceAdd, Nat.reduceSub, Nat.reduceLeDiff, true_and, and_true, true_or, or_true, or_self, reduceCtorEq, if_true, if_false, not_false_eq_true, eq_self, c26, h1, h2, sv1]
      rw [if_pos (nI_lt hi (by decide))]
      rw [nI_clamp (show i < 2 ^ 31 by omega)]
      refine ⟨nI_in hi (by decide), ?_⟩
      have e1 := nI_1 i
      refine s19c h1 h2 hi (fun q => ?_) fun q => ?_
      · have e2 : fl_edge g (i + 1) = fl_edge g i := by
          show (if g (ma_cell i) < 0 then _ else _) = _
          rw [if_pos q]
        refine go 60 (by decide) ?_
        simp only [KX, KY, KZ, KW, KV, Nat.reduceAdd, Nat.reduceSub, Nat.reduceLeDiff, true_and, and_true, true_or, or_true, or_self, reduceCtorEq, if_true, if_false, not_false_eq_true, eq_self, c26, h1, h2, sv1]
        rw [e1, ← e2]
        exact At_le (ih (i + 1) (by omega)) ⟨rfl, rfl, rfl, rfl, rfl, trivial⟩
      · have e2 : fl_edge g (i + 1) = su2 (fl_edge g i) (fun j => fl_bare g (fl_nb i j)) 6 := by
          show (if g (ma_cell i) < 0 then _ else _) = _
          rw [if_neg q]
        have lq : ∀ nj j, j + nj = 6 → At 26 Q 27 (0, 0) [some (.ref a), some (.int (su2 (fl_edge g i) (fun j => fl_bare g (fl_nb i j)) j)), some (.retAddr 0), some (.int (nI 91)), some (.int (nI i)), some (.int (nI (ma_cell i))), some (.retAddr 1), some (.int (nI 6)), some (.int (nI j)), none] [] h := by
          intro nj
          induction nj with
          | zero =>
            intro j ej
            obtain rfl : j = 6 := by omega
            refine go 60 (by decide) ?_
            simp only [KX, KY, KZ, KW, KV, Nat.reduceAdd, Nat.reduceSub, Nat.reduceLeDiff, true_and, and_true, true_or, or_true, or_self, reduceCtorEq, if_true, if_false, not_false_eq_true, eq_self, c26, h1, h2, sv1]
            rw [if_neg (nI_nlt (Nat.le_refl _) (by decide))]
            rw [e1, ← e2]
            exact At_le (ih (i + 1) (by omega)) ⟨rfl, rfl, rfl, rfl, rfl, trivial⟩
          | succ nj jh =>
            intro j ej
            have hj : j < 6 := by omega
            refine go 60 (by decide) ?_
            simp only [KX, KY, KZ, KW, KV, Nat.reduceAdd, Nat.reduceSub, Nat.reduceLeDiff, true_and, and_true, true_or, or_true, or_self, reduceCtorEq, if_true, if_false, not_false_eq_true, eq_self, c26, h1, h2, sv1]
            rw [if_pos (nI_lt hj (by decide))]
            rw [nI_clamp (show j < 2 ^ 31 by omega)]
            refine ⟨nI_in hj (by decide), ?_⟩
            have f1 := nI_1 j
            rw [(fl_nb_ok i hi j hj).1]
            refine s27n h1 h2 (fl_nb_ok i hi j hj).2 ?_
            have f2 : su2 (fl_edge g i) (fun j => fl_bare g (fl_nb i j)) (j + 1) = su2 (fl_edge g i) (fun j => fl_bare g (fl_nb i j)) j + fl_bare g (fl_nb i j) := rfl
            rcases fl_bare01 g (fl_nb i j) with f3 | f3
            · rw [f3] at f2 ⊢
              refine go 60 (by decide) ?_
              simp only [KX, KY, KZ, KW, KV, Nat.reduceAdd, Nat.reduceSub, Nat.reduceLeDiff, true_and, and_true, true_or, or_true, or_self, reduceCtorEq, if_true, if_false, not_false_eq_true, eq_self, c26, h1, h2, sv1]
              refine go 60 (by decide) ?_
              simp only [KX, KY, KZ, KW, KV, Nat.reduceAdd, Nat.reduceSub, Nat.reduceLeDiff, true_and, and_true, true_or, or_true, or_self, reduceCtorEq, if_true, if_false, not_false_eq_true, eq_self, c26, h1, h2, sv1]
              rw [f1, ← f2]
              exact At_le (jh (j + 1) (by omega)) ⟨rfl, rfl, rfl, rfl, rfl, rfl, rfl, rfl, rfl, trivial⟩
            · rw [f3] at f2 ⊢
              refine go 60 (by decide) ?_
              simp only [KX, KY, KZ, KW, KV, Nat.reduceAdd, Nat.reduceSub, Nat.reduceLeDiff, true_and, and_true, true_or, or_true, or_self, reduceCtorEq, if_true, if_false, not_false_eq_true, eq_self, c26, h1, h2, sv1]
              refine go 60 (by decide) ?_
              simp only [KX, KY, KZ, KW, KV, Nat.reduceAdd, Nat.reduceSub, Nat.reduceLeDiff, true_and, and_true, true_or, or_true, or_self, reduceCtorEq, if_true, if_false, not_false_eq_true, eq_self, c26, h1, h2, sv1]
              rw [f1, ← f2]
              exact At_le (jh (j + 1) (by omega)) ⟨rfl, rfl, rfl, rfl, rfl, rfl, rfl, rfl, rfl, trivial⟩
        refine go 60 (by decide) ?_
        simp only [KX, KY, KZ, KW, KV, Nat.reduceAdd, Nat.reduceSub, Nat.reduceLeDiff, true_and, and_true, true_or, or_true, or_self, reduceCtorEq, if_true, if_false, not_false_eq_true, eq_self, c26, h1, h2, sv1]
        exact lq 6 0 rfl
  refine go 60 (by decide) ?_
  simp only [KX, KY, KZ, KW, KV, Nat.reduceAdd, Nat.reduceSub, Nat.reduceLeDiff, true_and, and_true, true_or, or_true, or_self, reduceCtorEq, if_true, if_false, not_false_eq_true, eq_self, c26, h1, h2, sv1]
  exact lp 91 0 rfl
/-- one turn, n times -/
def i_turn : Nat → Int32 × Int32 → Int32 × Int32
  | 0, x => x
  | n + 1, x => (0 - (i_turn n x).2, (i_turn n x).1 + (i_turn n x).2)
def i_place (x : Int32 × Int32) : Int32 := if -5 ≤ x.1 ∧ x.1 ≤ 5 ∧ -5 ≤ x.2 ∧ x.2 ≤ 5 ∧ -5 ≤ x.1 + x.2 ∧ x.1 + x.2 ≤ 5 then (x.2 + 6) * 13 + x.1 + 6 else -1
def i_image (x : Int32) (t : Nat) (mi : Int32) : Int32 := i_place (i_turn t (if mi = 0 then (x - x / 13 * 13 - 6, x / 13 - 6) else (x / 13 - 6, x - x / 13 * 13 - 6)))
theorem s9p {h : ma_H} {Q : ma_Q} {q r : Int32} (k : Q (some (.int (i_place (q, r)))) h) : ma_X 9 [.int q, .int r] h Q := by
  refine s9 (fun z => ?_) (fun z => ?_)
  · rw [show i_place (q, r) = (r + 6) * 13 + q + 6 from if_pos ⟨Int32.not_lt.mp z.1, z.2.1, Int32.not_lt.mp z.2.2.1, z.2.2.2.1, Int32.not_lt.mp z.2.2.2.2.1, z.2.2.2.2.2⟩] at k
    exact k
  · rw [show i_place (q, r) = -1 from if_neg (fun y => z ⟨Int32.not_lt.mpr y.1, y.2.1, Int32.not_lt.mpr y.2.2.1, y.2.2.2.1, Int32.not_lt.mpr y.2.2.2.2.1, y.2.2.2.2.2⟩)] at k
    exact k
theorem s14 {h : ma_H} {Q : ma_Q} {x mi : Int32} {t : Nat} (ht : t < 100) (k : Q (some (.int (i_image x t mi))) h) : ma_X 14 [.int x, .int (nI t), .int mi] h Q := by
  have lp : ∀ z : Int32 × Int32, Q (some (.int (i_place (i_turn t z)))) h → ∀ n i, i + n = t → At 14 Q 18 (0, 0) [some (.int x), some (.int (nI t)), some (.int mi), some (.int (i_turn i z).1), some (.int (i_turn i z).2), some (.int (nI i)), none] [] h := by
    intro z kz n
    induction n with
    | zero =>
      intro i e
      obtain rfl : i = t := by omega
      refine go 60 (by decide) ?_
      simp only [KX, KY, KZ, KW, KV, Nat.reduceAdd, Nat.reduceSub, Nat.reduceLeDiff, true_and, and_true, true_or, or_true, or_self, reduceCtorEq, if_true, if_false, not_false_eq_true, eq_self, c14]
      rw [if_neg (nI_nlt (Nat.le_refl _) (by omega))]
      refine s9p ?_
      refine go 60 (by decide) ?_
      simp only [KX, KY, KZ, KW, KV, Nat.reduceAdd, Nat.reduceSub, Nat.reduceLeDiff, true_and, and_true, true_or, or_true, or_self, reduceCtorEq, if_true, if_false, not_false_eq_true, eq_self, c14]
      exact kz
    | succ n ih =>
      intro i e
      refine go 60 (by decide) ?_
      simp only [KX, KY, KZ, KW, KV, Nat.reduceAdd, Nat.reduceSub, Nat.reduceLeDiff, true_and, and_true, true_or, or_true, or_self, reduceCtorEq, if_true, if_false, not_false_eq_true, eq_self, c14]
      rw [if_pos (nI_lt (show i < t by omega) (by omega)), nI_1 i]
      exact At_le (ih (i + 1) (by omega)) ⟨rfl, rfl, rfl, rfl, rfl, rfl, trivial⟩
  refine ma_enter (m := 14) (Or.inl (by decide)) (by show 3 ≤ mt_n 14; decide +kernel) ?_
  show At 14 Q 0 (0, 0) [some (.int x), some (.int (nI t)), some (.int mi), none, none, none, none] [] h
  refine go 60 (by decide) ?_
  simp only [KX, KY, KZ, KW, KV, Nat.reduceAdd, Nat.reduceSub, Nat.reduceLeDiff, true_and, and_true, true_or, or_true, or_self, reduceCtorEq, if_true, if_false, not_false_eq_true, eq_self, c14]
  by_cases q : mi = 0
  · have e : i_image x t mi = i_place (i_turn t (x - x / 13 * 13 - 6, x / 13 - 6)) := by
      unfold i_image
      rw [if_pos q]
    rw [e] at k
    subst q
    simp only [if_true]
    refine s10 ?_
    refine go 60 (by decide) ?_
    simp only [KX, KY, KZ, KW, KV, Nat.reduceAdd, Nat.reduceSub, Nat.reduceLeDiff, true_and, and_true, true_or, or_true, or_self, reduceCtorEq, if_true, if_false, not_false_eq_true, eq_self, c14]
    refine s11 ?_
    refine go 60 (by decide) ?_
    simp only [KX, KY, KZ, KW, KV, Nat.reduceAdd, Nat.reduceSub, Nat.reduceLeDiff, true_and, and_true, true_or, or_true, or_self, reduceCtorEq, if_true, if_false, not_false_eq_true, eq_self, c14]
    exact lp _ k t 0 (by omega)
  · have e : i_image x t mi = i_place (i_turn t (x / 13 - 6, x - x / 13 * 13 - 6)) := by
      unfold i_image
      rw [if_neg q]
    rw [e] at k
    rw [if_neg q]
    refine s11 ?_
    refine go 60 (by decide) ?_
    simp only [KX, KY, KZ, KW, KV, Nat.reduceAdd, Nat.reduceSub, Nat.reduceLeDiff, true_and, and_true, true_or, or_true, or_self, reduceCtorEq, if_true, if_false, not_false_eq_true, eq_self, c14]
    refine go 60 (by decide) ?_
    simp only [KX, KY, KZ, KW, KV, Nat.reduceAdd, Nat.reduceSub, Nat.reduceLeDiff, true_and, and_true, true_or, or_true, or_self, reduceCtorEq, if_true, if_false, not_false_eq_true, eq_self, c14]
    rw [if_neg q]
    refine s10 ?_
    refine go 60 (by decide) ?_
    simp only [KX, KY, KZ, KW, KV, Nat.reduceAdd, Nat.reduceSub, Nat.reduceLeDiff, true_and, and_true, true_or, or_true, or_self, reduceCtorEq, if_true, if_false, not_false_eq_true, eq_self, c14]
    refine go 60 (by decide) ?_
    simp only [KX, KY, KZ, KW, KV, Nat.reduceAdd, Nat.reduceSub, Nat.reduceLeDiff, true_and, and_true, true_or, or_true, or_self, reduceCtorEq, if_true, if_false, not_false_eq_true, eq_self, c14]
    exact lp _ k t 0 (by omega)
