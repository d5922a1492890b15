/-! FLAKE: what its methods come to-/
def fl_in (q r : Int32) : Prop := ¬ q < -5 ∧ q ≤ 5 ∧ ¬ r < -5 ∧ r ≤ 5 ∧ ¬ q + r < -5 ∧ q + r ≤ 5
theorem s9 {h : ma_H} {Q : ma_Q} {q r : Int32} (k1 : fl_in q r → Q (some (.int ((r + 6) * 13 + q + 6))) h) (k2 : ¬ fl_in q r → Q (some (.int (-1))) h) : ma_X 9 [.int q, .int r] h Q := by
  refine ma_enter (m := 9) (Or.inl (by decide)) (by show 2 ≤ mt_n 9; decide +kernel) ?_
  show At 9 Q 0 (0, 0) [some (.int q), some (.int r), none] [] h
  refine go 60 (by decide) ?_
  simp only [KX, KY, KZ, KW, KV, Nat.reduceAdd, Nat.reduceSub, Nat.reduceLeDiff, true_and, and_true, true_or, or_true, or_self, reduceCtorEq, if_true, if_false, not_false_eq_true, eq_self, c9]
  repeat' split
  all_goals (refine go 60 (by decide) ?_; simp only [KX, KY, KZ, KW, KV, Nat.reduceAdd, Nat.reduceSub, Nat.reduceLeDiff, true_and, and_true, true_or, or_true, or_self, reduceCtorEq, if_true, if_false, not_false_eq_true, eq_self, c9])
  all_goals try repeat' split
  all_goals first
    | exact k1 ⟨by assumption, by assumption, by assumption, by assumption, by assumption, by assumption⟩
    | exact k2 (fun z => by obtain ⟨z1, z2, z3, z4, z5, z6⟩ := z; contradiction)
theorem s10 {h : ma_H} {Q : ma_Q} {x : Int32} (k : Q (some (.int (x - x / 13 * 13 - 6))) h) : ma_X 10 [.int x] h Q := by
  refine ma_enter (m := 10) (Or.inl (by decide)) (by show 1 ≤ mt_n 10; decide +kernel) ?_
  show At 10 Q 0 (0, 0) [some (.int x)] [] h
  refine go 60 (by decide) ?_
  simp only [KX, KY, KZ, KW, KV, Nat.reduceAdd, Nat.reduceSub, Nat.reduceLeDiff, true_and, and_true, true_or, or_true, or_self, reduceCtorEq, if_true, if_false, not_false_eq_true, eq_self, c10]
  exact k
theorem s11 {h : ma_H} {Q : ma_Q} {x : Int32} (k : Q (some (.int (x / 13 - 6))) h) : ma_X 11 [.int x] h Q := by
  refine ma_enter (m := 11) (Or.inl (by decide)) (by show 1 ≤ mt_n 11; decide +kernel) ?_
  show At 11 Q 0 (0, 0) [some (.int x)] [] h
  refine go 60 (by decide) ?_
  simp only [KX, KY, KZ, KW, KV, Nat.reduceAdd, Nat.reduceSub, Nat.reduceLeDiff, true_and, and_true, true_or, or_true, or_self, reduceCtorEq, if_true, if_false, not_false_eq_true, eq_self, c11]
  exact k
def i_abs (x : Int32) : Int32 := if 0 ≤ x then x else -x
def i_max (x y : Int32) : Int32 := if x < y then y else x
theorem s13 {h : ma_H} {Q : ma_Q} {x y : Int32} (k : Q (some (.int (i_max (i_max (i_abs x) (i_abs y)) (i_abs (x + y))))) h) : ma_X 13 [.int x, .int y] h Q := by
  refine ma_enter (m := 13) (Or.inl (by decide)) (by show 2 ≤ mt_n 13; decide +kernel) ?_
  show At 13 Q 0 (0, 0) [some (.int x), some (.int y)] [] h
  refine go 60 (by decide) ?_
  simp only [KX, KY, KZ, KW, KV, Nat.reduceAdd, Nat.reduceSub, Nat.reduceLeDiff, true_and, and_true, true_or, or_true, or_self, reduceCtorEq, if_true, if_false, not_false_eq_true, eq_self, c13]
  exact k
theorem s12 {h : ma_H} {Q : ma_Q} {x : Int32} (k : Q (some (.int (i_max (i_max (i_abs (x - x / 13 * 13 - 6)) (i_abs (x / 13 - 6))) (i_abs (x - x / 13 * 13 - 6 + (x / 13 - 6)))))) h) : ma_X 12 [.int x] h Q := by
  refine ma_enter (m := 12) (Or.inl (by decide)) (by show 1 ≤ mt_n 12; decide +kernel) ?_
  show At 12 Q 0 (0, 0) [some (.int x)] [] h
  refine go 60 (by decide) ?_
  simp only [KX, KY, KZ, KW, KV, Nat.reduceAdd, Nat.reduceSub, Nat.reduceLeDiff, true_and, and_true, true_or, or_true, or_self, reduceCtorEq, if_true, if_false, not_false_eq_true, eq_self, c12]
  refine s10 ?_
  refine go 60 (by decide) ?_
  simp only [KX, KY, KZ, KW, KV, Nat.reduceAdd, Nat.reduceSub, Nat.reduceLeDiff, true_and, and_true, true_or, or_true, or_self, reduceCtorEq, if_true, if_false, not_false_eq_true, eq_self, c12]
  refine s11 ?_
  refine go 60 (by decide) ?_
  simp only [KX, KY, KZ, KW, KV, Nat.reduceAdd, Nat.reduceSub, Nat.reduceLeDiff, true_and, and_true, true_or, or_true, or_self, reduceCtorEq, if_true, if_false, not_false_eq_true, eq_self, c12]
  refine s13 ?_
  refine go 60 (by decide) ?_
  simp only [KX, KY, KZ, KW, KV, Nat.reduceAdd, Nat.reduceSub, Nat.reduceLeDiff, true_and, and_true, true_or, or_true, or_self, reduceCtorEq, if_true, if_false, not_false_eq_true, eq_self, c12]
  exact k
def in_c (x : Int32) : Prop := ¬ x < 0 ∧ x < 169
theorem in_vp {x : Int32} {n : Nat} (hn : n < 2 ^ 31) (a : ¬ x < 0) (b : x < nI n) : vp_in x n := by
  obtain ⟨j, hj, rfl⟩ := nI_of a
  rintro (q | q)
  · exact a q
  · rw [nI_clamp hj] at q
    exact absurd ((nI_ltI hj hn).mp b) (by omega)
theorem s18 {h : ma_H} {Q : ma_Q} {a s rc : Nat} {mn : Int32} {g : Nat → Int32} (h1 : h.2.1 a = .inr (2, [.int mn, .ref s, .ref rc])) (h2 : h.2.1 s = .inl (.int, 169, .inl g)) {x : Int32} (k : Q (some (.int (if x < 0 then -2 else if x < nI 169 then g x.toNatClampNeg else -2))) h) : ma_X 18 [.ref a, .int x] h Q := by
  refine ma_enter (m := 18) (Or.inl (by decide)) (by show 2 ≤ mt_n 18; decide +kernel) ?_
  show At 18 Q 0 (0, 0) [some (.ref a), some (.int x)] [] h
  refine go 60 (by decide) ?_
  simp only [KX, KY, KZ, KW, KV, Nat.reduceAdd, Nat.reduceSub, Nat.reduceLeDiff, true_and, and_true, true_or, or_true, or_self, reduceCtorEq, if_true, if_false, not_false_eq_true, eq_self, c18, h1, h2]
  repeat' split
  all_goals try (refine ⟨in_vp (by decide) (by assumption) (by assumption), ?_⟩; repeat' split)
  all_goals simpa [*] using k
theorem s19 {h : ma_H} {Q : ma_Q} {a s rc : Nat} {mn : Int32} {g : Nat → Int32} (h1 : h.2.1 a = .inr (2, [.int mn, .ref s, .ref rc])) (h2 : h.2.1 s = .inl (.int, 169, .inl g)) {x : Int32} (k : Q (some (.int (if x < 0 then 0 else if x < nI 169 then if g x.toNatClampNeg < 0 then 0 else 1 else 0))) h) : ma_X 19 [.ref a, .int x] h Q := by
  refine ma_enter (m := 19) (Or.inl (by decide)) (by show 2 ≤ mt_n 19; decide +kernel) ?_
  show At 19 Q 0 (0, 0) [some (.ref a), some (.int x)] [] h
  refine go 60 (by decide) ?_
  simp only [KX, KY, KZ, KW, KV, Nat.reduceAdd, Nat.reduceSub, Nat.reduceLeDiff, true_and, and_true, true_or, or_true, or_self, reduceCtorEq, if_true, if_false, not_false_eq_true, eq_self, c19, h1, h2]
  repeat' split
  all_goals try (refine ⟨in_vp (by decide) (by assumption) (by assumption), ?_⟩; repeat' split)
  all_goals simpa [*] using k
/-- less said of the locals -/
def me_le : ma_L → ma_L → Prop
  | [], _ => True
  | none :: r, _ :: q => me_le r q
  | some v :: r, w :: q => w = some v ∧ me_le r q
  | _ :: _, [] => False
theorem me_le_at : ∀ (L' L : ma_L), me_le L' L → ∀ (i : Nat) (v : Value), L'[i]? = some (some v) → L[i]? = some (some v)
  | [], _, _, i, v, e => by cases e
  | none :: r, _ :: q, h, 0, v, e => by cases e
  | none :: r, _ :: q, h, i + 1, v, e => by
    rw [List.getElem?_cons_succ] at e ⊢
    exact me_le_at r q h i v e
  | some v' :: r, w :: q, h, 0, v, e => by
    rw [List.getElem?_cons_zero] at e ⊢
    rw [h.1]
    exact e
  | some v' :: r, w :: q, h, i + 1, v, e => by
    rw [List.getElem?_cons_succ] at e ⊢
    exact me_le_at r q h.2 i v e
theorem At_le {m k : Nat} {Q : ma_Q} {b : Nat × Nat} {L' L : ma_L} {st : List Value} {h : ma_H} (kk : At m Q k b L' st h) (hw : me_le L' L) : At m Q k b L st h := At_sub (me_le_at L' L hw) kk
def su (f : Nat → Int32) : Nat → Int32
  | 0 => 0
  | n + 1 => su f n + f n
theorem cell_lt : ∀ i, i < 91 → ma_cell i < 169 ∧ 13 < ma_cell i := by decide +kernel
/-- ICE on CELL i -/
def fl_ice (g : Nat → Int32) (i : Nat) : Int32 := if g (ma_cell i) < 0 then 0 else 1
theorem s19c {h : ma_H} {Q : ma_Q} {a s rc : Nat} {mn : Int32} {g : Nat → Int32} (h1 : h.2.1 a = .inr (2, [.int mn, .ref s, .ref rc])) (h2 : h.2.1 s = .inl (.int, 169, .inl g)) {i : Nat} (hi : i < 91) (k0 : g (ma_cell i) < 0 → Q (some (.int 0)) h) (k1 : ¬ g (ma_cell i) < 0 → Q (some (.int 1)) h) : ma_X 19 [.ref a, .int (nI (ma_cell i))] h Q := by
  have hc := (cell_lt i hi).1
  refine s19 h1 h2 ?_
  rw [if_neg (nI_pos (by omega)), if_pos (nI_lt hc (by decide)), nI_clamp (by omega)]
  by_cases e : g (ma_cell i) < 0
  · rw [if_pos e]; exact k0 e
  · rw [if_neg e]; exact k1 e
theorem s22 {h : ma_H} {Q : ma_Q} {a s rc : Nat} {mn : Int32} {g : Nat → Int32} (h1 : h.2.1 a = .inr (2, [.int mn, .ref s, .ref rc])) (h2 : h.2.1 s = .inl (.int, 169, .inl g)) (k : Q (some (.int (su (fl_ice g) 91))) h) : ma_X 22 [.ref a] h Q := by
  refine ma_enter (m := 22) (Or.inl (by decide)) (by show 1 ≤ mt_n 22; decide +kernel) ?_
  show At 22 Q 0 (0, 0) [some (.ref a), none, none, none, none, none] [] h
  have lp : ∀ n i, i + n = 91 → At 22 Q 9 (0, 0) [some (.ref a), some (.int (su (fl_ice g) i)), some (.retAddr 0), some (.int (nI 91)), some (.int (nI i)), none] [] h := by
    intro n
    induction n with
    | zero =>
      intro i e
      obtain rfl : i = 91 := by omega
      refine go 60 (by decide) ?_
      simp only [KX, KY, KZ, KW, KV, Nat.reduceAdd, Nat.reduceSub, Nat.reduceLeDiff, true_and, and_true, true_or, or_true, or_self, reduceCtorEq, if_true, if_false, not_false_eq_true, eq_self, c22, h1, h2]
      rw [if_neg (nI_nlt (Nat.le_refl _) (by decide))]
      exact k
    | succ n ih =>
      intro i e
      refine go 60 (by decide) ?_
      simp only [KX, KY, KZ, KW, KV, Nat.reduceAdd, Nat.reduceSub, Nat.reduceLeDiff, true_and, and_true, true_or, or_true, or_self, reduceCtorEq, if_true, if_false, not_false_eq_true, eq_self, c22, h1, h2]
      rw [if_pos (nI_lt (show i < 91 by omega) (by decide))]
      rw [nI_clamp (show i < 2 ^ 31 by omega)]
      refine ⟨nI_in (by omega) (by decide), ?_⟩
      have e1 := nI_1 i
      refine s19c h1 h2 (show i < 91 by omega) (fun q => ?_) fun q => ?_
      · have e2 : su (fl_ice g) (i + 1) = su (fl_ice g) i + 0 := by
          show su (fl_ice g) i + fl_ice g i = _
          unfold fl_ice
          rw [if_pos q]
        refine go 60 (by decide) ?_
        simp only [KX, KY, KZ, KW, KV, Nat.reduceAdd, Nat.reduceSub, Nat.reduceLeDiff, true_and, and_true, true_or, or_true, or_self, reduceCtorEq, if_true, if_false, not_false_eq_true, eq_self, c22, h1, h2]
        refine go 60 (by decide) ?_
        simp only [KX, KY, KZ, KW, KV, Nat.reduceAdd, Nat.reduceSub, Nat.reduceLeDiff, true_and, and_true, true_or, or_true, or_self, reduceCtorEq, if_true, if_false, not_false_eq_true, eq_self, c22, h1, h2]
        rw [e1, ← e2]
        exact At_le (ih (i + 1) (by omega)) ⟨rfl, rfl, rfl, rfl, rfl, trivial⟩
      · have e2 : su (fl_ice g) (i + 1) = su (fl_ice g) i + 1 := by
          show su (fl_ice g) i + fl_ice g i = _
          unfold fl_ice
          rw [if_neg q]
        refine go 60 (by decide) ?_
        simp only [KX, KY, KZ, KW, KV, Nat.reduceAdd, Nat.reduceSub, Nat.reduceLeDiff, true_and, and_true, true_or, or_true, or_self, reduceCtorEq, if_true, if_false, not_false_eq_true, eq_self, c22, h1, h2]
        refine go 60 (by decide) ?_
        simp only [KX, KY, KZ, KW, KV, Nat.reduceAdd, Nat.reduceSub, Nat.reduceLeDiff, true_and, and_true, true_or, or_true, or_self, reduceCtorEq, if_true, if_false, not_false_eq_true, eq_self, c22, h1, h2]
        rw [e1, ← e2]
        exact At_le (ih (i + 1) (by omega)) ⟨rfl, rfl, rfl, rfl, rfl, trivial⟩
  refine go 60 (by decide) ?_
  simp only [KX, KY, KZ, KW, KV, Nat.reduceAdd, Nat.reduceSub, Nat.reduceLeDiff, true_and, and_true, true_or, or_true, or_self, reduceCtorEq, if_true, if_false, not_false_eq_true, eq_self, c22, h1, h2]
  exact lp 91 0 rfl
