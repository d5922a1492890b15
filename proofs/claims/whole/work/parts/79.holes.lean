/-! holes: what is open; isOpen, holes of a FLAKE -/
/-- how many of the first n are not 0 -/
def hcn (f : Nat → Int32) : Nat → Nat
  | 0 => 0
  | n + 1 => hcn f n + if f n = 0 then 0 else 1
theorem hcn_le (f : Nat → Int32) : ∀ n, hcn f n ≤ n
  | 0 => Nat.le_refl _
  | n + 1 => by
    show hcn f n + (if f n = 0 then 0 else 1) ≤ n + 1
    have := hcn_le f n
    split <;> omega
theorem hcn_congr {f f2 : Nat → Int32} : ∀ n, (∀ i, i < n → f2 i = f i) → hcn f2 n = hcn f n
  | 0, _ => rfl
  | n + 1, e => by
    show hcn f2 n + (if f2 n = 0 then 0 else 1) = hcn f n + (if f n = 0 then 0 else 1)
    rw [hcn_congr n (fun i hi => e i (by omega)), e n (by omega)]
theorem hcn_up {f f2 : Nat → Int32} {i : Nat} : ∀ n, i < n → (∀ j, j < n → j ≠ i → f2 j = f j) → f i = 0 → f2 i ≠ 0 → hcn f2 n = hcn f n + 1
  | n + 1, hi, e, a, b => by
    show hcn f2 n + (if f2 n = 0 then 0 else 1) = hcn f n + (if f n = 0 then 0 else 1) + 1
    by_cases c : i = n
    · subst c
      rw [hcn_congr i (fun j hj => e j (by omega) (by omega)), if_neg b, if_pos a]
    · rw [hcn_up n (by omega) (fun j hj w => e j (by omega) w) a b, e n (by omega) (fun w => c w.symm)]
      omega
theorem su_dn {f f2 : Nat → Int32} {i : Nat} : ∀ n, i < n → (∀ j, j < n → j ≠ i → f2 j = f j) → f i = 1 → f2 i = 0 → su f2 n = su f n + -1
  | n + 1, hi, e, a, b => by
    show su f2 n + f2 n = su f n + f n + -1
    by_cases c : i = n
    · subst c
      rw [su_congr i (fun j hj => e j (by omega) (by omega)), a, b, Int32.add_assoc, show (1 : Int32) + -1 = 0 from by decide]
    · rw [su_dn n (by omega) (fun j hj w => e j (by omega) w) a b, e n (by omega) (fun w => c w.symm), Int32.add_assoc, Int32.add_comm (-1) (f n), ← Int32.add_assoc]
theorem i_4 (a b c d : Int32) : a + b + (c + d) = a + c + (b + d) := by
  rw [Int32.add_assoc, ← Int32.add_assoc b c d, Int32.add_comm b c, Int32.add_assoc c b d, ← Int32.add_assoc a c]
theorem su_cpl {f f2 : Nat → Int32} : ∀ n, (∀ i, i < n → f i + f2 i = 1) → su f n + su f2 n = nI n
  | 0, _ => by
    show (0 : Int32) + 0 = nI 0
    decide
  | n + 1, e => by
    show su f n + f n + (su f2 n + f2 n) = nI (n + 1)
    rw [i_4, su_cpl n (fun i hi => e i (by omega)), e n (by omega)]
    exact nI_1 n
/-- S has all that is open: bare CELLS of the outermost RING, and those beside one of S -/
def clS (g : Nat → Int32) (S : Nat → Prop) : Prop := ∀ i, i < 91 → g i = -1 → (fl_ring i = 5 ∨ ∃ j o, j < 6 ∧ o < 91 ∧ fl_nb i j = ma_cell o ∧ S o) → S i
def opn (r : Nat → Int32) (i : Nat) : Nat → Int32
  | 0 => if fl_ring i = 5 then 1 else 0
  | j + 1 => if opn r i j = 0 then if r (fl_nb i j) = 1 then 1 else 0 else 1
theorem opn01 (r : Nat → Int32) (i : Nat) : ∀ j, opn r i j = 0 ∨ opn r i j = 1
  | 0 => by
    show (if fl_ring i = 5 then (1 : Int32) else 0) = 0 ∨ (if fl_ring i = 5 then (1 : Int32) else 0) = 1
    split
    · exact Or.inr rfl
    · exact Or.inl rfl
  | j + 1 => by
    show (if opn r i j = 0 then if r (fl_nb i j) = 1 then (1 : Int32) else 0 else 1) = 0 ∨ (if opn r i j = 0 then if r (fl_nb i j) = 1 then (1 : Int32) else 0 else 1) = 1
    split
    · split
      · exact Or.inr rfl
      · exact Or.inl rfl
    · exact Or.inr rfl
theorem opn_yes {r : Nat → Int32} {i : Nat} : ∀ n, opn r i n = 1 → fl_ring i = 5 ∨ ∃ j, j < n ∧ r (fl_nb i j) = 1
  | 0, e => by
    by_cases c : fl_ring i = 5
    · exact Or.inl c
    · rw [show opn r i 0 = 0 from if_neg c] at e
      exact absurd e (by decide)
  | n + 1, e => by
    rcases opn01 r i n with o | o
    · by_cases c : r (fl_nb i n) = 1
      · exact Or.inr ⟨n, by omega, c⟩
      · rw [show opn r i (n + 1) = 0 from (if_pos o).trans (if_neg c)] at e
        exact absurd e (by decide)
    · rcases opn_yes n o with w | ⟨j, hj, w⟩
      · exact Or.inl w
      · exact Or.inr ⟨j, by omega, w⟩
theorem opn_of {r : Nat → Int32} {i : Nat} : ∀ n, (fl_ring i = 5 ∨ ∃ j, j < n ∧ r (fl_nb i j) = 1) → opn r i n = 1
  | 0, e => by
    rcases e with e | ⟨j, hj, -⟩
    · exact if_pos e
    · exact absurd hj (Nat.not_lt_zero j)
  | n + 1, e => by
    rcases opn01 r i n with o | o
    · rcases e with e | ⟨j, hj, w⟩
      · rw [opn_of n (Or.inl e)] at o
        exact absurd o (by decide)
      · by_cases c : j = n
        · subst c
          exact (if_pos o).trans (if_pos w)
        · rw [opn_of n (Or.inr ⟨j, by omega, w⟩)] at o
          exact absurd o (by decide)
    · exact if_neg (by rw [o]; decide)
theorem ring_nb : ∀ i, i < 91 → fl_ring i ≠ 5 → ∀ j, j < 6 → cix (fl_nb i j) < 91 ∧ fl_nb i j = ma_cell (cix (fl_nb i j)) := by decide +kernel
def rc01 (r : Nat → Int32) : Prop := ∀ i, i < 91 → r (ma_cell i) = 0 ∨ r (ma_cell i) = 1
def rsub (g r : Nat → Int32) : Prop := ∀ S, clS g S → ∀ i, i < 91 → r (ma_cell i) = 1 → S i
def rcl (g r : Nat → Int32) (n : Nat) : Prop := ∀ i, i < n → g i = -1 → opn r i 6 = 1 → r (ma_cell i) = 1
theorem upd_cell {r : Nat → Int32} {i j : Nat} {v : Int32} (hi : i < 91) (hj : j < 91) : upd r (ma_cell i) v (ma_cell j) = if j = i then v else r (ma_cell j) := by
  unfold upd
  by_cases z : j = i
  · subst z
    rw [if_pos rfl, if_pos rfl]
  · rw [if_neg z, if_neg (fun x => z (cell_inj j hj i hi x))]
theorem rsub_up {g r : Nat → Int32} {i : Nat} (hi : i < 91) (hb : g i = -1) (ho : opn r i 6 = 1) (hr : rsub g r) : rsub g (upd r (ma_cell i) 1) := by
  intro S c j hj e
  by_cases z : j = i
  · subst z
    refine c j hj hb ?_
    rcases opn_yes 6 ho with w | ⟨k, hk, w⟩
    · exact Or.inl w
    · by_cases r5 : fl_ring j = 5
      · exact Or.inl r5
      · obtain ⟨n1, n2⟩ := ring_nb j hj r5 k hk
        refine Or.inr ⟨k, _, hk, n1, n2, hr S c _ n1 ?_⟩
        rw [← n2]
        exact w
  · rw [upd_cell hi hj, if_neg z] at e
    exact hr S c j hj e
theorem rc01_up {r : Nat → Int32} {i : Nat} (hi : i < 91) (h : rc01 r) : rc01 (upd r (ma_cell i) 1) := by
  intro j hj
  rw [upd_cell hi hj]
  split
  · exact Or.inr rfl
  · exact h j hj
theorem rcl_cls {g r : Nat → Int32} (h : rcl g r 91) : clS g (fun i => r (ma_cell i) = 1) := by
  intro i hi b o
  refine h i hi b (opn_of 6 ?_)
  rcases o with o | ⟨j, o', hj, ho, e, w⟩
  · exact Or.inl o
  · exact Or.inr ⟨j, hj, by rw [e]; exact w⟩
def bc (g r : Nat → Int32) (i : Nat) : Int32 := if g i = -1 then if r (ma_cell i) = 0 then 1 else 0 else 0
theorem bc_dn {g r : Nat → Int32} {i : Nat} (hi : i < 91) (hb : g i = -1) (z : r (ma_cell i) = 0) : su (bc g (upd r (ma_cell i) 1)) 91 = su (bc g r) 91 + -1 := by
  refine su_dn (i := i) 91 hi (fun j hj w => ?_) ?_ ?_
  · unfold bc
    rw [upd_cell hi hj, if_neg w]
  · unfold bc
    rw [if_pos hb, if_pos z]
  · unfold bc
    rw [upd_cell hi hi, if_pos rfl, if_pos hb]
    rfl
theorem bc_0 {g r : Nat → Int32} (hg : ∀ i, i < 91 → g (ma_cell i) = -1 ∨ ¬ g (ma_cell i) < 0) (hr : ∀ i, i < 91 → r (ma_cell i) = 0) : nI 91 - su (fl_ice g) 91 = su (bc (fun i => g (ma_cell i)) r) 91 := by
  have e : su (bc (fun i => g (ma_cell i)) r) 91 + su (fl_ice g) 91 = nI 91 := by
    refine su_cpl 91 fun i hi => ?_
    unfold bc fl_ice
    rw [hr i hi, if_pos rfl]
    rcases hg i hi with w | w
    · rw [if_pos w, w]
      rfl
    · rw [if_neg w, if_neg (fun x => w (by have x : g (ma_cell i) = -1 := x; rw [x]; decide))]
      rfl
  rw [← e, Int32.add_sub_cancel]
theorem fl_set_lo {g : Nat → Int32} {v : Int32} {i : Nat} (hi : i < 91) : ∀ n, n ≤ 91 → i < n → fl_set g v n (ma_cell i) = v
  | n + 1, hn, h => by
    show upd (fl_set g v n) (ma_cell n) v (ma_cell i) = v
    rw [upd_cell (by omega) hi]
    split
    · rfl
    · exact fl_set_lo hi n (by omega) (by omega)
theorem s29 {h : ma_H} {Q : ma_Q} {a s rc : Nat} {mn : Int32} {g : Nat → Int32} (h1 : h.2.1 a = .inr (2, [.int mn, .ref s, .ref rc])) (h2 : h.2.1 s = .inl (.int, 169, .inl g)) {rg : Nat → Int32} (h3 : h.2.1 rc = .inl (.byte, 169, .inl rg)) {i : Nat} (hi : i < 91) (k : Q (some (.int (opn rg i 6))) h) : ma_X 29 [.ref a, .int (nI (ma_cell i))] h Q := by
  have lq : ∀ nj j, j + nj = 6 → At 29 Q 15 (0, 0) [some (.ref a), some (.int (nI (ma_cell i))), some (.int (opn rg i j)), some (.retAddr 1), some (.int (nI 6)), some (.int (nI j)), none, none] [] h := by
    intro nj
    induction nj with
    | zero =>
      intro j ej
      obtain rfl : j = 6 := by omega
      refine go 60 (by decide) ?_
      simp only [KX, KY, KZ, KW, KV, Nat.reduceAdd, Nat.reduceSub, Nat.reduceLeDiff, true_and, and_true, true_or, or_true, or_self, reduceCtorEq, if_true, if_false, not_false_eq_true, eq_self, c29, h1, h3]
      rw [if_neg (nI_nlt (Nat.le_refl _) (by omega))]
      exact ⟨opn01 _ _ _, k⟩
    | succ nj jh =>
      intro j ej
      have hj : j < 6 := by omega
      have e1j := nI_1 j
      refine go 60 (by decide) ?_
      simp only [KX, KY, KZ, KW, KV, Nat.reduceAdd, Nat.reduceSub, Nat.reduceLeDiff, true_and, and_true, true_or, or_true, or_self, reduceCtorEq, if_true, if_false, not_false_eq_true, eq_self, c29, h1, h3]
      rw [if_pos (nI_lt hj (by omega))]
      have hnb := (fl_nb_ok i hi j hj).2
      rw [nI_clamp (show j < 2 ^ 31 by omega)]
      refine ⟨nI_in hj (by decide), ?_⟩
      have en : nI (ma_cell i) + ma_sv 1 j = nI (fl_nb i j) := (fl_nb_ok i hi j hj).1
      rw [en]
      rcases opn01 rg i j with o | o
      · rw [if_pos o, if_neg (nI_pos (show fl_nb i j < 2 ^ 31 by omega)), if_pos (nI_lt hnb (by decide)), nI_clamp (show fl_nb i j < 2 ^ 31 by omega)]
        refine ⟨nI_in hnb (by decide), ?_⟩
        by_cases w : rg (fl_nb i j) = 1
        · rw [if_pos w]
          have e2 : opn rg i (j + 1) = 1 := (if_pos o).trans (if_pos w)
          have ih2 := jh (j + 1) (by omega)
          rw [e2] at ih2
          first
            | (with_reducible show At 29 _ 15 _ _ _ _)
            | (refine go 60 (by decide) ?_; simp only [KX, KY, KZ, KW, KV, Nat.reduceAdd, Nat.reduceSub, Nat.reduceLeDiff, true_and, and_true, true_or, or_true, or_self, reduceCtorEq, if_true, if_false, not_false_eq_true, eq_self, c29, h1, h3])
          first
            | (with_reducible show At 29 _ 15 _ _ _ _)
            | (refine go 60 (by decide) ?_; simp only [KX, KY, KZ, KW, KV, Nat.reduceAdd, Nat.reduceSub, Nat.reduceLeDiff, true_and, and_true, true_or, or_true, or_self, reduceCtorEq, if_true, if_false, not_false_eq_true, eq_self, c29, h1, h3])
          first
            | (with_reducible show At 29 _ 15 _ _ _ _)
            | (refine go 60 (by decide) ?_; simp only [KX, KY, KZ, KW, KV, Nat.reduceAdd, Nat.reduceSub, Nat.reduceLeDiff, true_and, and_true, true_or, or_true, or_self, reduceCtorEq, if_true, if_false, not_false_eq_true, eq_self, c29, h1, h3])
          rw [e1j]
          exact At_le ih2 ⟨rfl, rfl, rfl, rfl, rfl, rfl, trivial⟩
        · rw [if_neg w]
          have e2 : opn rg i (j + 1) = 0 := (if_pos o).trans (if_neg w)
          have ih2 := jh (j + 1) (by omega)
          rw [e2] at ih2
          first
            | (with_reducible show At 29 _ 15 _ _ _ _)
            | (refine go 60 (by decide) ?_; simp only [KX, KY, KZ, KW, KV, Nat.reduceAdd, Nat.reduceSub, Nat.reduceLeDiff, true_and, and_true, true_or, or_true, or_self, reduceCtorEq, if_true, if_false, not_false_eq_true, eq_self, c29, h1, h3])
          first
            | (with_reducible show At 29 _ 15 _ _ _ _)
            | (refine go 60 (by decide) ?_; simp only [KX, KY, KZ, KW, KV, Nat.reduceAdd, Nat.reduceSub, Nat.reduceLeDiff, true_and, and_true, true_or, or_true, or_self, reduceCtorEq, if_true, if_false, not_false_eq_true, eq_self, c29, h1, h3])
          first
            | (with_reducible show At 29 _ 15 _ _ _ _)
            | (refine go 60 (by decide) ?_; simp only [KX, KY, KZ, KW, KV, Nat.reduceAdd, Nat.reduceSub, Nat.reduceLeDiff, true_and, and_true, true_or, or_true, or_self, reduceCtorEq, if_true, if_false, not_false_eq_true, eq_self, c29, h1, h3])
          rw [e1j]
          exact At_le ih2 ⟨rfl, rfl, rfl, rfl, rfl, rfl, trivial⟩
      · rw [if_neg (show ¬ opn rg i j = 0 by rw [o]; decide)]
        have e2 : opn rg i (j + 1) = 1 := if_neg (by rw [o]; decide)
        have ih2 := jh (j + 1) (by omega)
        rw [e2] at ih2
        first
          | (with_reducible show At 29 _ 15 _ _ _ _)
          | (refine go 60 (by decide) ?_; simp only [KX, KY, KZ, KW, KV, Nat.reduceAdd, Nat.reduceSub, Nat.reduceLeDiff, true_and, and_true, true_or, or_true, or_self, reduceCtorEq, if_true, if_false, not_false_eq_true, eq_self, c29, h1, h3])
        first
          | (with_reducible show At 29 _ 15 _ _ _ _)
          | (refine go 60 (by decide) ?_; simp only [KX, KY, KZ, KW, KV, Nat.reduceAdd, Nat.reduceSub, Nat.reduceLeDiff, true_and, and_true, true_or, or_true, or_self, reduceCtorEq, if_true, if_false, not_false_eq_true, eq_self, c29, h1, h3])
        first
          | (with_reducible show At 29 _ 15 _ _ _ _)
          | (refine go 60 (by decide) ?_; simp only [KX, KY, KZ, KW, KV, Nat.reduceAdd, Nat.reduceSub, Nat.reduceLeDiff, true_and, and_true, true_or, or_true, or_self, reduceCtorEq, if_true, if_false, not_false_eq_true, eq_self, c29, h1, h3])
        rw [e1j]
        exact At_le ih2 ⟨rfl, rfl, rfl, rfl, rfl, rfl, trivial⟩
  refine ma_enter (m := 29) (Or.inl (by decide)) (by show 2 ≤ mt_n 29; decide +kernel) ?_
  show At 29 Q 0 (mt_c 29) [some (.ref a), some (.int (nI (ma_cell i))), none, none, none, none, none, none] [] h
  refine go 60 (by decide) ?_
  simp only [KX, KY, KZ, KW, KV, Nat.reduceAdd, Nat.reduceSub, Nat.reduceLeDiff, true_and, and_true, true_or, or_true, or_self, reduceCtorEq, if_true, if_false, not_false_eq_true, eq_self, c29, h1, h3]
  refine s12r ?_
  show At 29 Q 2 (0, 0) [some (.ref a), some (.int (nI (ma_cell i))), none, none, none, none, none, none] [.int (fl_ring i)] h
  refine go 60 (by decide) ?_
  simp only [KX, KY, KZ, KW, KV, Nat.reduceAdd, Nat.reduceSub, Nat.reduceLeDiff, true_and, and_true, true_or, or_true, or_self, reduceCtorEq, if_true, if_false, not_false_eq_true, eq_self, c29, h1, h3]
  have l0 := lq 6 0 rfl
  by_cases c : fl_ring i = 5
  · rw [if_pos c]
    rw [show opn rg i 0 = 1 from if_pos c] at l0
    first
      | (with_reducible show At 29 _ 15 _ _ _ _)
      | (refine go 60 (by decide) ?_; simp only [KX, KY, KZ, KW, KV, Nat.reduceAdd, Nat.reduceSub, Nat.reduceLeDiff, true_and, and_true, true_or, or_true, or_self, reduceCtorEq, if_true, if_false, not_false_eq_true, eq_self, c29, h1, h3])
    first
      | (with_reducible show At 29 _ 15 _ _ _ _)
      | (refine go 60 (by decide) ?_; simp only [KX, KY, KZ, KW, KV, Nat.reduceAdd, Nat.reduceSub, Nat.reduceLeDiff, true_and, and_true, true_or, or_true, or_self, reduceCtorEq, if_true, if_false, not_false_eq_true, eq_self, c29, h1, h3])
    first
      | (with_reducible show At 29 _ 15 _ _ _ _)
      | (refine go 60 (by decide) ?_; simp only [KX, KY, KZ, KW, KV, Nat.reduceAdd, Nat.reduceSub, Nat.reduceLeDiff, true_and, and_true, true_or, or_true, or_self, reduceCtorEq, if_true, if_false, not_false_eq_true, eq_self, c29, h1, h3])
    exact At_le l0 ⟨rfl, rfl, rfl, rfl, rfl, rfl, trivial⟩
  · rw [if_neg c]
    rw [show opn rg i 0 = 0 from if_neg c] at l0
    first
      | (with_reducible show At 29 _ 15 _ _ _ _)
      | (refine go 60 (by decide) ?_; simp only [KX, KY, KZ, KW, KV, Nat.reduceAdd, Nat.reduceSub, Nat.reduceLeDiff, true_and, and_true, true_or, or_true, or_self, reduceCtorEq, if_true, if_false, not_false_eq_true, eq_self, c29, h1, h3])
    first
      | (with_reducible show At 29 _ 15 _ _ _ _)
      | (refine go 60 (by decide) ?_; simp only [KX, KY, KZ, KW, KV, Nat.reduceAdd, Nat.reduceSub, Nat.reduceLeDiff, true_and, and_true, true_or, or_true, or_self, reduceCtorEq, if_true, if_false, not_false_eq_true, eq_self, c29, h1, h3])
    first
      | (with_reducible show At 29 _ 15 _ _ _ _)
      | (refine go 60 (by decide) ?_; simp only [KX, KY, KZ, KW, KV, Nat.reduceAdd, Nat.reduceSub, Nat.reduceLeDiff, true_and, and_true, true_or, or_true, or_self, reduceCtorEq, if_true, if_false, not_false_eq_true, eq_self, c29, h1, h3])
    exact At_le l0 ⟨rfl, rfl, rfl, rfl, rfl, rfl, trivial⟩
theorem s28 {h : ma_H} {Q : ma_Q} {a s rc : Nat} {mn : Int32} {g : Nat → Int32} (h1 : h.2.1 a = .inr (2, [.int mn, .ref s, .ref rc])) (h2 : h.2.1 s = .inl (.int, 169, .inl g)) {r0 : Nat → Int32} (h3 : h.2.1 rc = .inl (.byte, 169, .inl r0)) (ha : a ≠ rc) (hs : s ≠ rc) (hb : ∀ i, i < 91 → g (ma_cell i) = -1 ∨ ¬ g (ma_cell i) < 0) (k : ∀ r, rc01 r → rsub (fun i => g (ma_cell i)) r → rcl (fun i => g (ma_cell i)) r 91 → Q (some (.int (su (bc (fun i => g (ma_cell i)) r) 91))) (ma_set h rc (.inl (.byte, 169, .inl r)))) : ma_X 28 [.ref a] h Q := by
  have v0 : vp_nar .byte 0 = 0 := by decide
  have v1 : vp_nar .byte 1 = 1 := by decide
  have hA : ∀ c, (ma_set h rc c).2.1 a = .inr (2, [.int mn, .ref s, .ref rc]) := fun c => (ma_set_ne h c ha).trans h1
  have hS : ∀ c, (ma_set h rc c).2.1 s = .inl (.int, 169, .inl g) := fun c => (ma_set_ne h c hs).trans h2
  have out : ∀ n z, z + n = 92 → ∀ (r : Nat → Int32) (on : Int32), rc01 r → rsub (fun i => g (ma_cell i)) r → (on = 0 ∧ rcl (fun i => g (ma_cell i)) r 91 ∨ on = 1 ∧ z ≤ hcn (fun i => r (ma_cell i)) 91) → At 28 Q 31 (0, 0) [some (.ref a), some (.int (su (bc (fun i => g (ma_cell i)) r) 91)), some (.int on), some (.int (nI z)), none, none, none, none] [] (ma_set h rc (.inl (.byte, 169, .inl r))) := by
    intro n
    induction n with
    | zero =>
      intro z ez r on w1 w2 w3
      obtain rfl : z = 92 := by omega
      have w4 : rcl (fun i => g (ma_cell i)) r 91 := w3.elim (fun x => x.2) (fun x => absurd (hcn_le (fun i => r (ma_cell i)) 91) (by have := x.2; omega))
      refine go 60 (by decide) ?_
      simp only [KX, KY, KZ, KW, KV, Nat.reduceAdd, Nat.reduceSub, Nat.reduceLeDiff, true_and, and_true, true_or, or_true, or_self, reduceCtorEq, if_true, if_false, not_false_eq_true, eq_self, c28, hA, hS, ma_set_at, v0, v1]
      rw [if_neg (nI_ge (show 91 < 92 by decide) (by decide))]
      exact k r w1 w2 w4
    | succ n oh =>
      intro z ez r on w1 w2 w3
      rcases w3 with ⟨rfl, w3⟩ | ⟨rfl, w3⟩
      · refine go 60 (by decide) ?_
        simp only [KX, KY, KZ, KW, KV, Nat.reduceAdd, Nat.reduceSub, Nat.reduceLeDiff, true_and, and_true, true_or, or_true, or_self, reduceCtorEq, if_true, if_false, not_false_eq_true, eq_self, c28, hA, hS, ma_set_at, v0, v1]
        split
        · exact k r w1 w2 w3
        · exact k r w1 w2 w3
      · have inn : ∀ m i, i + m = 91 → ∀ (r : Nat → Int32) (on : Int32), rc01 r → rsub (fun i => g (ma_cell i)) r → (on = 0 ∧ rcl (fun i => g (ma_cell i)) r i ∧ z ≤ hcn (fun i => r (ma_cell i)) 91 ∨ on = 1 ∧ z + 1 ≤ hcn (fun i => r (ma_cell i)) 91) → At 28 Q 46 (0, 0) [some (.ref a), some (.int (su (bc (fun i => g (ma_cell i)) r) 91)), some (.int on), some (.int (nI z)), some (.retAddr 0), some (.int (nI 91)), some (.int (nI i)), none] [] (ma_set h rc (.inl (.byte, 169, .inl r))) := by
          intro m
          induction m with
          | zero =>
            intro i ei r on w1 w2 w3
            obtain rfl : i = 91 := by omega
            refine go 60 (by decide) ?_
            simp only [KX, KY, KZ, KW, KV, Nat.reduceAdd, Nat.reduceSub, Nat.reduceLeDiff, true_and, and_true, true_or, or_true, or_self, reduceCtorEq, if_true, if_false, not_false_eq_true, eq_self, c28, hA, hS, ma_set_at, v0, v1]
            rw [if_neg (nI_nlt (Nat.le_refl _) (by decide))]
            first
              | (with_reducible show At 28 _ 31 _ _ _ _)
              | (refine go 60 (by decide) ?_; simp only [KX, KY, KZ, KW, KV, Nat.reduceAdd, Nat.reduceSub, Nat.reduceLeDiff, true_and, and_true, true_or, or_true, or_self, reduceCtorEq, if_true, if_false, not_false_eq_true, eq_self, c28, hA, hS, ma_set_at, v0, v1])
            first
              | (with_reducible show At 28 _ 31 _ _ _ _)
              | (refine go 60 (by decide) ?_; simp only [KX, KY, KZ, KW, KV, Nat.reduceAdd, Nat.reduceSub, Nat.reduceLeDiff, true_and, and_true, true_or, or_true, or_self, reduceCtorEq, if_true, if_false, not_false_eq_true, eq_self, c28, hA, hS, ma_set_at, v0, v1])
            first
              | (with_reducible show At 28 _ 31 _ _ _ _)
              | (refine go 60 (by decide) ?_; simp only [KX, KY, KZ, KW, KV, Nat.reduceAdd, Nat.reduceSub, Nat.reduceLeDiff, true_and, and_true, true_or, or_true, or_self, reduceCtorEq, if_true, if_false, not_false_eq_true, eq_self, c28, hA, hS, ma_set_at, v0, v1])
            rw [nI_1 z]
            exact At_le (oh (z + 1) (by omega) r on w1 w2 (w3.imp (fun x => ⟨x.1, x.2.1⟩) id)) ⟨rfl, rfl, rfl, rfl, trivial⟩
          | succ m ih =>
            intro i ei r on w1 w2 w3
            have hi : i < 91 := by omega
            have hc := (cell_lt i hi).1
            refine go 60 (by decide) ?_
            simp only [KX, KY, KZ, KW, KV, Nat.reduceAdd, Nat.reduceSub, Nat.reduceLeDiff, true_and, and_true, true_or, or_true, or_self, reduceCtorEq, if_true, if_false, not_false_eq_true, eq_self, c28, hA, hS, ma_set_at, v0, v1]
            rw [if_pos (nI_lt hi (by decide)), nI_clamp (show i < 2 ^ 31 by omega)]
            refine ⟨nI_in hi (by decide), ?_⟩
            rw [nI_clamp (show ma_cell i < 2 ^ 31 by omega)]
            refine ⟨nI_in hc (by decide), ?_⟩
            have kp : (opn r i 6 = 1 → g (ma_cell i) = -1 → r (ma_cell i) = 1) → (on = 0 ∧ rcl (fun i => g (ma_cell i)) r (i + 1) ∧ z ≤ hcn (fun i => r (ma_cell i)) 91 ∨ on = 1 ∧ z + 1 ≤ hcn (fun i => r (ma_cell i)) 91) := by
              intro u
              refine w3.imp (fun x => ⟨x.1, fun j hj a b => ?_, x.2.2⟩) id
              rcases Nat.lt_or_ge j i with y | y
              · exact x.2.1 j y a b
              · obtain rfl : j = i := by omega
                exact u b a
            rcases w1 i hi with c | c
            · rw [if_pos c]
              refine s27c (hA _) (hS _) hi ?_
              by_cases b : g (ma_cell i) = -1
              · rw [show fl_since g (-1) i = 1 from if_pos b]
                refine go 60 (by decide) ?_
                simp only [KX, KY, KZ, KW, KV, Nat.reduceAdd, Nat.reduceSub, Nat.reduceLeDiff, true_and, and_true, true_or, or_true, or_self, reduceCtorEq, if_true, if_false, not_false_eq_true, eq_self, c28, hA, hS, ma_set_at, v0, v1]
                refine s29 (hA _) (hS _) (ma_set_at _ _ _) hi ?_
                rcases opn01 r i 6 with o | o
                · rw [o]
                  first
                    | (with_reducible show At 28 _ 46 _ _ _ _)
                    | (refine go 60 (by decide) ?_; simp only [KX, KY, KZ, KW, KV, Nat.reduceAdd, Nat.reduceSub, Nat.reduceLeDiff, true_and, and_true, true_or, or_true, or_self, reduceCtorEq, if_true, if_false, not_false_eq_true, eq_self, c28, hA, hS, ma_set_at, v0, v1])
                  first
                    | (with_reducible show At 28 _ 46 _ _ _ _)
                    | (refine go 60 (by decide) ?_; simp only [KX, KY, KZ, KW, KV, Nat.reduceAdd, Nat.reduceSub, Nat.reduceLeDiff, true_and, and_true, true_or, or_true, or_self, reduceCtorEq, if_true, if_false, not_false_eq_true, eq_self, c28, hA, hS, ma_set_at, v0, v1])
                  first
                    | (with_reducible show At 28 _ 46 _ _ _ _)
                    | (refine go 60 (by decide) ?_; simp only [KX, KY, KZ, KW, KV, Nat.reduceAdd, Nat.reduceSub, Nat.reduceLeDiff, true_and, and_true, true_or, or_true, or_self, reduceCtorEq, if_true, if_false, not_false_eq_true, eq_self, c28, hA, hS, ma_set_at, v0, v1])
                  rw [nI_1 i]
                  exact At_le (ih (i + 1) (by omega) r on w1 w2 (kp (fun u => absurd (o.symm.trans u) (by decide)))) ⟨rfl, rfl, rfl, rfl, rfl, rfl, rfl, trivial⟩
                · rw [o]
                  refine go 60 (by decide) ?_
                  simp only [KX, KY, KZ, KW, KV, Nat.reduceAdd, Nat.reduceSub, Nat.reduceLeDiff, true_and, and_true, true_or, or_true, or_self, reduceCtorEq, if_true, if_false, not_false_eq_true, eq_self, c28, hA, hS, ma_set_at, v0, v1]
                  rw [nI_clamp (show ma_cell i < 2 ^ 31 by omega)]
                  refine ⟨nI_in hc (by decide), ?_⟩
                  first
                    | (with_reducible show At 28 _ 46 _ _ _ _)
                    | (refine go 60 (by decide) ?_; simp only [KX, KY, KZ, KW, KV, Nat.reduceAdd, Nat.reduceSub, Nat.reduceLeDiff, true_and, and_true, true_or, or_true, or_self, reduceCtorEq, if_true, if_false, not_false_eq_true, eq_self, c28, hA, hS, ma_set_at, v0, v1])
                  first
                    | (with_reducible show At 28 _ 46 _ _ _ _)
                    | (refine go 60 (by decide) ?_; simp only [KX, KY, KZ, KW, KV, Nat.reduceAdd, Nat.reduceSub, Nat.reduceLeDiff, true_and, and_true, true_or, or_true, or_self, reduceCtorEq, if_true, if_false, not_false_eq_true, eq_self, c28, hA, hS, ma_set_at, v0, v1])
                  first
                    | (with_reducible show At 28 _ 46 _ _ _ _)
                    | (refine go 60 (by decide) ?_; simp only [KX, KY, KZ, KW, KV, Nat.reduceAdd, Nat.reduceSub, Nat.reduceLeDiff, true_and, and_true, true_or, or_true, or_self, reduceCtorEq, if_true, if_false, not_false_eq_true, eq_self, c28, hA, hS, ma_set_at, v0, v1])
                  rw [ma_set_set, nI_1 i]
                  have ih2 := ih (i + 1) (by omega) (upd r (ma_cell i) 1) 1 (rc01_up hi w1) (rsub_up hi b o w2) (Or.inr ⟨rfl, ?_⟩)
                  · rw [bc_dn (g := (fun i => g (ma_cell i))) hi b c] at ih2
                    exact At_le ih2 ⟨rfl, rfl, rfl, rfl, rfl, rfl, rfl, trivial⟩
                  · rw [hcn_up (f := fun i => r (ma_cell i)) (f2 := fun j => upd r (ma_cell i) 1 (ma_cell j)) (i := i) 91 hi (fun j hj w => by show upd r (ma_cell i) 1 (ma_cell j) = r (ma_cell j); rw [upd_cell hi hj, if_neg w]) c (by show upd r (ma_cell i) 1 (ma_cell i) ≠ 0; rw [upd_cell hi hi, if_pos rfl]; decide)]
                    rcases w3 with w3 | w3
                    · have := w3.2.2
                      omega
                    · have := w3.2
                      omega
              · rw [show fl_since g (-1) i = 0 from if_neg b]
                first
                  | (with_reducible show At 28 _ 46 _ _ _ _)
                  | (refine go 60 (by decide) ?_; simp only [KX, KY, KZ, KW, KV, Nat.reduceAdd, Nat.reduceSub, Nat.reduceLeDiff, true_and, and_true, true_or, or_true, or_self, reduceCtorEq, if_true, if_false, not_false_eq_true, eq_self, c28, hA, hS, ma_set_at, v0, v1])
                first
                  | (with_reducible show At 28 _ 46 _ _ _ _)
                  | (refine go 60 (by decide) ?_; simp only [KX, KY, KZ, KW, KV, Nat.reduceAdd, Nat.reduceSub, Nat.reduceLeDiff, true_and, and_true, true_or, or_true, or_self, reduceCtorEq, if_true, if_false, not_false_eq_true, eq_self, c28, hA, hS, ma_set_at, v0, v1])
                first
                  | (with_reducible show At 28 _ 46 _ _ _ _)
                  | (refine go 60 (by decide) ?_; simp only [KX, KY, KZ, KW, KV, Nat.reduceAdd, Nat.reduceSub, Nat.reduceLeDiff, true_and, and_true, true_or, or_true, or_self, reduceCtorEq, if_true, if_false, not_false_eq_true, eq_self, c28, hA, hS, ma_set_at, v0, v1])
                rw [nI_1 i]
                exact At_le (ih (i + 1) (by omega) r on w1 w2 (kp (fun _ u => absurd u b))) ⟨rfl, rfl, rfl, rfl, rfl, rfl, rfl, trivial⟩
            · rw [if_neg (show ¬ r (ma_cell i) = 0 by rw [c]; decide)]
              first
                | (with_reducible show At 28 _ 46 _ _ _ _)
                | (refine go 60 (by decide) ?_; simp only [KX, KY, KZ, KW, KV, Nat.reduceAdd, Nat.reduceSub, Nat.reduceLeDiff, true_and, and_true, true_or, or_true, or_self, reduceCtorEq, if_true, if_false, not_false_eq_true, eq_self, c28, hA, hS, ma_set_at, v0, v1])
              first
                | (with_reducible show At 28 _ 46 _ _ _ _)
                | (refine go 60 (by decide) ?_; simp only [KX, KY, KZ, KW, KV, Nat.reduceAdd, Nat.reduceSub, Nat.reduceLeDiff, true_and, and_true, true_or, or_true, or_self, reduceCtorEq, if_true, if_false, not_false_eq_true, eq_self, c28, hA, hS, ma_set_at, v0, v1])
              first
                | (with_reducible show At 28 _ 46 _ _ _ _)
                | (refine go 60 (by decide) ?_; simp only [KX, KY, KZ, KW, KV, Nat.reduceAdd, Nat.reduceSub, Nat.reduceLeDiff, true_and, and_true, true_or, or_true, or_self, reduceCtorEq, if_true, if_false, not_false_eq_true, eq_self, c28, hA, hS, ma_set_at, v0, v1])
              rw [nI_1 i]
              exact At_le (ih (i + 1) (by omega) r on w1 w2 (kp (fun _ _ => c))) ⟨rfl, rfl, rfl, rfl, rfl, rfl, rfl, trivial⟩
        refine go 60 (by decide) ?_
        simp only [KX, KY, KZ, KW, KV, Nat.reduceAdd, Nat.reduceSub, Nat.reduceLeDiff, true_and, and_true, true_or, or_true, or_self, reduceCtorEq, if_true, if_false, not_false_eq_true, eq_self, c28, hA, hS, ma_set_at, v0, v1]
        rw [if_pos (nI_le (show z ≤ 91 by omega) (by decide))]
        first
          | (with_reducible show At 28 _ 46 _ _ _ _)
          | (refine go 60 (by decide) ?_; simp only [KX, KY, KZ, KW, KV, Nat.reduceAdd, Nat.reduceSub, Nat.reduceLeDiff, true_and, and_true, true_or, or_true, or_self, reduceCtorEq, if_true, if_false, not_false_eq_true, eq_self, c28, hA, hS, ma_set_at, v0, v1])
        first
          | (with_reducible show At 28 _ 46 _ _ _ _)
          | (refine go 60 (by decide) ?_; simp only [KX, KY, KZ, KW, KV, Nat.reduceAdd, Nat.reduceSub, Nat.reduceLeDiff, true_and, and_true, true_or, or_true, or_self, reduceCtorEq, if_true, if_false, not_false_eq_true, eq_self, c28, hA, hS, ma_set_at, v0, v1])
        first
          | (with_reducible show At 28 _ 46 _ _ _ _)
          | (refine go 60 (by decide) ?_; simp only [KX, KY, KZ, KW, KV, Nat.reduceAdd, Nat.reduceSub, Nat.reduceLeDiff, true_and, and_true, true_or, or_true, or_self, reduceCtorEq, if_true, if_false, not_false_eq_true, eq_self, c28, hA, hS, ma_set_at, v0, v1])
        exact At_le (inn 91 0 rfl r 0 w1 w2 (Or.inl ⟨rfl, fun j hj => absurd hj (Nat.not_lt_zero j), w3⟩)) ⟨rfl, rfl, rfl, rfl, rfl, rfl, rfl, trivial⟩
  have lp : ∀ ni i, i + ni = 91 → At 28 Q 13 (0, 0) [some (.ref a), some (.int (nI 91 - su (fl_ice g) 91)), some (.retAddr 0), some (.int (nI 91)), some (.int (nI i)), none, none, none] [] (ma_set h rc (.inl (.byte, 169, .inl (fl_set r0 0 i)))) := by
    intro ni
    induction ni with
    | zero =>
      intro i e
      obtain rfl : i = 91 := by omega
      refine go 60 (by decide) ?_
      simp only [KX, KY, KZ, KW, KV, Nat.reduceAdd, Nat.reduceSub, Nat.reduceLeDiff, true_and, and_true, true_or, or_true, or_self, reduceCtorEq, if_true, if_false, not_false_eq_true, eq_self, c28, hA, hS, ma_set_at, v0, v1]
      rw [if_neg (nI_nlt (Nat.le_refl _) (by omega))]
      first
        | (with_reducible show At 28 _ 31 _ _ _ _)
        | (refine go 60 (by decide) ?_; simp only [KX, KY, KZ, KW, KV, Nat.reduceAdd, Nat.reduceSub, Nat.reduceLeDiff, true_and, and_true, true_or, or_true, or_self, reduceCtorEq, if_true, if_false, not_false_eq_true, eq_self, c28, hA, hS, ma_set_at, v0, v1])
      first
        | (with_reducible show At 28 _ 31 _ _ _ _)
        | (refine go 60 (by decide) ?_; simp only [KX, KY, KZ, KW, KV, Nat.reduceAdd, Nat.reduceSub, Nat.reduceLeDiff, true_and, and_true, true_or, or_true, or_self, reduceCtorEq, if_true, if_false, not_false_eq_true, eq_self, c28, hA, hS, ma_set_at, v0, v1])
      first
        | (with_reducible show At 28 _ 31 _ _ _ _)
        | (refine go 60 (by decide) ?_; simp only [KX, KY, KZ, KW, KV, Nat.reduceAdd, Nat.reduceSub, Nat.reduceLeDiff, true_and, and_true, true_or, or_true, or_self, reduceCtorEq, if_true, if_false, not_false_eq_true, eq_self, c28, hA, hS, ma_set_at, v0, v1])
      rw [bc_0 hb (fun i hi => fl_set_lo hi 91 (by omega) hi)]
      exact At_le (out 92 0 rfl _ 1 (fun i hi => Or.inl (fl_set_lo hi 91 (by omega) hi)) (fun S _ i hi e => absurd ((fl_set_lo hi 91 (by omega) hi).symm.trans e) (by decide)) (Or.inr ⟨rfl, Nat.zero_le _⟩)) ⟨rfl, rfl, rfl, rfl, trivial⟩
    | succ ni ih =>
      intro i e
      have hi : i < 91 := by omega
      have e1i := nI_1 i
      refine go 60 (by decide) ?_
      simp only [KX, KY, KZ, KW, KV, Nat.reduceAdd, Nat.reduceSub, Nat.reduceLeDiff, true_and, and_true, true_or, or_true, or_self, reduceCtorEq, if_true, if_false, not_false_eq_true, eq_self, c28, hA, hS, ma_set_at, v0, v1]
      rw [if_pos (nI_lt hi (by omega))]
      have hc := (cell_lt i hi).1
      rw [nI_clamp (show i < 2 ^ 31 by omega)]
      refine ⟨nI_in hi (by decide), ?_⟩
      rw [nI_clamp (show ma_cell i < 2 ^ 31 by omega)]
      refine ⟨nI_in hc (by decide), ?_⟩
      first
        | (with_reducible show At 28 _ 13 _ _ _ _)
        | (refine go 60 (by decide) ?_; simp only [KX, KY, KZ, KW, KV, Nat.reduceAdd, Nat.reduceSub, Nat.reduceLeDiff, true_and, and_true, true_or, or_true, or_self, reduceCtorEq, if_true, if_false, not_false_eq_true, eq_self, c28, hA, hS, ma_set_at, v0, v1])
      first
        | (with_reducible show At 28 _ 13 _ _ _ _)
        | (refine go 60 (by decide) ?_; simp only [KX, KY, KZ, KW, KV, Nat.reduceAdd, Nat.reduceSub, Nat.reduceLeDiff, true_and, and_true, true_or, or_true, or_self, reduceCtorEq, if_true, if_false, not_false_eq_true, eq_self, c28, hA, hS, ma_set_at, v0, v1])
      first
        | (with_reducible show At 28 _ 13 _ _ _ _)
        | (refine go 60 (by decide) ?_; simp only [KX, KY, KZ, KW, KV, Nat.reduceAdd, Nat.reduceSub, Nat.reduceLeDiff, true_and, and_true, true_or, or_true, or_self, reduceCtorEq, if_true, if_false, not_false_eq_true, eq_self, c28, hA, hS, ma_set_at, v0, v1])
      rw [ma_set_set, e1i]
      exact At_le (ih (i + 1) (by omega)) ⟨rfl, rfl, rfl, rfl, rfl, trivial⟩
  refine ma_enter (m := 28) (Or.inl (by decide)) (by show 1 ≤ mt_n 28; decide +kernel) ?_
  show At 28 Q 0 (mt_c 28) [some (.ref a), none, none, none, none, none, none, none] [] h
  refine go 60 (by decide) ?_
  simp only [KX, KY, KZ, KW, KV, Nat.reduceAdd, Nat.reduceSub, Nat.reduceLeDiff, true_and, and_true, true_or, or_true, or_self, reduceCtorEq, if_true, if_false, not_false_eq_true, eq_self, c28, h1]
  refine s22 h1 h2 ?_
  refine go 60 (by decide) ?_
  simp only [KX, KY, KZ, KW, KV, Nat.reduceAdd, Nat.reduceSub, Nat.reduceLeDiff, true_and, and_true, true_or, or_true, or_self, reduceCtorEq, if_true, if_false, not_false_eq_true, eq_self, c28, h1]
  have l0 := lp 91 0 rfl
  rw [show (ma_set h rc (.inl (.byte, 169, .inl (fl_set r0 0 0)))) = h from ma_set_id h3] at l0
  exact At_le l0 ⟨rfl, rfl, rfl, rfl, rfl, trivial⟩
