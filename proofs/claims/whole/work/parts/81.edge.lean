/-! span, edge: the Model; both alike -/
def ml_span (g : Nat → Int32) : Nat → Int32
  | 0 => 0
  | n + 1 => if g n < 0 then ml_span g n else i_max (ml_span g n) (fl_ring n)
theorem span_eq {g G : Nat → Int32} (e : ∀ i, i < 91 → g (ma_cell i) = G i) : ∀ n, n ≤ 91 → fl_span g n = ml_span G n
  | 0, _ => rfl
  | n + 1, hn => by
    show (if g (ma_cell n) < 0 then fl_span g n else i_max (fl_span g n) (fl_ring n)) = if G n < 0 then ml_span G n else i_max (ml_span G n) (fl_ring n)
    rw [e n (by omega), span_eq e n (by omega)]
def me1 (G : Nat → Int32) (c k : Nat) : Int32 := if m_nb c k < 0 then 0 else if fl_has G c = fl_has G (cix (fl_nb c k)) then 0 else 1
def ml_edge (G : Nat → Int32) : Nat → Int32
  | 0 => 0
  | n + 1 => su2 (ml_edge G n) (me1 G n) 3
theorem su2_su (A : Int32) (f : Nat → Int32) : ∀ n, su2 A f n = A + su f n
  | 0 => by
    show A = A + 0
    rw [Int32.add_zero]
  | n + 1 => by
    show su2 A f n + f n = A + (su f n + f n)
    rw [su2_su A f n, Int32.add_assoc]
theorem su_add (f f2 : Nat → Int32) : ∀ n, su (fun i => f i + f2 i) n = su f n + su f2 n
  | 0 => by
    show (0 : Int32) = 0 + 0
    decide
  | n + 1 => by
    show su (fun i => f i + f2 i) n + (f n + f2 n) = su f n + f n + (su f2 n + f2 n)
    rw [su_add f f2 n, i_4]
theorem su_nil : ∀ n, su (fun _ => 0) n = 0
  | 0 => rfl
  | n + 1 => by
    show su (fun _ => 0) n + 0 = 0
    rw [su_nil n]
    rfl
theorem su_swap (f : Nat → Nat → Int32) (m : Nat) : ∀ n, su (fun i => su (fun o => f i o) m) n = su (fun o => su (fun i => f i o) n) m
  | 0 => (su_nil m).symm
  | n + 1 => by
    show su (fun i => su (fun o => f i o) m) n + su (fun o => f n o) m = su (fun o => su (fun i => f i o) n + f n o) m
    rw [su_swap f m n, su_add]
theorem su_ind (v : Nat → Int32) (c : Nat) : ∀ n, su (fun i => if i = c then v i else 0) n = if c < n then v c else 0
  | 0 => by rw [if_neg (Nat.not_lt_zero c)]; rfl
  | n + 1 => by
    show su (fun i => if i = c then v i else 0) n + (if n = c then v n else 0) = _
    rw [su_ind v c n]
    by_cases a : n = c
    · subst a
      rw [if_neg (Nat.lt_irrefl n), if_pos rfl, if_pos (Nat.lt_succ_self n), Int32.zero_add]
    · rw [if_neg a, Int32.add_zero]
      by_cases b : c < n
      · rw [if_pos b, if_pos (by omega)]
      · rw [if_neg b, if_neg (by omega)]
theorem opp : ∀ i, i < 91 → ∀ j, j < 6 → cix (fl_nb i j) < 91 → fl_nb (cix (fl_nb i j)) ((j + 3) % 6) = ma_cell i := by decide +kernel
def ef (G : Nat → Int32) (i j : Nat) : Int32 := if G i < 0 then 0 else if cix (fl_nb i j) < 91 then if G (cix (fl_nb i j)) < 0 then 1 else 0 else 0
def eb (G : Nat → Int32) (i j : Nat) : Int32 := if G i < 0 then if cix (fl_nb i j) < 91 then if G (cix (fl_nb i j)) < 0 then 0 else 1 else 0 else 0
def ev1 (G : Nat → Int32) (i o : Nat) : Int32 := if G i < 0 then if G o < 0 then 0 else 1 else 0
theorem nb_at {i o j : Nat} (hi : i < 91) (ho : o < 91) (hj : j < 6) : fl_nb i j = ma_cell o ↔ o = cix (fl_nb i j) := by
  constructor
  · intro e
    rw [e, cix_cell o ho]
  · intro e
    rcases nb_ok i hi j hj with ⟨-, w⟩ | ⟨w, -, w3⟩
    · omega
    · rw [w3, ← e]
theorem nb_opp {i o k : Nat} (hi : i < 91) (ho : o < 91) (hk : k < 3) : fl_nb i k = ma_cell o ↔ i = cix (fl_nb o (3 + k)) := by
  rw [← nb_at ho hi (by omega)]
  constructor
  · intro e
    have w := opp i hi k (by omega) (by rw [e, cix_cell o ho]; exact ho)
    rw [e, cix_cell o ho, show (k + 3) % 6 = 3 + k by omega] at w
    exact w
  · intro e
    have w := opp o ho (3 + k) (by omega) (by rw [e, cix_cell i hi]; exact hi)
    rw [e, cix_cell i hi, show (3 + k + 3) % 6 = k by omega] at w
    exact w
theorem eb_su (G : Nat → Int32) {i k : Nat} (hi : i < 91) (hk : k < 6) : eb G i k = su (fun o => if fl_nb i k = ma_cell o then ev1 G i o else 0) 91 := by
  have e : su (fun o => if fl_nb i k = ma_cell o then ev1 G i o else 0) 91 = su (fun o => if o = cix (fl_nb i k) then ev1 G i o else 0) 91 := su_congr 91 fun o ho => by
    by_cases a : fl_nb i k = ma_cell o
    · rw [if_pos a, if_pos ((nb_at hi ho hk).mp a)]
    · rw [if_neg a, if_neg (fun x => a ((nb_at hi ho hk).mpr x))]
  rw [e, su_ind]
  unfold eb ev1
  by_cases a : cix (fl_nb i k) < 91
  · simp only [if_pos a]
  · simp only [if_neg a]
    split <;> rfl
theorem ef_su (G : Nat → Int32) {o k : Nat} (ho : o < 91) (hk : k < 3) : ef G o (3 + k) = su (fun i => if fl_nb i k = ma_cell o then ev1 G i o else 0) 91 := by
  have e : su (fun i => if fl_nb i k = ma_cell o then ev1 G i o else 0) 91 = su (fun i => if i = cix (fl_nb o (3 + k)) then ev1 G i o else 0) 91 := su_congr 91 fun i hi => by
    by_cases a : fl_nb i k = ma_cell o
    · rw [if_pos a, if_pos ((nb_opp hi ho hk).mp a)]
    · rw [if_neg a, if_neg (fun x => a ((nb_opp hi ho hk).mpr x))]
  rw [e, su_ind (fun i => ev1 G i o)]
  unfold ef ev1
  by_cases a : cix (fl_nb o (3 + k)) < 91
  · simp only [if_pos a]
    by_cases b : G o < 0
    · simp only [if_pos b]
      split <;> rfl
    · simp only [if_neg b]
  · simp only [if_neg a]
    split <;> rfl
theorem me_ef (G : Nat → Int32) {i k : Nat} (hi : i < 91) (hk : k < 6) : me1 G i k = ef G i k + eb G i k := by
  unfold me1 ef eb fl_has
  rcases nb_ok i hi k hk with ⟨a, b⟩ | ⟨a, b, -⟩
  · rw [a, if_pos (show (-1 : Int32) < 0 by decide)]
    simp only [if_neg (show ¬ cix (fl_nb i k) < 91 by omega)]
    split <;> rfl
  · rw [b, if_neg (nI_pos (show cix (fl_nb i k) < 2 ^ 31 by omega))]
    simp only [if_pos a]
    by_cases c : G i < 0
    · by_cases d : G (cix (fl_nb i k)) < 0
      · simp only [if_pos c, if_pos d]; rfl
      · simp only [if_pos c, if_neg d]; rfl
    · by_cases d : G (cix (fl_nb i k)) < 0
      · simp only [if_neg c, if_pos d]; rfl
      · simp only [if_neg c, if_neg d]; rfl
theorem bare_ef {g G : Nat → Int32} (ok : fl_ok g) (e : ∀ i, i < 91 → g (ma_cell i) = G i) (b : ∀ i, i < 91 → G i = -1 ∨ ¬ G i < 0) {i j : Nat} (hi : i < 91) (hj : j < 6) : fl_bare g (fl_nb i j) = if cix (fl_nb i j) < 91 then if G (cix (fl_nb i j)) < 0 then 1 else 0 else 0 := by
  unfold fl_bare
  rcases nb_ok i hi j hj with ⟨a1, a2⟩ | ⟨a1, a2, a3⟩
  · rw [if_neg (show ¬ cix (fl_nb i j) < 91 by omega), ok.2 _ (fl_nb_ok i hi j hj).2 (fun o ho w => by rw [w, cix_cell o ho] at a2; omega)]
    rfl
  · rw [if_pos a1]
    have w : g (fl_nb i j) = G (cix (fl_nb i j)) := by rw [← e _ a1, ← a3]
    rw [w]
    rcases b _ a1 with c | c
    · rw [if_pos c, if_pos (by rw [c]; decide)]
    · rw [if_neg (fun x => c (by rw [x]; decide)), if_neg c]
theorem edge1 {g G : Nat → Int32} (ok : fl_ok g) (e : ∀ i, i < 91 → g (ma_cell i) = G i) (b : ∀ i, i < 91 → G i = -1 ∨ ¬ G i < 0) : ∀ n, n ≤ 91 → fl_edge g n = su (fun i => su (ef G i) 6) n
  | 0, _ => rfl
  | n + 1, hn => by
    show (if g (ma_cell n) < 0 then fl_edge g n else su2 (fl_edge g n) (fun j => fl_bare g (fl_nb n j)) 6) = su (fun i => su (ef G i) 6) n + su (ef G n) 6
    rw [edge1 ok e b n (by omega), e n (by omega)]
    by_cases c : G n < 0
    · rw [if_pos c, su_congr (f := ef G n) (f2 := fun _ => 0) 6 (fun i _ => if_pos c), su_nil, Int32.add_zero]
    · rw [if_neg c, su2_su, su_congr (f := ef G n) (f2 := fun j => fl_bare g (fl_nb n j)) 6 (fun j hj => by rw [bare_ef ok e b (by omega) hj]; exact if_neg c)]
theorem edge2 {G : Nat → Int32} : ∀ n, n ≤ 91 → ml_edge G n = su (fun i => su (ef G i) 3 + su (eb G i) 3) n
  | 0, _ => rfl
  | n + 1, hn => by
    show su2 (ml_edge G n) (me1 G n) 3 = su (fun i => su (ef G i) 3 + su (eb G i) 3) n + (su (ef G n) 3 + su (eb G n) 3)
    rw [su2_su, edge2 n (by omega), ← su_add, su_congr 3 (fun k hk => me_ef G (by omega) (by omega))]
theorem su_36 (f : Nat → Int32) : su f 6 = su f 3 + su (fun k => f (3 + k)) 3 := by
  show 0 + f 0 + f 1 + f 2 + f 3 + f 4 + f 5 = 0 + f 0 + f 1 + f 2 + (0 + f 3 + f 4 + f 5)
  rw [Int32.zero_add (f 3), Int32.add_assoc (0 + f 0 + f 1 + f 2 + f 3), Int32.add_assoc (0 + f 0 + f 1 + f 2), Int32.add_assoc (f 3)]
theorem edge_eq {g G : Nat → Int32} (ok : fl_ok g) (e : ∀ i, i < 91 → g (ma_cell i) = G i) (b : ∀ i, i < 91 → G i = -1 ∨ ¬ G i < 0) : fl_edge g 91 = ml_edge G 91 := by
  rw [edge1 ok e b 91 (Nat.le_refl _), edge2 91 (Nat.le_refl _), su_congr 91 (fun i _ => su_36 (ef G i)), su_add, su_add]
  refine congrArg (fun z => su (fun i => su (ef G i) 3) 91 + z) ?_
  rw [su_swap (fun i k => ef G i (3 + k)) 3 91, su_swap (fun i k => eb G i k) 3 91]
  refine su_congr 3 fun k hk => ?_
  rw [su_congr (f := fun i => ef G i (3 + k)) 91 (fun o ho => ef_su G ho hk), su_congr (f := fun i => eb G i k) 91 (fun i hi => eb_su G hi (by omega))]
  exact (su_swap (fun i o => if fl_nb i k = ma_cell o then ev1 G i o else 0) 91 91).symm
theorem s195 {h : ma_H} {Q : ma_Q} {A : Nat} (H : Sh h) (R : Rt h) (hA : A + 91 ≤ 910) (k : Q (some (.int (ml_span (fun i => ai h 88 (A + i)) 91))) h) : ma_X 195 [.ref 80, .int (nI A)] h Q := by
  have lp : ∀ ni i, i + ni = 91 → At 195 Q 4 (0, 0) [some (.ref 80), some (.int (nI A)), some (.int (ml_span (fun i => ai h 88 (A + i)) i)), some (.int (nI i))] [] h := by
    intro ni
    induction ni with
    | zero =>
      intro i e
      obtain rfl : i = 91 := by omega
      refine go 60 (by decide) ?_
      simp only [KX, KY, KZ, KW, KV, Nat.reduceAdd, Nat.reduceSub, Nat.reduceLeDiff, true_and, and_true, true_or, or_true, or_self, reduceCtorEq, if_true, if_false, not_false_eq_true, eq_self, c195, H.e80, H.e83, H.e86]
      rw [if_neg (show ¬ nI 91 < (91 : Int32) from nI_nlt (Nat.le_refl _) (by decide))]
      exact k
    | succ ni ih =>
      intro i e
      have hi : i < 91 := by omega
      have e1i := nI_1 i
      refine go 60 (by decide) ?_
      simp only [KX, KY, KZ, KW, KV, Nat.reduceAdd, Nat.reduceSub, Nat.reduceLeDiff, true_and, and_true, true_or, or_true, or_self, reduceCtorEq, if_true, if_false, not_false_eq_true, eq_self, c195, H.e80, H.e83, H.e86]
      rw [if_pos (show nI i < (91 : Int32) from nI_lt hi (by decide))]
      refine s172 (A := A) H.e80 rfl H.e88 (by omega) ?_
      by_cases b : ai h 88 (A + i) < 0
      · rw [show fl_has (ai h 88) (A + i) = 0 from if_pos b]
        have e2 : ml_span (fun i => ai h 88 (A + i)) (i + 1) = ml_span (fun i => ai h 88 (A + i)) i := if_pos b
        have ih2 := ih (i + 1) (by omega)
        rw [e2] at ih2
        first
          | (with_reducible show At 195 _ 4 _ _ _ _)
          | (refine go 60 (by decide) ?_; simp only [KX, KY, KZ, KW, KV, Nat.reduceAdd, Nat.reduceSub, Nat.reduceLeDiff, true_and, and_true, true_or, or_true, or_self, reduceCtorEq, if_true, if_false, not_false_eq_true, eq_self, c195, H.e80, H.e83, H.e86])
        first
          | (with_reducible show At 195 _ 4 _ _ _ _)
          | (refine go 60 (by decide) ?_; simp only [KX, KY, KZ, KW, KV, Nat.reduceAdd, Nat.reduceSub, Nat.reduceLeDiff, true_and, and_true, true_or, or_true, or_self, reduceCtorEq, if_true, if_false, not_false_eq_true, eq_self, c195, H.e80, H.e83, H.e86])
        first
          | (with_reducible show At 195 _ 4 _ _ _ _)
          | (refine go 60 (by decide) ?_; simp only [KX, KY, KZ, KW, KV, Nat.reduceAdd, Nat.reduceSub, Nat.reduceLeDiff, true_and, and_true, true_or, or_true, or_self, reduceCtorEq, if_true, if_false, not_false_eq_true, eq_self, c195, H.e80, H.e83, H.e86])
        rw [e1i]
        exact At_le ih2 ⟨rfl, rfl, rfl, rfl, trivial⟩
      · rw [show fl_has (ai h 88) (A + i) = 1 from if_neg b]
        refine go 60 (by decide) ?_
        simp only [KX, KY, KZ, KW, KV, Nat.reduceAdd, Nat.reduceSub, Nat.reduceLeDiff, true_and, and_true, true_or, or_true, or_self, reduceCtorEq, if_true, if_false, not_false_eq_true, eq_self, c195, H.e80, H.e83, H.e86]
        rw [nI_clamp (show i < 2 ^ 31 by omega), (R.1 i hi).2.2.1]
        refine ⟨nI_in hi (by decide), ?_⟩
        by_cases c : ml_span (fun i => ai h 88 (A + i)) i < fl_ring i
        · rw [if_neg (Int32.not_le.mpr c)]
          first
            | refine ⟨nI_in hi (by decide), ?_⟩
            | skip
          have e2 : ml_span (fun i => ai h 88 (A + i)) (i + 1) = fl_ring i := (if_neg b).trans (if_pos c)
          have ih2 := ih (i + 1) (by omega)
          rw [e2] at ih2
          first
            | (with_reducible show At 195 _ 4 _ _ _ _)
            | (refine go 60 (by decide) ?_; simp only [KX, KY, KZ, KW, KV, Nat.reduceAdd, Nat.reduceSub, Nat.reduceLeDiff, true_and, and_true, true_or, or_true, or_self, reduceCtorEq, if_true, if_false, not_false_eq_true, eq_self, c195, H.e80, H.e83, H.e86])
          first
            | (with_reducible show At 195 _ 4 _ _ _ _)
            | (refine go 60 (by decide) ?_; simp only [KX, KY, KZ, KW, KV, Nat.reduceAdd, Nat.reduceSub, Nat.reduceLeDiff, true_and, and_true, true_or, or_true, or_self, reduceCtorEq, if_true, if_false, not_false_eq_true, eq_self, c195, H.e80, H.e83, H.e86])
          first
            | (with_reducible show At 195 _ 4 _ _ _ _)
            | (refine go 60 (by decide) ?_; simp only [KX, KY, KZ, KW, KV, Nat.reduceAdd, Nat.reduceSub, Nat.reduceLeDiff, true_and, and_true, true_or, or_true, or_self, reduceCtorEq, if_true, if_false, not_false_eq_true, eq_self, c195, H.e80, H.e83, H.e86])
          rw [e1i]
          exact At_le ih2 ⟨rfl, rfl, rfl, rfl, trivial⟩
        · rw [if_pos (Int32.not_lt.mp c)]
          have e2 : ml_span (fun i => ai h 88 (A + i)) (i + 1) = ml_span (fun i => ai h 88 (A + i)) i := (if_neg b).trans (if_neg c)
          have ih2 := ih (i + 1) (by omega)
          rw [e2] at ih2
          first
            | (with_reducible show At 195 _ 4 _ _ _ _)
            | (refine go 60 (by decide) ?_; simp only [KX, KY, KZ, KW, KV, Nat.reduceAdd, Nat.reduceSub, Nat.reduceLeDiff, true_and, and_true, true_or, or_true, or_self, reduceCtorEq, if_true, if_false, not_false_eq_true, eq_self, c195, H.e80, H.e83, H.e86])
          first
            | (with_reducible show At 195 _ 4 _ _ _ _)
            | (refine go 60 (by decide) ?_; simp only [KX, KY, KZ, KW, KV, Nat.reduceAdd, Nat.reduceSub, Nat.reduceLeDiff, true_and, and_true, true_or, or_true, or_self, reduceCtorEq, if_true, if_false, not_false_eq_true, eq_self, c195, H.e80, H.e83, H.e86])
          first
            | (with_reducible show At 195 _ 4 _ _ _ _)
            | (refine go 60 (by decide) ?_; simp only [KX, KY, KZ, KW, KV, Nat.reduceAdd, Nat.reduceSub, Nat.reduceLeDiff, true_and, and_true, true_or, or_true, or_self, reduceCtorEq, if_true, if_false, not_false_eq_true, eq_self, c195, H.e80, H.e83, H.e86])
          rw [e1i]
          exact At_le ih2 ⟨rfl, rfl, rfl, rfl, trivial⟩
  refine ma_enter (m := 195) (Or.inl (by decide)) (by show 2 ≤ mt_n 195; decide +kernel) ?_
  show At 195 Q 0 (mt_c 195) [some (.ref 80), some (.int (nI A)), none, none] [] h
  refine go 60 (by decide) ?_
  simp only [KX, KY, KZ, KW, KV, Nat.reduceAdd, Nat.reduceSub, Nat.reduceLeDiff, true_and, and_true, true_or, or_true, or_self, reduceCtorEq, if_true, if_false, not_false_eq_true, eq_self, c195]
  exact lp 91 0 rfl
theorem s196 {h : ma_H} {Q : ma_Q} {A : Nat} (H : Sh h) (R : Rt h) (hA : A + 91 ≤ 910) (k : Q (some (.int (ml_edge (fun i => ai h 88 (A + i)) 91))) h) : ma_X 196 [.ref 80, .int (nI A)] h Q := by
  have lp : ∀ ni i, i + ni = 91 → At 196 Q 4 (0, 0) [some (.ref 80), some (.int (nI A)), some (.int (ml_edge (fun i => ai h 88 (A + i)) i)), some (.int (nI i)), none, none] [] h := by
    intro ni
    induction ni with
    | zero =>
      intro i e
      obtain rfl : i = 91 := by omega
      refine go 60 (by decide) ?_
      simp only [KX, KY, KZ, KW, KV, Nat.reduceAdd, Nat.reduceSub, Nat.reduceLeDiff, true_and, and_true, true_or, or_true, or_self, reduceCtorEq, if_true, if_false, not_false_eq_true, eq_self, c196, H.e80, H.e83, H.e86]
      rw [if_neg (show ¬ nI 91 < (91 : Int32) from nI_nlt (Nat.le_refl _) (by decide))]
      exact k
    | succ ni ih =>
      intro i e
      have hi : i < 91 := by omega
      have e1i := nI_1 i
      refine go 60 (by decide) ?_
      simp only [KX, KY, KZ, KW, KV, Nat.reduceAdd, Nat.reduceSub, Nat.reduceLeDiff, true_and, and_true, true_or, or_true, or_self, reduceCtorEq, if_true, if_false, not_false_eq_true, eq_self, c196, H.e80, H.e83, H.e86]
      rw [if_pos (show nI i < (91 : Int32) from nI_lt hi (by decide))]
      have e6 : (6 : Int32) * nI i = nI (6 * i) := nI_mul 6 i
      have lq : ∀ nj j, j + nj = 3 → At 196 Q 9 (0, 0) [some (.ref 80), some (.int (nI A)), some (.int (su2 (ml_edge (fun i => ai h 88 (A + i)) i) (me1 (fun i => ai h 88 (A + i)) i) j)), some (.int (nI i)), some (.int (nI j)), none] [] h := by
        intro nj
        induction nj with
        | zero =>
          intro j ej
          obtain rfl : j = 3 := by omega
          refine go 60 (by decide) ?_
          simp only [KX, KY, KZ, KW, KV, Nat.reduceAdd, Nat.reduceSub, Nat.reduceLeDiff, true_and, and_true, true_or, or_true, or_self, reduceCtorEq, if_true, if_false, not_false_eq_true, eq_self, c196, H.e80, H.e83, H.e86, e6]
          rw [if_neg (show ¬ nI 3 < (3 : Int32) from nI_nlt (Nat.le_refl _) (by decide))]
          first
            | (with_reducible show At 196 _ 4 _ _ _ _)
            | (refine go 60 (by decide) ?_; simp only [KX, KY, KZ, KW, KV, Nat.reduceAdd, Nat.reduceSub, Nat.reduceLeDiff, true_and, and_true, true_or, or_true, or_self, reduceCtorEq, if_true, if_false, not_false_eq_true, eq_self, c196, H.e80, H.e83, H.e86, e6])
          first
            | (with_reducible show At 196 _ 4 _ _ _ _)
            | (refine go 60 (by decide) ?_; simp only [KX, KY, KZ, KW, KV, Nat.reduceAdd, Nat.reduceSub, Nat.reduceLeDiff, true_and, and_true, true_or, or_true, or_self, reduceCtorEq, if_true, if_false, not_false_eq_true, eq_self, c196, H.e80, H.e83, H.e86, e6])
          first
            | (with_reducible show At 196 _ 4 _ _ _ _)
            | (refine go 60 (by decide) ?_; simp only [KX, KY, KZ, KW, KV, Nat.reduceAdd, Nat.reduceSub, Nat.reduceLeDiff, true_and, and_true, true_or, or_true, or_self, reduceCtorEq, if_true, if_false, not_false_eq_true, eq_self, c196, H.e80, H.e83, H.e86, e6])
          rw [e1i]
          exact At_le (ih (i + 1) (by omega)) ⟨rfl, rfl, rfl, rfl, trivial⟩
        | succ nj jh =>
          intro j ej
          have hj : j < 3 := by omega
          have e1j := nI_1 j
          refine go 60 (by decide) ?_
          simp only [KX, KY, KZ, KW, KV, Nat.reduceAdd, Nat.reduceSub, Nat.reduceLeDiff, true_and, and_true, true_or, or_true, or_self, reduceCtorEq, if_true, if_false, not_false_eq_true, eq_self, c196, H.e80, H.e83, H.e86, e6]
          rw [if_pos (show nI j < (3 : Int32) from nI_lt hj (by decide))]
          rw [nI_add, nI_clamp (show 6 * i + j < 2 ^ 31 by omega), R.2.1 i hi j (by omega)]
          refine ⟨nI_in (show 6 * i + j < 546 by omega) (by decide), ?_⟩
          rcases nb_ok i hi j (by omega) with ⟨n1, n2⟩ | ⟨n1, n2, -⟩
          · rw [n1, if_pos (show (-1 : Int32) < 0 by decide)]
            have e2 : su2 (ml_edge (fun i => ai h 88 (A + i)) i) (me1 (fun i => ai h 88 (A + i)) i) (j + 1) = su2 (ml_edge (fun i => ai h 88 (A + i)) i) (me1 (fun i => ai h 88 (A + i)) i) j + 0 := by
              show su2 (ml_edge (fun i => ai h 88 (A + i)) i) (me1 (fun i => ai h 88 (A + i)) i) j + me1 (fun i => ai h 88 (A + i)) i j = _
              rw [show me1 (fun i => ai h 88 (A + i)) i j = 0 from if_pos (by rw [n1]; decide)]
            have ih2 := jh (j + 1) (by omega)
            rw [e2] at ih2
            first
              | (with_reducible show At 196 _ 9 _ _ _ _)
              | (refine go 60 (by decide) ?_; simp only [KX, KY, KZ, KW, KV, Nat.reduceAdd, Nat.reduceSub, Nat.reduceLeDiff, true_and, and_true, true_or, or_true, or_self, reduceCtorEq, if_true, if_false, not_false_eq_true, eq_self, c196, H.e80, H.e83, H.e86, e6])
            first
              | (with_reducible show At 196 _ 9 _ _ _ _)
              | (refine go 60 (by decide) ?_; simp only [KX, KY, KZ, KW, KV, Nat.reduceAdd, Nat.reduceSub, Nat.reduceLeDiff, true_and, and_true, true_or, or_true, or_self, reduceCtorEq, if_true, if_false, not_false_eq_true, eq_self, c196, H.e80, H.e83, H.e86, e6])
            first
              | (with_reducible show At 196 _ 9 _ _ _ _)
              | (refine go 60 (by decide) ?_; simp only [KX, KY, KZ, KW, KV, Nat.reduceAdd, Nat.reduceSub, Nat.reduceLeDiff, true_and, and_true, true_or, or_true, or_self, reduceCtorEq, if_true, if_false, not_false_eq_true, eq_self, c196, H.e80, H.e83, H.e86, e6])
            rw [e1j]
            exact At_le ih2 ⟨rfl, rfl, rfl, rfl, rfl, trivial⟩
          · rw [n2, if_neg (nI_pos (show cix (fl_nb i j) < 2 ^ 31 by omega))]
            refine s172 (A := A) H.e80 rfl H.e88 (by omega) ?_
            refine go 60 (by decide) ?_
            simp only [KX, KY, KZ, KW, KV, Nat.reduceAdd, Nat.reduceSub, Nat.reduceLeDiff, true_and, and_true, true_or, or_true, or_self, reduceCtorEq, if_true, if_false, not_false_eq_true, eq_self, c196, H.e80, H.e83, H.e86, e6]
            try rw [if_neg (nI_pos (show cix (fl_nb i j) < 2 ^ 31 by omega))]
            try (refine go 60 (by decide) ?_; simp only [KX, KY, KZ, KW, KV, Nat.reduceAdd, Nat.reduceSub, Nat.reduceLeDiff, true_and, and_true, true_or, or_true, or_self, reduceCtorEq, if_true, if_false, not_false_eq_true, eq_self, c196, H.e80, H.e83, H.e86, e6])
            refine s172 (A := A) H.e80 rfl H.e88 (by omega) ?_
            have m1 : ¬ m_nb i j < 0 := by rw [n2]; exact nI_pos (by omega)
            by_cases c : fl_has (ai h 88) (A + i) = fl_has (ai h 88) (A + cix (fl_nb i j))
            · refine go 60 (by decide) ?_
              simp only [KX, KY, KZ, KW, KV, Nat.reduceAdd, Nat.reduceSub, Nat.reduceLeDiff, true_and, and_true, true_or, or_true, or_self, reduceCtorEq, if_true, if_false, not_false_eq_true, eq_self, c196, H.e80, H.e83, H.e86, e6]
              rw [if_pos c]
              have e2 : su2 (ml_edge (fun i => ai h 88 (A + i)) i) (me1 (fun i => ai h 88 (A + i)) i) (j + 1) = su2 (ml_edge (fun i => ai h 88 (A + i)) i) (me1 (fun i => ai h 88 (A + i)) i) j + 0 := by
                show su2 (ml_edge (fun i => ai h 88 (A + i)) i) (me1 (fun i => ai h 88 (A + i)) i) j + me1 (fun i => ai h 88 (A + i)) i j = _
                rw [show me1 (fun i => ai h 88 (A + i)) i j = 0 from (if_neg m1).trans (if_pos c)]
              have ih2 := jh (j + 1) (by omega)
              rw [e2] at ih2
              first
                | (with_reducible show At 196 _ 9 _ _ _ _)
                | (refine go 60 (by decide) ?_; simp only [KX, KY, KZ, KW, KV, Nat.reduceAdd, Nat.reduceSub, Nat.reduceLeDiff, true_and, and_true, true_or, or_true, or_self, reduceCtorEq, if_true, if_false, not_false_eq_true, eq_self, c196, H.e80, H.e83, H.e86, e6])
              first
                | (with_reducible show At 196 _ 9 _ _ _ _)
                | (refine go 60 (by decide) ?_; simp only [KX, KY, KZ, KW, KV, Nat.reduceAdd, Nat.reduceSub, Nat.reduceLeDiff, true_and, and_true, true_or, or_true, or_self, reduceCtorEq, if_true, if_false, not_false_eq_true, eq_self, c196, H.e80, H.e83, H.e86, e6])
              first
                | (with_reducible show At 196 _ 9 _ _ _ _)
                | (refine go 60 (by decide) ?_; simp only [KX, KY, KZ, KW, KV, Nat.reduceAdd, Nat.reduceSub, Nat.reduceLeDiff, true_and, and_true, true_or, or_true, or_self, reduceCtorEq, if_true, if_false, not_false_eq_true, eq_self, c196, H.e80, H.e83, H.e86, e6])
              rw [e1j]
              exact At_le ih2 ⟨rfl, rfl, rfl, rfl, rfl, trivial⟩
            · refine go 60 (by decide) ?_
              simp only [KX, KY, KZ, KW, KV, Nat.reduceAdd, Nat.reduceSub, Nat.reduceLeDiff, true_and, and_true, true_or, or_true, or_self, reduceCtorEq, if_true, if_false, not_false_eq_true, eq_self, c196, H.e80, H.e83, H.e86, e6]
              rw [if_neg c]
              have e2 : su2 (ml_edge (fun i => ai h 88 (A + i)) i) (me1 (fun i => ai h 88 (A + i)) i) (j + 1) = su2 (ml_edge (fun i => ai h 88 (A + i)) i) (me1 (fun i => ai h 88 (A + i)) i) j + 1 := by
                show su2 (ml_edge (fun i => ai h 88 (A + i)) i) (me1 (fun i => ai h 88 (A + i)) i) j + me1 (fun i => ai h 88 (A + i)) i j = _
                rw [show me1 (fun i => ai h 88 (A + i)) i j = 1 from (if_neg m1).trans (if_neg c)]
              have ih2 := jh (j + 1) (by omega)
              rw [e2] at ih2
              first
                | (with_reducible show At 196 _ 9 _ _ _ _)
                | (refine go 60 (by decide) ?_; simp only [KX, KY, KZ, KW, KV, Nat.reduceAdd, Nat.reduceSub, Nat.reduceLeDiff, true_and, and_true, true_or, or_true, or_self, reduceCtorEq, if_true, if_false, not_false_eq_true, eq_self, c196, H.e80, H.e83, H.e86, e6])
              first
                | (with_reducible show At 196 _ 9 _ _ _ _)
                | (refine go 60 (by decide) ?_; simp only [KX, KY, KZ, KW, KV, Nat.reduceAdd, Nat.reduceSub, Nat.reduceLeDiff, true_and, and_true, true_or, or_true, or_self, reduceCtorEq, if_true, if_false, not_false_eq_true, eq_self, c196, H.e80, H.e83, H.e86, e6])
              first
                | (with_reducible show At 196 _ 9 _ _ _ _)
                | (refine go 60 (by decide) ?_; simp only [KX, KY, KZ, KW, KV, Nat.reduceAdd, Nat.reduceSub, Nat.reduceLeDiff, true_and, and_true, true_or, or_true, or_self, reduceCtorEq, if_true, if_false, not_false_eq_true, eq_self, c196, H.e80, H.e83, H.e86, e6])
              rw [e1j]
              exact At_le ih2 ⟨rfl, rfl, rfl, rfl, rfl, trivial⟩
      first
        | (with_reducible show At 196 _ 9 _ _ _ _)
        | (refine go 60 (by decide) ?_; simp only [KX, KY, KZ, KW, KV, Nat.reduceAdd, Nat.reduceSub, Nat.reduceLeDiff, true_and, and_true, true_or, or_true, or_self, reduceCtorEq, if_true, if_false, not_false_eq_true, eq_self, c196, H.e80, H.e83, H.e86, e6])
      first
        | (with_reducible show At 196 _ 9 _ _ _ _)
        | (refine go 60 (by decide) ?_; simp only [KX, KY, KZ, KW, KV, Nat.reduceAdd, Nat.reduceSub, Nat.reduceLeDiff, true_and, and_true, true_or, or_true, or_self, reduceCtorEq, if_true, if_false, not_false_eq_true, eq_self, c196, H.e80, H.e83, H.e86, e6])
      first
        | (with_reducible show At 196 _ 9 _ _ _ _)
        | (refine go 60 (by decide) ?_; simp only [KX, KY, KZ, KW, KV, Nat.reduceAdd, Nat.reduceSub, Nat.reduceLeDiff, true_and, and_true, true_or, or_true, or_self, reduceCtorEq, if_true, if_false, not_false_eq_true, eq_self, c196, H.e80, H.e83, H.e86, e6])
      exact At_le (lq 3 0 rfl) ⟨rfl, rfl, rfl, rfl, rfl, trivial⟩
  refine ma_enter (m := 196) (Or.inl (by decide)) (by show 2 ≤ mt_n 196; decide +kernel) ?_
  show At 196 Q 0 (mt_c 196) [some (.ref 80), some (.int (nI A)), none, none, none, none] [] h
  refine go 60 (by decide) ?_
  simp only [KX, KY, KZ, KW, KV, Nat.reduceAdd, Nat.reduceSub, Nat.reduceLeDiff, true_and, and_true, true_or, or_true, or_self, reduceCtorEq, if_true, if_false, not_false_eq_true, eq_self, c196]
  exact At_le (lp 91 0 rfl) ⟨rfl, rfl, rfl, rfl, trivial⟩
