/-! THE LAW: what it picks -/
theorem tv_c {F F2 : Nat → Int32} (e : ∀ j, j < 6 → F j = F2 j) {v : Nat} (hv : v < 1006) : tv F v = tv F2 v := by
  unfold tv
  split
  · rfl
  · exact e _ (by omega)
theorem cb_c {F F2 : Nat → Int32} {o l r : Nat} (e1 : tv F l = tv F2 l) (e2 : tv F r = tv F2 r) : cb F o l r = cb F2 o l r := by
  unfold cb
  rw [e1, e2]
def op3 : List Bool → Option (List Bool)
  | b :: r => some ((!b) :: r)
  | [] => none
def op4 : List Bool → Option (List Bool)
  | b :: a :: r => some ((a && b) :: r)
  | _ => none
def op5 : List Bool → Option (List Bool)
  | b :: a :: r => some ((a || b) :: r)
  | _ => none
theorem tk_3 (F : Nat → Int32) (D l r : Nat) (st : List Bool) : tk F D (3, l, r) st = op3 st := by
  match st with
  | [] => rfl
  | b :: q => rfl
theorem tk_4 (F : Nat → Int32) (D l r : Nat) (st : List Bool) : tk F D (4, l, r) st = op4 st := by
  match st with
  | [] => rfl
  | [b] => rfl
  | b :: a :: q => rfl
theorem tk_5 (F : Nat → Int32) (D l r : Nat) (st : List Bool) : tk F D (5, l, r) st = op5 st := by
  match st with
  | [] => rfl
  | [b] => rfl
  | b :: a :: q => rfl
theorem tk_c {F F2 : Nat → Int32} (e : ∀ j, j < 6 → F j = F2 j) (D : Nat) {t : Tok} (ok : tok_ok t) (st : List Bool) : tk F D t st = tk F2 D t st := by
  obtain ⟨o, l, r⟩ := t
  obtain ⟨o1, o2, o3⟩ := ok
  dsimp only at o1 o2 o3
  have e1 := tv_c e o2
  have e2 := tv_c e o3
  rcases (show o < 3 ∨ o = 3 ∨ o = 4 ∨ o = 5 by omega) with ho | rfl | rfl | rfl
  · rw [tk_cmp F D ho, tk_cmp F2 D ho, cb_c e1 e2]
  · exact (tk_3 F D l r st).trans (tk_3 F2 D l r st).symm
  · exact (tk_4 F D l r st).trans (tk_4 F2 D l r st).symm
  · exact (tk_5 F D l r st).trans (tk_5 F2 D l r st).symm
theorem ev_c {F F2 : Nat → Int32} (e : ∀ j, j < 6 → F j = F2 j) (D : Nat) : ∀ (P : List Tok) (st : List Bool), (∀ t ∈ P, tok_ok t) → ev F D P st = ev F2 D P st
  | [], _, _ => rfl
  | t :: r, st, ok => by
    rw [ev_cons, ev_cons, tk_c e D (ok t (by simp)) st]
    cases tk F2 D t st with
    | none => rfl
    | some q => exact ev_c e D r q (fun t ht => ok t (List.mem_cons_of_mem _ ht))
def lres (P : Nat → List Tok) (F : Nat → Int32) (i : Nat) : Bool := sres ((ev F 30 (P i) []).getD [])
/-- what each CLAUSE comes to, on both sides -/
def LA (h : ma_H) (n : Nat) (R : (Nat → Int32) → Nat → Bool) : Prop := ∀ i, i < n → ai h 50 i = ai h 92 (3 * i) ∧ (ai h 50 i = -1 ∨ ∃ u, u ≤ 5 ∧ ai h 50 i = nI u) ∧ (∀ F F2 : Nat → Int32, (∀ j, j < 6 → F j = F2 j) → R F i = R F2 i) ∧ (∀ (h1 : ma_H) (F : Nat → Int32) (Q : ma_Q), Sh h1 → h1.2.1 51 = h.2.1 51 → h1.2.1 52 = h.2.1 52 → h1.2.1 56 = .inl (.int, 6, .inl F) → Q (some (.int (bI (R F i)))) h1 → ma_X 59 [.ref 49, .int (nI i), .ref 56] h1 Q) ∧ ∀ (h1 : ma_H) (F : Nat → Int32) (Q : ma_Q), Sh h1 → h1.2.1 93 = h.2.1 93 → h1.2.1 95 = .inl (.int, 6, .inl F) → (∀ g, Q (some (.int (bI (R F i)))) (ma_set h1 98 (.inl (.boolean, 100, .inl g)))) → ma_X 189 [.ref 80, .ref 93, .int (ai h 92 (3 * i + 1)), .int (ai h 92 (3 * i + 2))] h1 Q
theorem ai_c {h h1 : ma_H} {a : Nat} (e : h1.2.1 a = h.2.1 a) : ai h1 a = ai h a := by
  show aiC _ = aiC _
  rw [e]
theorem Nl.use {h : ma_H} (N : Nl h) : ∃ n, n ≤ 8 ∧ fi h 49 0 = nI n ∧ fi h 80 14 = nI n ∧ ∃ R, LA h n R := by
  obtain ⟨n, n8, e1, e2, A, B, P, M, A0, w⟩ := N
  refine ⟨n, n8, e1, e2, lres P, fun i hi => ?_⟩
  obtain ⟨⟨c1, c2, c3, c4, c5, c6, c7, c8, c9, c10, c11, c12⟩, c13⟩ := w i hi
  refine ⟨c1, c2, fun F F2 e => ?_, fun h1 F Q H1 x1 x2 x3 k => ?_, fun h1 F Q H1 x1 x2 k => ?_⟩
  · unfold lres
    rw [ev_c e 30 (P i) [] c10]
  · obtain ⟨st, s1, -, -⟩ := c12 F
    rw [show lres P F i = sres st by unfold lres; rw [s1]; rfl] at k
    refine s59 (a := A i) (P := P i) (st := st) H1 x3 (by omega) ?_ ?_ c4 ?_ c10 s1 k
    · split
      · rename_i z
        subst z
        exact A0
      · rename_i z
        obtain ⟨m, rfl⟩ : ∃ m, i = m + 1 := ⟨i - 1, by omega⟩
        obtain ⟨⟨-, -, d3, -⟩, d13⟩ := w m (by omega)
        rw [ai_c x1, Nat.add_sub_cancel, d3, d13]
    · rw [ai_c x1]
      exact c3
    · rw [ai_c x2]
      exact c5
  · obtain ⟨st, s1, s2, s3⟩ := c12 F
    rw [show lres P F i = sres st by unfold lres; rw [s1]; rfl] at k
    rw [c6, c7]
    exact s189 H1 x2 c8 (by rw [ai_c x1]; exact c9) c11 s2 s3 k
def lastU (used : Nat → Int32) (R : Nat → Bool) : Nat → Int32
  | 0 => 0
  | n + 1 => if used n = -1 then lastU used R n else if R n then used n else lastU used R n
def someP (used : Nat → Int32) (R : Nat → Bool) : Nat → Int32
  | 0 => 0
  | n + 1 => if someP used R n = 0 then if used n = -1 then bI (R n) else 0 else 1
theorem someP01 (used : Nat → Int32) (R : Nat → Bool) : ∀ n, someP used R n = 0 ∨ someP used R n = 1
  | 0 => Or.inl rfl
  | n + 1 => by
    show (if someP used R n = 0 then if used n = -1 then bI (R n) else 0 else 1) = 0 ∨ (if someP used R n = 0 then if used n = -1 then bI (R n) else 0 else 1) = 1
    split
    · split
      · exact bI01 _
      · exact Or.inl rfl
    · exact Or.inr rfl
theorem someP_y {used : Nat → Int32} {R : Nat → Bool} {n : Nat} (c : used n = -1) (b : R n = true) : someP used R (n + 1) = 1 := by
  show (if someP used R n = 0 then if used n = -1 then bI (R n) else 0 else 1) = 1
  rw [if_pos c, b]
  split <;> rfl
theorem someP_f {used : Nat → Int32} {R : Nat → Bool} {n : Nat} (b : R n = false) : someP used R (n + 1) = someP used R n := by
  show (if someP used R n = 0 then if used n = -1 then bI (R n) else 0 else 1) = _
  rw [b]
  rcases someP01 used R n with s | s
  · rw [if_pos s, s]
    split <;> rfl
  · rw [if_neg (by rw [s]; decide), s]
theorem someP_n {used : Nat → Int32} {R : Nat → Bool} {n : Nat} (c : ¬ used n = -1) : someP used R (n + 1) = someP used R n := by
  show (if someP used R n = 0 then if used n = -1 then bI (R n) else 0 else 1) = _
  rw [if_neg c]
  rcases someP01 used R n with s | s
  · rw [if_pos s, s]
  · rw [if_neg (by rw [s]; decide), s]
theorem lastU_c {used : Nat → Int32} {R R2 : Nat → Bool} : ∀ n, (∀ i, i < n → R i = R2 i) → lastU used R n = lastU used R2 n
  | 0, _ => rfl
  | n + 1, e => by
    show (if used n = -1 then lastU used R n else if R n then used n else lastU used R n) = if used n = -1 then lastU used R2 n else if R2 n then used n else lastU used R2 n
    rw [lastU_c n (fun i hi => e i (by omega)), e n (by omega)]
theorem someP_c {used : Nat → Int32} {R R2 : Nat → Bool} : ∀ n, (∀ i, i < n → R i = R2 i) → someP used R n = someP used R2 n
  | 0, _ => rfl
  | n + 1, e => by
    show (if someP used R n = 0 then if used n = -1 then bI (R n) else 0 else 1) = if someP used R2 n = 0 then if used n = -1 then bI (R2 n) else 0 else 1
    rw [someP_c n (fun i hi => e i (by omega)), e n (by omega)]
theorem lastU_in {used : Nat → Int32} {R : Nat → Bool} : ∀ n, (∀ i, i < n → used i = -1 ∨ ∃ u, u ≤ 5 ∧ used i = nI u) → ∃ u, u ≤ 5 ∧ lastU used R n = nI u
  | 0, _ => ⟨0, by decide, rfl⟩
  | n + 1, e => by
    have ih := lastU_in (used := used) (R := R) n (fun i hi => e i (by omega))
    show ∃ u, u ≤ 5 ∧ (if used n = -1 then lastU used R n else if R n then used n else lastU used R n) = nI u
    split
    · exact ih
    · split
      · exact (e n (by omega)).resolve_left (by assumption)
      · exact ih
def nmv (b : Nat → Int32) (w wt sz sp ed mn : Int32) : Nat → Int32 := upd (upd (upd (upd (upd (upd b 0 w) 1 wt) 2 sz) 3 sp) 4 ed) 5 mn
theorem nmv_c (b b2 : Nat → Int32) (w wt sz sp ed mn : Int32) : ∀ j, j < 6 → nmv b w wt sz sp ed mn j = nmv b2 w wt sz sp ed mn j := by
  intro j hj
  match j, hj with
  | 0, _ => rfl
  | 1, _ => rfl
  | 2, _ => rfl
  | 3, _ => rfl
  | 4, _ => rfl
  | 5, _ => rfl
theorem s57 {h : ma_H} {Q : ma_Q} {n : Nat} {R : Nat → Bool} (H : Sh h) (e : fi h 49 0 = nI n) (n8 : n ≤ 8) (Wt : ∀ i, i < n → ∀ Q : ma_Q, Q (some (.int (bI (R i)))) h → ma_X 59 [.ref 49, .int (nI i), .ref 56] h Q) (k : Q (some (.int (lastU (ai h 50) R n))) h) : ma_X 57 [.ref 49, .ref 56] h Q := by
  have lp : ∀ d i, i + d = n → At 57 Q 4 (0, 0) [some (.ref 49), some (.ref 56), some (.int (lastU (ai h 50) R i)), some (.int (nI i))] [] h := by
    intro d
    induction d with
    | zero =>
      intro i ei
      obtain rfl : i = n := by omega
      refine go 60 (by decide) ?_
      simp only [KX, KY, KZ, KW, KV, Nat.reduceAdd, Nat.reduceSub, Nat.reduceLeDiff, true_and, and_true, true_or, or_true, or_self, reduceCtorEq, if_true, if_false, not_false_eq_true, eq_self, c57, H.e49, H.e50, e]
      rw [if_neg (nI_nlt (Nat.le_refl _) (by omega))]
      exact k
    | succ d ih =>
      intro i ei
      have hi : i < n := by omega
      refine go 60 (by decide) ?_
      simp only [KX, KY, KZ, KW, KV, Nat.reduceAdd, Nat.reduceSub, Nat.reduceLeDiff, true_and, and_true, true_or, or_true, or_self, reduceCtorEq, if_true, if_false, not_false_eq_true, eq_self, c57, H.e49, H.e50, e]
      rw [if_pos (nI_lt hi (by omega)), if_pos (show nI i < (8 : Int32) from nI_lt (b := 8) (by omega) (by decide))]
      rw [nI_clamp (show i < 2 ^ 31 by omega)]
      refine ⟨nI_in (show i < 8 by omega) (by decide), ?_⟩
      by_cases c : ai h 50 i = -1
      · rw [if_pos c]
        have e2 : lastU (ai h 50) R (i + 1) = lastU (ai h 50) R i := if_pos c
        have ih2 := ih (i + 1) (by omega)
        rw [e2] at ih2
        first
          | (with_reducible show At 57 _ 4 _ _ _ _)
          | (refine go 60 (by decide) ?_; simp only [KX, KY, KZ, KW, KV, Nat.reduceAdd, Nat.reduceSub, Nat.reduceLeDiff, true_and, and_true, true_or, or_true, or_self, reduceCtorEq, if_true, if_false, not_false_eq_true, eq_self, c57, H.e49, H.e50])
        first
          | (with_reducible show At 57 _ 4 _ _ _ _)
          | (refine go 60 (by decide) ?_; simp only [KX, KY, KZ, KW, KV, Nat.reduceAdd, Nat.reduceSub, Nat.reduceLeDiff, true_and, and_true, true_or, or_true, or_self, reduceCtorEq, if_true, if_false, not_false_eq_true, eq_self, c57, H.e49, H.e50])
        first
          | (with_reducible show At 57 _ 4 _ _ _ _)
          | (refine go 60 (by decide) ?_; simp only [KX, KY, KZ, KW, KV, Nat.reduceAdd, Nat.reduceSub, Nat.reduceLeDiff, true_and, and_true, true_or, or_true, or_self, reduceCtorEq, if_true, if_false, not_false_eq_true, eq_self, c57, H.e49, H.e50])
        rw [nI_1 i]
        exact At_le ih2 ⟨rfl, rfl, rfl, rfl, trivial⟩
      · rw [if_neg c]
        refine Wt i hi _ ?_
        cases b : R i
        · rw [show bI false = 0 from rfl]
          have e2 : lastU (ai h 50) R (i + 1) = lastU (ai h 50) R i := (if_neg c).trans (if_neg (by rw [b]; decide))
          have ih2 := ih (i + 1) (by omega)
          rw [e2] at ih2
          first
            | (with_reducible show At 57 _ 4 _ _ _ _)
            | (refine go 60 (by decide) ?_; simp only [KX, KY, KZ, KW, KV, Nat.reduceAdd, Nat.reduceSub, Nat.reduceLeDiff, true_and, and_true, true_or, or_true, or_self, reduceCtorEq, if_true, if_false, not_false_eq_true, eq_self, c57, H.e49, H.e50])
          first
            | (with_reducible show At 57 _ 4 _ _ _ _)
            | (refine go 60 (by decide) ?_; simp only [KX, KY, KZ, KW, KV, Nat.reduceAdd, Nat.reduceSub, Nat.reduceLeDiff, true_and, and_true, true_or, or_true, or_self, reduceCtorEq, if_true, if_false, not_false_eq_true, eq_self, c57, H.e49, H.e50])
          first
            | (with_reducible show At 57 _ 4 _ _ _ _)
            | (refine go 60 (by decide) ?_; simp only [KX, KY, KZ, KW, KV, Nat.reduceAdd, Nat.reduceSub, Nat.reduceLeDiff, true_and, and_true, true_or, or_true, or_self, reduceCtorEq, if_true, if_false, not_false_eq_true, eq_self, c57, H.e49, H.e50])
          rw [nI_1 i]
          exact At_le ih2 ⟨rfl, rfl, rfl, rfl, trivial⟩
        · rw [show bI true = 1 from rfl]
          refine go 60 (by decide) ?_
          simp only [KX, KY, KZ, KW, KV, Nat.reduceAdd, Nat.reduceSub, Nat.reduceLeDiff, true_and, and_true, true_or, or_true, or_self, reduceCtorEq, if_true, if_false, not_false_eq_true, eq_self, c57, H.e49, H.e50]
          have e2 : lastU (ai h 50) R (i + 1) = ai h 50 i := (if_neg c).trans (if_pos b)
          have ih2 := ih (i + 1) (by omega)
          rw [e2] at ih2
          rw [nI_clamp (show i < 2 ^ 31 by omega)]
          refine ⟨nI_in (show i < 8 by omega) (by decide), ?_⟩
          first
            | (with_reducible show At 57 _ 4 _ _ _ _)
            | (refine go 60 (by decide) ?_; simp only [KX, KY, KZ, KW, KV, Nat.reduceAdd, Nat.reduceSub, Nat.reduceLeDiff, true_and, and_true, true_or, or_true, or_self, reduceCtorEq, if_true, if_false, not_false_eq_true, eq_self, c57, H.e49, H.e50])
          first
            | (with_reducible show At 57 _ 4 _ _ _ _)
            | (refine go 60 (by decide) ?_; simp only [KX, KY, KZ, KW, KV, Nat.reduceAdd, Nat.reduceSub, Nat.reduceLeDiff, true_and, and_true, true_or, or_true, or_self, reduceCtorEq, if_true, if_false, not_false_eq_true, eq_self, c57, H.e49, H.e50])
          first
            | (with_reducible show At 57 _ 4 _ _ _ _)
            | (refine go 60 (by decide) ?_; simp only [KX, KY, KZ, KW, KV, Nat.reduceAdd, Nat.reduceSub, Nat.reduceLeDiff, true_and, and_true, true_or, or_true, or_self, reduceCtorEq, if_true, if_false, not_false_eq_true, eq_self, c57, H.e49, H.e50])
          rw [nI_1 i]
          exact At_le ih2 ⟨rfl, rfl, rfl, rfl, trivial⟩
  refine ma_enter (m := 57) (Or.inl (by decide)) (by show 2 ≤ mt_n 57; decide +kernel) ?_
  show At 57 Q 0 (mt_c 57) [some (.ref 49), some (.ref 56), none, none] [] h
  refine go 60 (by decide) ?_
  simp only [KX, KY, KZ, KW, KV, Nat.reduceAdd, Nat.reduceSub, Nat.reduceLeDiff, true_and, and_true, true_or, or_true, or_self, reduceCtorEq, if_true, if_false, not_false_eq_true, eq_self, c57, H.e49, H.e50]
  exact lp n 0 (by omega)
theorem s58 {h : ma_H} {Q : ma_Q} {n : Nat} {R : Nat → Bool} (H : Sh h) (e : fi h 49 0 = nI n) (n8 : n ≤ 8) (Wt : ∀ i, i < n → ∀ Q : ma_Q, Q (some (.int (bI (R i)))) h → ma_X 59 [.ref 49, .int (nI i), .ref 56] h Q) (k : Q (some (.int (someP (ai h 50) R n))) h) : ma_X 58 [.ref 49, .ref 56] h Q := by
  have lp : ∀ d i, i + d = n → At 58 Q 4 (0, 0) [some (.ref 49), some (.ref 56), some (.int (someP (ai h 50) R i)), some (.int (nI i))] [] h := by
    intro d
    induction d with
    | zero =>
      intro i ei
      obtain rfl : i = n := by omega
      refine go 60 (by decide) ?_
      simp only [KX, KY, KZ, KW, KV, Nat.reduceAdd, Nat.reduceSub, Nat.reduceLeDiff, true_and, and_true, true_or, or_true, or_self, reduceCtorEq, if_true, if_false, not_false_eq_true, eq_self, c58, H.e49, H.e50, e]
      rw [if_neg (nI_nlt (Nat.le_refl _) (by omega))]
      rcases someP01 (ai h 50) R i with o | o
      · rw [o] at k ⊢
        first
          | exact k
          | exact ⟨Or.inl rfl, k⟩
          | exact ⟨Or.inr rfl, k⟩
      · rw [o] at k ⊢
        first
          | exact k
          | exact ⟨Or.inl rfl, k⟩
          | exact ⟨Or.inr rfl, k⟩
    | succ d ih =>
      intro i ei
      have hi : i < n := by omega
      refine go 60 (by decide) ?_
      simp only [KX, KY, KZ, KW, KV, Nat.reduceAdd, Nat.reduceSub, Nat.reduceLeDiff, true_and, and_true, true_or, or_true, or_self, reduceCtorEq, if_true, if_false, not_false_eq_true, eq_self, c58, H.e49, H.e50, e]
      rw [if_pos (nI_lt hi (by omega)), if_pos (show nI i < (8 : Int32) from nI_lt (b := 8) (by omega) (by decide))]
      rcases someP01 (ai h 50) R i with o | o
      · rw [if_pos o, nI_clamp (show i < 2 ^ 31 by omega)]
        refine ⟨nI_in (show i < 8 by omega) (by decide), ?_⟩
        by_cases c : ai h 50 i = -1
        · rw [if_pos c]
          refine Wt i hi _ ?_
          cases b : R i
          · rw [show bI false = 0 from rfl]
            have e2 : someP (ai h 50) R (i + 1) = 0 := (if_pos o).trans ((if_pos c).trans (by rw [b]; rfl))
            have ih2 := ih (i + 1) (by omega)
            rw [e2] at ih2
            first
              | (with_reducible show At 58 _ 4 _ _ _ _)
              | (refine go 60 (by decide) ?_; simp only [KX, KY, KZ, KW, KV, Nat.reduceAdd, Nat.reduceSub, Nat.reduceLeDiff, true_and, and_true, true_or, or_true, or_self, reduceCtorEq, if_true, if_false, not_false_eq_true, eq_self, c58, H.e49, H.e50])
            first
              | (with_reducible show At 58 _ 4 _ _ _ _)
              | (refine go 60 (by decide) ?_; simp only [KX, KY, KZ, KW, KV, Nat.reduceAdd, Nat.reduceSub, Nat.reduceLeDiff, true_and, and_true, true_or, or_true, or_self, reduceCtorEq, if_true, if_false, not_false_eq_true, eq_self, c58, H.e49, H.e50])
            first
              | (with_reducible show At 58 _ 4 _ _ _ _)
              | (refine go 60 (by decide) ?_; simp only [KX, KY, KZ, KW, KV, Nat.reduceAdd, Nat.reduceSub, Nat.reduceLeDiff, true_and, and_true, true_or, or_true, or_self, reduceCtorEq, if_true, if_false, not_false_eq_true, eq_self, c58, H.e49, H.e50])
            rw [nI_1 i]
            exact At_le ih2 ⟨rfl, rfl, rfl, rfl, trivial⟩
          · rw [show bI true = 1 from rfl]
            have e2 : someP (ai h 50) R (i + 1) = 1 := (if_pos o).trans ((if_pos c).trans (by rw [b]; rfl))
            have ih2 := ih (i + 1) (by omega)
            rw [e2] at ih2
            first
              | (with_reducible show At 58 _ 4 _ _ _ _)
              | (refine go 60 (by decide) ?_; simp only [KX, KY, KZ, KW, KV, Nat.reduceAdd, Nat.reduceSub, Nat.reduceLeDiff, true_and, and_true, true_or, or_true, or_self, reduceCtorEq, if_true, if_false, not_false_eq_true, eq_self, c58, H.e49, H.e50])
            first
              | (with_reducible show At 58 _ 4 _ _ _ _)
              | (refine go 60 (by decide) ?_; simp only [KX, KY, KZ, KW, KV, Nat.reduceAdd, Nat.reduceSub, Nat.reduceLeDiff, true_and, and_true, true_or, or_true, or_self, reduceCtorEq, if_true, if_false, not_false_eq_true, eq_self, c58, H.e49, H.e50])
            first
              | (with_reducible show At 58 _ 4 _ _ _ _)
              | (refine go 60 (by decide) ?_; simp only [KX, KY, KZ, KW, KV, Nat.reduceAdd, Nat.reduceSub, Nat.reduceLeDiff, true_and, and_true, true_or, or_true, or_self, reduceCtorEq, if_true, if_false, not_false_eq_true, eq_self, c58, H.e49, H.e50])
            rw [nI_1 i]
            exact At_le ih2 ⟨rfl, rfl, rfl, rfl, trivial⟩
        · rw [if_neg c]
          have e2 : someP (ai h 50) R (i + 1) = 0 := (if_pos o).trans (if_neg c)
          have ih2 := ih (i + 1) (by omega)
          rw [e2] at ih2
          first
            | (with_reducible show At 58 _ 4 _ _ _ _)
            | (refine go 60 (by decide) ?_; simp only [KX, KY, KZ, KW, KV, Nat.reduceAdd, Nat.reduceSub, Nat.reduceLeDiff, true_and, and_true, true_or, or_true, or_self, reduceCtorEq, if_true, if_false, not_false_eq_true, eq_self, c58, H.e49, H.e50])
          first
            | (with_reducible show At 58 _ 4 _ _ _ _)
            | (refine go 60 (by decide) ?_; simp only [KX, KY, KZ, KW, KV, Nat.reduceAdd, Nat.reduceSub, Nat.reduceLeDiff, true_and, and_true, true_or, or_true, or_self, reduceCtorEq, if_true, if_false, not_false_eq_true, eq_self, c58, H.e49, H.e50])
          first
            | (with_reducible show At 58 _ 4 _ _ _ _)
            | (refine go 60 (by decide) ?_; simp only [KX, KY, KZ, KW, KV, Nat.reduceAdd, Nat.reduceSub, Nat.reduceLeDiff, true_and, and_true, true_or, or_true, or_self, reduceCtorEq, if_true, if_false, not_false_eq_true, eq_self, c58, H.e49, H.e50])
          rw [nI_1 i]
          exact At_le ih2 ⟨rfl, rfl, rfl, rfl, trivial⟩
      · rw [if_neg (show ¬ someP (ai h 50) R i = 0 by rw [o]; decide)]
        have e2 : someP (ai h 50) R (i + 1) = 1 := if_neg (by rw [o]; decide)
        have ih2 := ih (i + 1) (by omega)
        rw [e2] at ih2
        first
          | (with_reducible show At 58 _ 4 _ _ _ _)
          | (refine go 60 (by decide) ?_; simp only [KX, KY, KZ, KW, KV, Nat.reduceAdd, Nat.reduceSub, Nat.reduceLeDiff, true_and, and_true, true_or, or_true, or_self, reduceCtorEq, if_true, if_false, not_false_eq_true, eq_self, c58, H.e49, H.e50])
        first
          | (with_reducible show At 58 _ 4 _ _ _ _)
          | (refine go 60 (by decide) ?_; simp only [KX, KY, KZ, KW, KV, Nat.reduceAdd, Nat.reduceSub, Nat.reduceLeDiff, true_and, and_true, true_or, or_true, or_self, reduceCtorEq, if_true, if_false, not_false_eq_true, eq_self, c58, H.e49, H.e50])
        first
          | (with_reducible show At 58 _ 4 _ _ _ _)
          | (refine go 60 (by decide) ?_; simp only [KX, KY, KZ, KW, KV, Nat.reduceAdd, Nat.reduceSub, Nat.reduceLeDiff, true_and, and_true, true_or, or_true, or_self, reduceCtorEq, if_true, if_false, not_false_eq_true, eq_self, c58, H.e49, H.e50])
        rw [nI_1 i]
        exact At_le ih2 ⟨rfl, rfl, rfl, rfl, trivial⟩
  refine ma_enter (m := 58) (Or.inl (by decide)) (by show 2 ≤ mt_n 58; decide +kernel) ?_
  show At 58 Q 0 (mt_c 58) [some (.ref 49), some (.ref 56), none, none] [] h
  refine go 60 (by decide) ?_
  simp only [KX, KY, KZ, KW, KV, Nat.reduceAdd, Nat.reduceSub, Nat.reduceLeDiff, true_and, and_true, true_or, or_true, or_self, reduceCtorEq, if_true, if_false, not_false_eq_true, eq_self, c58, H.e49, H.e50]
  exact lp n 0 (by omega)
theorem s100 {h : ma_H} {Q : ma_Q} {f : Nat} {w wt : Int32} (H : Sh h) (l : f < 4) (k : Q none (ma_set h 56 (.inl (.int, 6, .inl (nmv (ai h 56) w wt (su (fl_ice (ai h (37 + 3 * f))) 91) (fl_span (ai h (37 + 3 * f)) 91) (fl_edge (ai h (37 + 3 * f)) 91) (fi h (36 + 3 * f) 0)))))) : ma_X 100 [.ref 34, .ref (36 + 3 * f), .int w, .int wt] h Q := by
  have e34 : ∀ c, (ma_set h 56 c).2.1 34 = _ := fun c => (ma_set_ne h c (by decide)).trans H.e34
  have eF : ∀ c, (ma_set h 56 c).2.1 (36 + 3 * f) = _ := fun c => (ma_set_ne h c (by omega)).trans (H.fn l).1
  have eS : ∀ c, (ma_set h 56 c).2.1 (37 + 3 * f) = _ := fun c => (ma_set_ne h c (by omega)).trans (H.fn l).2.1
  refine ma_enter (m := 100) (Or.inl (by decide)) (by show 4 ≤ mt_n 100; decide +kernel) ?_
  show At 100 Q 0 (mt_c 100) [some (.ref 34), some (.ref (36 + 3 * f)), some (.int w), some (.int wt)] [] h
  refine go 60 (by decide) ?_
  simp only [KX, KY, KZ, KW, KV, Nat.reduceAdd, Nat.reduceSub, Nat.reduceLeDiff, true_and, and_true, true_or, or_true, or_self, reduceCtorEq, if_true, if_false, not_false_eq_true, eq_self, c100, H.e34, H.e56, e34, eF, ma_set_at, ma_set_set, show Int32.toNatClampNeg 0 = 0 from rfl, show Int32.toNatClampNeg 1 = 1 from rfl, show Int32.toNatClampNeg 2 = 2 from rfl, show Int32.toNatClampNeg 3 = 3 from rfl, show Int32.toNatClampNeg 4 = 4 from rfl, show Int32.toNatClampNeg 5 = 5 from rfl]
  refine ⟨nI_in (c := 0) (by decide) (by decide), nI_in (c := 1) (by decide) (by decide), ?_⟩
  refine s22 (eF _) (eS _) ?_
  refine go 60 (by decide) ?_
  simp only [KX, KY, KZ, KW, KV, Nat.reduceAdd, Nat.reduceSub, Nat.reduceLeDiff, true_and, and_true, true_or, or_true, or_self, reduceCtorEq, if_true, if_false, not_false_eq_true, eq_self, c100, e34, eF, ma_set_at, ma_set_set, show Int32.toNatClampNeg 0 = 0 from rfl, show Int32.toNatClampNeg 1 = 1 from rfl, show Int32.toNatClampNeg 2 = 2 from rfl, show Int32.toNatClampNeg 3 = 3 from rfl, show Int32.toNatClampNeg 4 = 4 from rfl, show Int32.toNatClampNeg 5 = 5 from rfl]
  refine ⟨nI_in (c := 2) (by decide) (by decide), ?_⟩
  refine s25 (eF _) (eS _) ?_
  refine go 60 (by decide) ?_
  simp only [KX, KY, KZ, KW, KV, Nat.reduceAdd, Nat.reduceSub, Nat.reduceLeDiff, true_and, and_true, true_or, or_true, or_self, reduceCtorEq, if_true, if_false, not_false_eq_true, eq_self, c100, e34, eF, ma_set_at, ma_set_set, show Int32.toNatClampNeg 0 = 0 from rfl, show Int32.toNatClampNeg 1 = 1 from rfl, show Int32.toNatClampNeg 2 = 2 from rfl, show Int32.toNatClampNeg 3 = 3 from rfl, show Int32.toNatClampNeg 4 = 4 from rfl, show Int32.toNatClampNeg 5 = 5 from rfl]
  refine ⟨nI_in (c := 3) (by decide) (by decide), ?_⟩
  refine s26 (eF _) (eS _) ?_
  refine go 60 (by decide) ?_
  simp only [KX, KY, KZ, KW, KV, Nat.reduceAdd, Nat.reduceSub, Nat.reduceLeDiff, true_and, and_true, true_or, or_true, or_self, reduceCtorEq, if_true, if_false, not_false_eq_true, eq_self, c100, e34, eF, ma_set_at, ma_set_set, show Int32.toNatClampNeg 0 = 0 from rfl, show Int32.toNatClampNeg 1 = 1 from rfl, show Int32.toNatClampNeg 2 = 2 from rfl, show Int32.toNatClampNeg 3 = 3 from rfl, show Int32.toNatClampNeg 4 = 4 from rfl, show Int32.toNatClampNeg 5 = 5 from rfl]
  refine ⟨nI_in (c := 4) (by decide) (by decide), nI_in (c := 5) (by decide) (by decide), ?_⟩
  exact k
theorem s98 {h : ma_H} {Q : ma_Q} {f n : Nat} {R : (Nat → Int32) → Nat → Bool} (H : Sh h) (l : f < 4) (e : fi h 49 0 = nI n) (n8 : n ≤ 8) (A : LA h n R) {w wt : Int32} (k : Q (some (.int (lastU (ai h 50) (R (nmv (ai h 56) w wt (su (fl_ice (ai h (37 + 3 * f))) 91) (fl_span (ai h (37 + 3 * f)) 91) (fl_edge (ai h (37 + 3 * f)) 91) (fi h (36 + 3 * f) 0))) n))) (ma_set h 56 (.inl (.int, 6, .inl (nmv (ai h 56) w wt (su (fl_ice (ai h (37 + 3 * f))) 91) (fl_span (ai h (37 + 3 * f)) 91) (fl_edge (ai h (37 + 3 * f)) 91) (fi h (36 + 3 * f) 0)))))) : ma_X 98 [.ref 34, .ref (36 + 3 * f), .int w, .int wt] h Q := by
  have e34 : ∀ c, (ma_set h 56 c).2.1 34 = _ := fun c => (ma_set_ne h c (by decide)).trans H.e34
  have e49 : ∀ c, (ma_set h 56 c).2.1 49 = _ := fun c => (ma_set_ne h c (by decide)).trans H.e49
  refine ma_enter (m := 98) (Or.inl (by decide)) (by show 4 ≤ mt_n 98; decide +kernel) ?_
  show At 98 Q 0 (mt_c 98) [some (.ref 34), some (.ref (36 + 3 * f)), some (.int w), some (.int wt)] [] h
  refine go 60 (by decide) ?_
  simp only [KX, KY, KZ, KW, KV, Nat.reduceAdd, Nat.reduceSub, Nat.reduceLeDiff, true_and, and_true, true_or, or_true, or_self, reduceCtorEq, if_true, if_false, not_false_eq_true, eq_self, c98, H.e34]
  refine s100 H l ?_
  refine go 60 (by decide) ?_
  simp only [KX, KY, KZ, KW, KV, Nat.reduceAdd, Nat.reduceSub, Nat.reduceLeDiff, true_and, and_true, true_or, or_true, or_self, reduceCtorEq, if_true, if_false, not_false_eq_true, eq_self, c98, e34, e49]
  refine s57 (n := n) (R := R (nmv (ai h 56) w wt (su (fl_ice (ai h (37 + 3 * f))) 91) (fl_span (ai h (37 + 3 * f)) 91) (fl_edge (ai h (37 + 3 * f)) 91) (fi h (36 + 3 * f) 0))) (sh_set H rfl) ?_ n8 (fun i hi Q k => (A i hi).2.2.2.1 _ _ Q (sh_set H rfl) (ma_set_ne _ _ (by decide)) (ma_set_ne _ _ (by decide)) (ma_set_at _ _ _) k) ?_
  · rw [fi_ne _ _ _ (by decide)]
    exact e
  rw [ai_ne _ _ (by decide)]
  refine go 60 (by decide) ?_
  simp only [KX, KY, KZ, KW, KV, Nat.reduceAdd, Nat.reduceSub, Nat.reduceLeDiff, true_and, and_true, true_or, or_true, or_self, reduceCtorEq, if_true, if_false, not_false_eq_true, eq_self, c98]
  exact k
theorem s99 {h : ma_H} {Q : ma_Q} {f n : Nat} {R : (Nat → Int32) → Nat → Bool} (H : Sh h) (l : f < 4) (e : fi h 49 0 = nI n) (n8 : n ≤ 8) (A : LA h n R) (k : Q (some (.int (someP (ai h 50) (R (nmv (ai h 56) 0 0 (su (fl_ice (ai h (37 + 3 * f))) 91) (fl_span (ai h (37 + 3 * f)) 91) (fl_edge (ai h (37 + 3 * f)) 91) (fi h (36 + 3 * f) 0))) n))) (ma_set h 56 (.inl (.int, 6, .inl (nmv (ai h 56) 0 0 (su (fl_ice (ai h (37 + 3 * f))) 91) (fl_span (ai h (37 + 3 * f)) 91) (fl_edge (ai h (37 + 3 * f)) 91) (fi h (36 + 3 * f) 0)))))) : ma_X 99 [.ref 34, .ref (36 + 3 * f)] h Q := by
  have e34 : ∀ c, (ma_set h 56 c).2.1 34 = _ := fun c => (ma_set_ne h c (by decide)).trans H.e34
  have e49 : ∀ c, (ma_set h 56 c).2.1 49 = _ := fun c => (ma_set_ne h c (by decide)).trans H.e49
  refine ma_enter (m := 99) (Or.inl (by decide)) (by show 2 ≤ mt_n 99; decide +kernel) ?_
  show At 99 Q 0 (mt_c 99) [some (.ref 34), some (.ref (36 + 3 * f))] [] h
  refine go 60 (by decide) ?_
  simp only [KX, KY, KZ, KW, KV, Nat.reduceAdd, Nat.reduceSub, Nat.reduceLeDiff, true_and, and_true, true_or, or_true, or_self, reduceCtorEq, if_true, if_false, not_false_eq_true, eq_self, c99, H.e34]
  refine s100 H l ?_
  refine go 60 (by decide) ?_
  simp only [KX, KY, KZ, KW, KV, Nat.reduceAdd, Nat.reduceSub, Nat.reduceLeDiff, true_and, and_true, true_or, or_true, or_self, reduceCtorEq, if_true, if_false, not_false_eq_true, eq_self, c99, e34, e49]
  refine s58 (n := n) (R := R (nmv (ai h 56) 0 0 (su (fl_ice (ai h (37 + 3 * f))) 91) (fl_span (ai h (37 + 3 * f)) 91) (fl_edge (ai h (37 + 3 * f)) 91) (fi h (36 + 3 * f) 0))) (sh_set H rfl) ?_ n8 (fun i hi Q k => (A i hi).2.2.2.1 _ _ Q (sh_set H rfl) (ma_set_ne _ _ (by decide)) (ma_set_ne _ _ (by decide)) (ma_set_at _ _ _) k) ?_
  · rw [fi_ne _ _ _ (by decide)]
    exact e
  rw [ai_ne _ _ (by decide)]
  refine go 60 (by decide) ?_
  simp only [KX, KY, KZ, KW, KV, Nat.reduceAdd, Nat.reduceSub, Nat.reduceLeDiff, true_and, and_true, true_or, or_true, or_self, reduceCtorEq, if_true, if_false, not_false_eq_true, eq_self, c99]
  rcases someP01 (ai h 50) (R (nmv (ai h 56) 0 0 (su (fl_ice (ai h (37 + 3 * f))) 91) (fl_span (ai h (37 + 3 * f)) 91) (fl_edge (ai h (37 + 3 * f)) 91) (fi h (36 + 3 * f) 0))) n with o | o
  · rw [o] at k ⊢
    first
      | exact k
      | exact ⟨Or.inl rfl, k⟩
      | exact ⟨Or.inr rfl, k⟩
  · rw [o] at k ⊢
    first
      | exact k
      | exact ⟨Or.inl rfl, k⟩
      | exact ⟨Or.inr rfl, k⟩
