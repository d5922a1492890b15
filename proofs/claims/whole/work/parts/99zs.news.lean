/-! the constructor of the Model: its tables -/
/-- how many CELLS among the first t places of 11 by 11 -/
def nnf : Nat → Nat
  | 0 => 0
  | t + 1 => if i_cell (nI (t % 11) - 5) (nI (t / 11) - 5) = 0 then nnf t else nnf t + 1
theorem nn_t : ∀ t, t < 121 → i_cell (nI (t % 11) - 5) (nI (t / 11) - 5) = 0 ∨ (i_cell (nI (t % 11) - 5) (nI (t / 11) - 5) = 1 ∧ nnf t < 91 ∧ nI (t % 11) - 5 = m_q (nnf t) ∧ nI (t / 11) - 5 = m_r (nnf t) ∧ i_mring (nI (t % 11) - 5) (nI (t / 11) - 5) = fl_ring (nnf t)) := by decide +kernel
theorem nn_r : ∀ i, i < 11 → nnf (11 * i) = m_fl.getD i 0 := by decide +kernel
theorem nn_e : nnf 121 = 91 := by decide +kernel
theorem nn_l : ∀ t, t < 122 → nnf t ≤ 91 := by decide +kernel
theorem r5_1 : ∀ i, i < 11 → nI i - 5 + 1 = nI (i + 1) - 5 ∧ nI i - 5 ≤ 5 ∧ nI i - 5 + 5 = nI i := by decide +kernel
theorem r5_n : ¬ nI 11 - 5 ≤ (5 : Int32) := by decide +kernel
def H4 (h : ma_H) (a b c d : Nat → Int32) : ma_H := ma_set (ma_set (ma_set (ma_set h 87 (.inl (.int, 12, .inl d))) 83 (.inl (.int, 91, .inl c))) 82 (.inl (.int, 91, .inl b))) 81 (.inl (.int, 91, .inl a))
theorem h4_sh {h : ma_H} (H : Sh h) (a b c d : Nat → Int32) : Sh (H4 h a b c d) := sh_set (sh_set (sh_set (sh_set H rfl) rfl) rfl) rfl
theorem h4_81 {h : ma_H} {a b c d : Nat → Int32} : (H4 h a b c d).2.1 81 = .inl (.int, 91, .inl a) := ma_set_at _ _ _
theorem h4_82 {h : ma_H} {a b c d : Nat → Int32} : (H4 h a b c d).2.1 82 = .inl (.int, 91, .inl b) := (ma_set_ne _ _ (by decide)).trans (ma_set_at _ _ _)
theorem h4_83 {h : ma_H} {a b c d : Nat → Int32} : (H4 h a b c d).2.1 83 = .inl (.int, 91, .inl c) := (ma_set_ne _ _ (by decide)).trans ((ma_set_ne _ _ (by decide)).trans (ma_set_at _ _ _))
theorem h4_87 {h : ma_H} {a b c d : Nat → Int32} : (H4 h a b c d).2.1 87 = .inl (.int, 12, .inl d) := (ma_set_ne _ _ (by decide)).trans ((ma_set_ne _ _ (by decide)).trans ((ma_set_ne _ _ (by decide)).trans (ma_set_at _ _ _)))
theorem h4s81 {h : ma_H} {a b c d x : Nat → Int32} : ma_set (H4 h a b c d) 81 (.inl (.int, 91, .inl x)) = H4 h x b c d := by
  unfold H4
  rw [ma_set_set]
theorem h4s82 {h : ma_H} {a b c d x : Nat → Int32} : ma_set (H4 h a b c d) 82 (.inl (.int, 91, .inl x)) = H4 h a x c d := by
  unfold H4
  rw [ma_set_swap _ (show 81 ≠ 82 by decide), ma_set_set]
theorem h4s83 {h : ma_H} {a b c d x : Nat → Int32} : ma_set (H4 h a b c d) 83 (.inl (.int, 91, .inl x)) = H4 h a b x d := by
  unfold H4
  rw [ma_set_swap _ (show 81 ≠ 83 by decide), ma_set_swap _ (show 82 ≠ 83 by decide), ma_set_set]
theorem h4s87 {h : ma_H} {a b c d x : Nat → Int32} : ma_set (H4 h a b c d) 87 (.inl (.int, 12, .inl x)) = H4 h a b c x := by
  unfold H4
  rw [ma_set_swap _ (show 81 ≠ 87 by decide), ma_set_swap _ (show 82 ≠ 87 by decide), ma_set_swap _ (show 83 ≠ 87 by decide), ma_set_set]
theorem h4_id {h : ma_H} (H : Sh h) : H4 h (ai h 81) (ai h 82) (ai h 83) (ai h 87) = h := by
  unfold H4
  rw [ma_set_id H.e87, ma_set_id H.e83, ma_set_id H.e82, ma_set_id H.e81]
/-- the heap when n CELLS are told, and i rows -/
def G4 (h : ma_H) (n i : Nat) : ma_H := H4 h (upN (ai h 81) (fun c => c) m_q n) (upN (ai h 82) (fun c => c) m_r n) (upN (ai h 83) (fun c => c) fl_ring n) (upN (ai h 87) (fun c => c) (fun r => nI (m_fl.getD r 0)) i)
theorem a161 {h : ma_H} {Q : ma_Q} (H : Sh h) (k : At 161 Q 220 (0, 0) [some (.ref 80), none, some (.int 0), none, none, none] [] (G4 h 91 11)) : At 161 Q 173 (0, 0) [some (.ref 80), none, none, none, none, none] [] h := by
  have kt5 : Int32.toNatClampNeg 5 = 5 := rfl
  have HS := fun n i => h4_sh H (upN (ai h 81) (fun c => c) m_q n) (upN (ai h 82) (fun c => c) m_r n) (upN (ai h 83) (fun c => c) fl_ring n) (upN (ai h 87) (fun c => c) (fun r => nI (m_fl.getD r 0)) i)
  have lpI : ∀ i, i < 11 → At 161 Q 177 (0, 0) [some (.ref 80), some (.int (nI (nnf (11 * (i + 1))))), some (.int (nI (i + 1) - 5)), none, none, none] [] (G4 h (nnf (11 * (i + 1))) (i + 1)) → ∀ d j, j + d = 11 → At 161 Q 189 (0, 0) [some (.ref 80), some (.int (nI (nnf (11 * i + j)))), some (.int (nI i - 5)), some (.int (nI j - 5)), none, none] [] (G4 h (nnf (11 * i + j)) (i + 1)) := by
    intro i hi kO d
    induction d with
    | zero =>
      intro j e
      obtain rfl : j = 11 := by omega
      unfold G4
      refine go 60 (by decide) ?_
      simp only [KX, KY, KZ, KW, KV, Nat.reduceAdd, Nat.reduceSub, Nat.reduceLeDiff, true_and, and_true, true_or, or_true, or_self, reduceCtorEq, if_true, if_false, not_false_eq_true, eq_self, c161, h4_81, h4_82, h4_83, h4_87, h4s81, h4s82, h4s83, h4s87, (h4_sh H _ _ _ _).e80, List.set_cons_succ, List.set_cons_zero]
      rw [if_neg r5_n]
      first
        | (with_reducible show At 161 _ 177 _ _ _ _)
        | (refine go 60 (by decide) ?_; simp only [KX, KY, KZ, KW, KV, Nat.reduceAdd, Nat.reduceSub, Nat.reduceLeDiff, true_and, and_true, true_or, or_true, or_self, reduceCtorEq, if_true, if_false, not_false_eq_true, eq_self, c161, h4_81, h4_82, h4_83, h4_87, h4s81, h4s82, h4s83, h4s87, (h4_sh H _ _ _ _).e80, List.set_cons_succ, List.set_cons_zero])
      first
        | (with_reducible show At 161 _ 177 _ _ _ _)
        | (refine go 60 (by decide) ?_; simp only [KX, KY, KZ, KW, KV, Nat.reduceAdd, Nat.reduceSub, Nat.reduceLeDiff, true_and, and_true, true_or, or_true, or_self, reduceCtorEq, if_true, if_false, not_false_eq_true, eq_self, c161, h4_81, h4_82, h4_83, h4_87, h4s81, h4s82, h4s83, h4s87, (h4_sh H _ _ _ _).e80, List.set_cons_succ, List.set_cons_zero])
      rw [(r5_1 i hi).1]
      rw [show 11 * (i + 1) = 11 * i + 11 by omega] at kO
      exact At_le kO ⟨rfl, rfl, rfl, trivial⟩
    | succ d ih =>
      intro j e
      have hj : j < 11 := by omega
      have et : (11 * i + j) % 11 = j ∧ (11 * i + j) / 11 = i := by omega
      have nt := nn_t (11 * i + j) (by omega)
      rw [et.1, et.2] at nt
      have e2 : nnf (11 * i + (j + 1)) = if i_cell (nI j - 5) (nI i - 5) = 0 then nnf (11 * i + j) else nnf (11 * i + j) + 1 := by
        show (if i_cell (nI ((11 * i + j) % 11) - 5) (nI ((11 * i + j) / 11) - 5) = 0 then nnf (11 * i + j) else nnf (11 * i + j) + 1) = _
        rw [et.1, et.2]
      have ih := ih (j + 1) (by omega)
      rw [e2] at ih
      unfold G4 at ih ⊢
      refine go 60 (by decide) ?_
      simp only [KX, KY, KZ, KW, KV, Nat.reduceAdd, Nat.reduceSub, Nat.reduceLeDiff, true_and, and_true, true_or, or_true, or_self, reduceCtorEq, if_true, if_false, not_false_eq_true, eq_self, c161, h4_81, h4_82, h4_83, h4_87, h4s81, h4s82, h4s83, h4s87, (h4_sh H _ _ _ _).e80, List.set_cons_succ, List.set_cons_zero]
      rw [if_pos (r5_1 j hj).2.1]
      try (refine go 60 (by decide) ?_; simp only [KX, KY, KZ, KW, KV, Nat.reduceAdd, Nat.reduceSub, Nat.reduceLeDiff, true_and, and_true, true_or, or_true, or_self, reduceCtorEq, if_true, if_false, not_false_eq_true, eq_self, c161, h4_81, h4_82, h4_83, h4_87, h4s81, h4s82, h4s83, h4s87, (h4_sh H _ _ _ _).e80, List.set_cons_succ, List.set_cons_zero])
      refine s165 ?_
      rcases nt with n0 | ⟨n1, n2, n3, n4, n5⟩
      · rw [if_pos n0] at ih
        rw [n0]
        first
          | (with_reducible show At 161 _ 189 _ _ _ _)
          | (refine go 60 (by decide) ?_; simp only [KX, KY, KZ, KW, KV, Nat.reduceAdd, Nat.reduceSub, Nat.reduceLeDiff, true_and, and_true, true_or, or_true, or_self, reduceCtorEq, if_true, if_false, not_false_eq_true, eq_self, c161, h4_81, h4_82, h4_83, h4_87, h4s81, h4s82, h4s83, h4s87, (h4_sh H _ _ _ _).e80, List.set_cons_succ, List.set_cons_zero])
        first
          | (with_reducible show At 161 _ 189 _ _ _ _)
          | (refine go 60 (by decide) ?_; simp only [KX, KY, KZ, KW, KV, Nat.reduceAdd, Nat.reduceSub, Nat.reduceLeDiff, true_and, and_true, true_or, or_true, or_self, reduceCtorEq, if_true, if_false, not_false_eq_true, eq_self, c161, h4_81, h4_82, h4_83, h4_87, h4s81, h4s82, h4s83, h4s87, (h4_sh H _ _ _ _).e80, List.set_cons_succ, List.set_cons_zero])
        first
          | (with_reducible show At 161 _ 189 _ _ _ _)
          | (refine go 60 (by decide) ?_; simp only [KX, KY, KZ, KW, KV, Nat.reduceAdd, Nat.reduceSub, Nat.reduceLeDiff, true_and, and_true, true_or, or_true, or_self, reduceCtorEq, if_true, if_false, not_false_eq_true, eq_self, c161, h4_81, h4_82, h4_83, h4_87, h4s81, h4s82, h4s83, h4s87, (h4_sh H _ _ _ _).e80, List.set_cons_succ, List.set_cons_zero])
        rw [(r5_1 j hj).1]
        exact ih
      · rw [if_neg (by rw [n1]; decide)] at ih
        rw [n1]
        refine go 60 (by decide) ?_
        simp only [KX, KY, KZ, KW, KV, Nat.reduceAdd, Nat.reduceSub, Nat.reduceLeDiff, true_and, and_true, true_or, or_true, or_self, reduceCtorEq, if_true, if_false, not_false_eq_true, eq_self, c161, h4_81, h4_82, h4_83, h4_87, h4s81, h4s82, h4s83, h4s87, (h4_sh H _ _ _ _).e80, List.set_cons_succ, List.set_cons_zero]
        rw [nI_clamp (show nnf (11 * i + j) < 2 ^ 31 by omega)]
        refine ⟨nI_in n2 (by decide), nI_in n2 (by decide), ?_⟩
        try (refine go 60 (by decide) ?_; simp only [KX, KY, KZ, KW, KV, Nat.reduceAdd, Nat.reduceSub, Nat.reduceLeDiff, true_and, and_true, true_or, or_true, or_self, reduceCtorEq, if_true, if_false, not_false_eq_true, eq_self, c161, h4_81, h4_82, h4_83, h4_87, h4s81, h4s82, h4s83, h4s87, (h4_sh H _ _ _ _).e80, List.set_cons_succ, List.set_cons_zero])
        refine s164 ?_
        rw [n5, n3, n4]
        refine go 60 (by decide) ?_
        simp only [KX, KY, KZ, KW, KV, Nat.reduceAdd, Nat.reduceSub, Nat.reduceLeDiff, true_and, and_true, true_or, or_true, or_self, reduceCtorEq, if_true, if_false, not_false_eq_true, eq_self, c161, h4_81, h4_82, h4_83, h4_87, h4s81, h4s82, h4s83, h4s87, (h4_sh H _ _ _ _).e80, List.set_cons_succ, List.set_cons_zero]
        rw [nI_clamp (show nnf (11 * i + j) < 2 ^ 31 by omega), nI_1]
        refine ⟨nI_in n2 (by decide), ?_⟩
        first
          | (with_reducible show At 161 _ 189 _ _ _ _)
          | (refine go 60 (by decide) ?_; simp only [KX, KY, KZ, KW, KV, Nat.reduceAdd, Nat.reduceSub, Nat.reduceLeDiff, true_and, and_true, true_or, or_true, or_self, reduceCtorEq, if_true, if_false, not_false_eq_true, eq_self, c161, h4_81, h4_82, h4_83, h4_87, h4s81, h4s82, h4s83, h4s87, (h4_sh H _ _ _ _).e80, List.set_cons_succ, List.set_cons_zero])
        first
          | (with_reducible show At 161 _ 189 _ _ _ _)
          | (refine go 60 (by decide) ?_; simp only [KX, KY, KZ, KW, KV, Nat.reduceAdd, Nat.reduceSub, Nat.reduceLeDiff, true_and, and_true, true_or, or_true, or_self, reduceCtorEq, if_true, if_false, not_false_eq_true, eq_self, c161, h4_81, h4_82, h4_83, h4_87, h4s81, h4s82, h4s83, h4s87, (h4_sh H _ _ _ _).e80, List.set_cons_succ, List.set_cons_zero])
        have q1 : m_q (nnf (11 * i + j)) + 1 = nI (j + 1) - 5 := by rw [← n3]; exact (r5_1 j hj).1
        rw [q1]
        rw [n4] at ih
        exact ih
  have lpO : ∀ d i, i + d = 11 → At 161 Q 177 (0, 0) [some (.ref 80), some (.int (nI (nnf (11 * i)))), some (.int (nI i - 5)), none, none, none] [] (G4 h (nnf (11 * i)) i) := by
    intro d
    induction d with
    | zero =>
      intro i e
      obtain rfl : i = 11 := by omega
      rw [show nnf (11 * 11) = 91 from nn_e]
      unfold G4 at k ⊢
      refine go 60 (by decide) ?_
      simp only [KX, KY, KZ, KW, KV, Nat.reduceAdd, Nat.reduceSub, Nat.reduceLeDiff, true_and, and_true, true_or, or_true, or_self, reduceCtorEq, if_true, if_false, not_false_eq_true, eq_self, c161, h4_81, h4_82, h4_83, h4_87, h4s81, h4s82, h4s83, h4s87, (h4_sh H _ _ _ _).e80, List.set_cons_succ, List.set_cons_zero]
      rw [if_neg r5_n]
      first
        | (with_reducible show At 161 _ 220 _ _ _ _)
        | (refine go 60 (by decide) ?_; simp only [KX, KY, KZ, KW, KV, Nat.reduceAdd, Nat.reduceSub, Nat.reduceLeDiff, true_and, and_true, true_or, or_true, or_self, reduceCtorEq, if_true, if_false, not_false_eq_true, eq_self, c161, h4_81, h4_82, h4_83, h4_87, h4s81, h4s82, h4s83, h4s87, (h4_sh H _ _ _ _).e80, List.set_cons_succ, List.set_cons_zero])
      first
        | (with_reducible show At 161 _ 220 _ _ _ _)
        | (refine go 60 (by decide) ?_; simp only [KX, KY, KZ, KW, KV, Nat.reduceAdd, Nat.reduceSub, Nat.reduceLeDiff, true_and, and_true, true_or, or_true, or_self, reduceCtorEq, if_true, if_false, not_false_eq_true, eq_self, c161, h4_81, h4_82, h4_83, h4_87, h4s81, h4s82, h4s83, h4s87, (h4_sh H _ _ _ _).e80, List.set_cons_succ, List.set_cons_zero])
      exact At_le k ⟨rfl, rfl, trivial⟩
    | succ d ih =>
      intro i e
      have hi : i < 11 := by omega
      have l0 := lpI i hi (ih (i + 1) (by omega)) 11 0 rfl
      rw [Nat.add_zero] at l0
      unfold G4 at l0 ⊢
      refine go 60 (by decide) ?_
      simp only [KX, KY, KZ, KW, KV, Nat.reduceAdd, Nat.reduceSub, Nat.reduceLeDiff, true_and, and_true, true_or, or_true, or_self, reduceCtorEq, if_true, if_false, not_false_eq_true, eq_self, c161, h4_81, h4_82, h4_83, h4_87, h4s81, h4s82, h4s83, h4s87, (h4_sh H _ _ _ _).e80, List.set_cons_succ, List.set_cons_zero]
      rw [if_pos (r5_1 i hi).2.1]
      try (refine go 60 (by decide) ?_; simp only [KX, KY, KZ, KW, KV, Nat.reduceAdd, Nat.reduceSub, Nat.reduceLeDiff, true_and, and_true, true_or, or_true, or_self, reduceCtorEq, if_true, if_false, not_false_eq_true, eq_self, c161, h4_81, h4_82, h4_83, h4_87, h4s81, h4s82, h4s83, h4s87, (h4_sh H _ _ _ _).e80, List.set_cons_succ, List.set_cons_zero])
      rw [(r5_1 i hi).2.2, nI_clamp (show i < 2 ^ 31 by omega)]
      refine ⟨nI_in (show i < 12 by omega) (by decide), ?_⟩
      first
        | (with_reducible show At 161 _ 189 _ _ _ _)
        | (refine go 60 (by decide) ?_; simp only [KX, KY, KZ, KW, KV, Nat.reduceAdd, Nat.reduceSub, Nat.reduceLeDiff, true_and, and_true, true_or, or_true, or_self, reduceCtorEq, if_true, if_false, not_false_eq_true, eq_self, c161, h4_81, h4_82, h4_83, h4_87, h4s81, h4s82, h4s83, h4s87, (h4_sh H _ _ _ _).e80, List.set_cons_succ, List.set_cons_zero])
      first
        | (with_reducible show At 161 _ 189 _ _ _ _)
        | (refine go 60 (by decide) ?_; simp only [KX, KY, KZ, KW, KV, Nat.reduceAdd, Nat.reduceSub, Nat.reduceLeDiff, true_and, and_true, true_or, or_true, or_self, reduceCtorEq, if_true, if_false, not_false_eq_true, eq_self, c161, h4_81, h4_82, h4_83, h4_87, h4s81, h4s82, h4s83, h4s87, (h4_sh H _ _ _ _).e80, List.set_cons_succ, List.set_cons_zero])
      rw [nn_r i hi] at l0 ⊢
      exact l0
  have l0 := lpO 11 0 rfl
  rw [show G4 h (nnf (11 * 0)) 0 = h from h4_id H] at l0
  first
    | (with_reducible show At 161 _ 177 _ _ _ _)
    | (refine go 60 (by decide) ?_; simp only [KX, KY, KZ, KW, KV, Nat.reduceAdd, Nat.reduceSub, Nat.reduceLeDiff, true_and, and_true, true_or, or_true, or_self, reduceCtorEq, if_true, if_false, not_false_eq_true, eq_self, c161, List.set_cons_succ, List.set_cons_zero])
  first
    | (with_reducible show At 161 _ 177 _ _ _ _)
    | (refine go 60 (by decide) ?_; simp only [KX, KY, KZ, KW, KV, Nat.reduceAdd, Nat.reduceSub, Nat.reduceLeDiff, true_and, and_true, true_or, or_true, or_self, reduceCtorEq, if_true, if_false, not_false_eq_true, eq_self, c161, List.set_cons_succ, List.set_cons_zero])
  exact l0
theorem mt_t : ∀ c, c < 91 → m_t c < 91 ∧ 0 - m_r c = m_q (m_t c) ∧ m_q c + m_r c = m_r (m_t c) ∧ m_m c < 91 ∧ m_r c = m_q (m_m c) ∧ m_q c = m_r (m_m c) := by decide +kernel
theorem mb_t : ∀ c, c < 91 → ∀ k, k < 6 → (i_cell (m_q c + i_qs (nI k)) (m_r c + i_rs (nI k)) = 0 ∧ m_nb c k = -1) ∨ ((m_nb c k).toNatClampNeg < 91 ∧ m_nb c k = nI (m_nb c k).toNatClampNeg ∧ m_q c + i_qs (nI k) = m_q (m_nb c k).toNatClampNeg ∧ m_r c + i_rs (nI k) = m_r (m_nb c k).toNatClampNeg) := by decide +kernel
theorem s168k {h : ma_H} {Q : ma_Q} {q r : Int32} {c : Nat} (H : Sh h) (R : ∀ r, r < 11 → ai h 87 r = nI (m_fl.getD r 0)) (hc : c < 91) (e1 : q = m_q c) (e2 : r = m_r c) (k : Q (some (.int (nI c))) h) : ma_X 168 [.ref 80, .int q, .int r] h Q := by
  subst e1 e2
  refine ma_enter (m := 168) (Or.inl (by decide)) (by show 3 ≤ mt_n 168; decide +kernel) ?_
  show At 168 Q 0 (mt_c 168) [some (.ref 80), some (.int (m_q c)), some (.int (m_r c)), none] [] h
  obtain ⟨n1, n2, n3, n4, n5⟩ := m_num c hc
  have t := R (m_row c) n3
  refine go 60 (by decide) ?_
  simp only [KX, KY, KZ, KW, KV, Nat.reduceAdd, Nat.reduceSub, Nat.reduceLeDiff, true_and, and_true, true_or, or_true, or_self, reduceCtorEq, if_true, if_false, not_false_eq_true, eq_self, c168]
  refine s165 ?_
  rw [n1]
  refine go 60 (by decide) ?_
  simp only [KX, KY, KZ, KW, KV, Nat.reduceAdd, Nat.reduceSub, Nat.reduceLeDiff, true_and, and_true, true_or, or_true, or_self, reduceCtorEq, if_true, if_false, not_false_eq_true, eq_self, c168]
  by_cases s : m_r c < 0
  · rw [if_pos s]
    refine go 60 (by decide) ?_
    simp only [KX, KY, KZ, KW, KV, Nat.reduceAdd, Nat.reduceSub, Nat.reduceLeDiff, true_and, and_true, true_or, or_true, or_self, reduceCtorEq, if_true, if_false, not_false_eq_true, eq_self, c168, H.e80, H.e87]
    rw [n2, nI_clamp (by omega), t, n4 s]
    exact ⟨nI_in (by omega) (by decide), k⟩
  · rw [if_neg s]
    refine go 60 (by decide) ?_
    simp only [KX, KY, KZ, KW, KV, Nat.reduceAdd, Nat.reduceSub, Nat.reduceLeDiff, true_and, and_true, true_or, or_true, or_self, reduceCtorEq, if_true, if_false, not_false_eq_true, eq_self, c168, H.e80, H.e87]
    rw [n2, nI_clamp (by omega), t, n5 s]
    exact ⟨nI_in (by omega) (by decide), k⟩
def H3 (h : ma_H) (a b c : Nat → Int32) : ma_H := ma_set (ma_set (ma_set h 86 (.inl (.int, 546, .inl c))) 85 (.inl (.int, 91, .inl b))) 84 (.inl (.int, 91, .inl a))
theorem h3_sh {h : ma_H} (H : Sh h) (a b c : Nat → Int32) : Sh (H3 h a b c) := sh_set (sh_set (sh_set H rfl) rfl) rfl
theorem h3_84 {h : ma_H} {a b c : Nat → Int32} : (H3 h a b c).2.1 84 = .inl (.int, 91, .inl a) := ma_set_at _ _ _
theorem h3_85 {h : ma_H} {a b c : Nat → Int32} : (H3 h a b c).2.1 85 = .inl (.int, 91, .inl b) := (ma_set_ne _ _ (by decide)).trans (ma_set_at _ _ _)
theorem h3_86 {h : ma_H} {a b c : Nat → Int32} : (H3 h a b c).2.1 86 = .inl (.int, 546, .inl c) := (ma_set_ne _ _ (by decide)).trans ((ma_set_ne _ _ (by decide)).trans (ma_set_at _ _ _))
theorem h3_ne {h : ma_H} {a b c : Nat → Int32} {q : Nat} (h0 : q ≠ 84) (h1 : q ≠ 85) (h2 : q ≠ 86) : (H3 h a b c).2.1 q = h.2.1 q := (ma_set_ne _ _ h0).trans ((ma_set_ne _ _ h1).trans (ma_set_ne _ _ h2))
theorem h3s84 {h : ma_H} {a b c x : Nat → Int32} : ma_set (H3 h a b c) 84 (.inl (.int, 91, .inl x)) = H3 h x b c := by
  unfold H3
  rw [ma_set_set]
theorem h3s85 {h : ma_H} {a b c x : Nat → Int32} : ma_set (H3 h a b c) 85 (.inl (.int, 91, .inl x)) = H3 h a x c := by
  unfold H3
  rw [ma_set_swap _ (show 84 ≠ 85 by decide), ma_set_set]
theorem h3s86 {h : ma_H} {a b c x : Nat → Int32} : ma_set (H3 h a b c) 86 (.inl (.int, 546, .inl x)) = H3 h a b x := by
  unfold H3
  rw [ma_set_swap _ (show 84 ≠ 86 by decide), ma_set_swap _ (show 85 ≠ 86 by decide), ma_set_set]
theorem h3_id {h : ma_H} (H : Sh h) : H3 h (ai h 84) (ai h 85) (ai h 86) = h := by
  unfold H3
  rw [ma_set_id H.e86, ma_set_id H.e85, ma_set_id H.e84]
def G3 (h : ma_H) (n t : Nat) : ma_H := H3 h (upN (ai h 84) (fun c => c) (fun c => nI (m_t c)) n) (upN (ai h 85) (fun c => c) (fun c => nI (m_m c)) n) (upN (ai h 86) (fun t => t) (fun t => m_nb (t / 6) (t % 6)) t)
theorem b161 {h : ma_H} {Q : ma_Q} (H : Sh h) (R1 : ∀ c, c < 91 → ai h 81 c = m_q c ∧ ai h 82 c = m_r c) (R3 : ∀ r, r < 11 → ai h 87 r = nI (m_fl.getD r 0)) (k : At 161 Q 282 (0, 0) [some (.ref 80), none, some (.int 0), none, none, none] [] (G3 h 91 546)) : At 161 Q 220 (0, 0) [some (.ref 80), none, some (.int 0), none, none, none] [] h := by
  have e81 : ∀ a b c, (H3 h a b c).2.1 81 = .inl (.int, 91, .inl (ai h 81)) := fun a b c => (h3_ne (by decide) (by decide) (by decide)).trans H.e81
  have e82 : ∀ a b c, (H3 h a b c).2.1 82 = .inl (.int, 91, .inl (ai h 82)) := fun a b c => (h3_ne (by decide) (by decide) (by decide)).trans H.e82
  have e87 : ∀ a b c, ∀ r, r < 11 → ai (H3 h a b c) 87 r = nI (m_fl.getD r 0) := fun a b c r hr => by rw [ai_c (h3_ne (by decide) (by decide) (by decide))]; exact R3 r hr
  have lpK : ∀ c, c < 91 → At 161 Q 220 (0, 0) [some (.ref 80), none, some (.int (nI (c + 1))), none, none, none] [] (G3 h (c + 1) (6 * (c + 1))) → ∀ d j, j + d = 6 → At 161 Q 255 (0, 0) [some (.ref 80), none, some (.int (nI c)), some (.int (m_q c)), some (.int (m_r c)), some (.int (nI j))] [] (G3 h (c + 1) (6 * c + j)) := by
    intro c hc kO d
    induction d with
    | zero =>
      intro j e
      obtain rfl : j = 6 := by omega
      unfold G3 at kO ⊢
      refine go 60 (by decide) ?_
      simp only [KX, KY, KZ, KW, KV, Nat.reduceAdd, Nat.reduceSub, Nat.reduceLeDiff, true_and, and_true, true_or, or_true, or_self, reduceCtorEq, if_true, if_false, not_false_eq_true, eq_self, c161, h3_84, h3_85, h3_86, h3s84, h3s85, h3s86, (h3_sh H _ _ _).e80, e81, e82, List.set_cons_succ, List.set_cons_zero]
      rw [if_neg (show ¬ nI 6 < (6 : Int32) by decide)]
      first
        | (with_reducible show At 161 _ 220 _ _ _ _)
        | (refine go 60 (by decide) ?_; simp only [KX, KY, KZ, KW, KV, Nat.reduceAdd, Nat.reduceSub, Nat.reduceLeDiff, true_and, and_true, true_or, or_true, or_self, reduceCtorEq, if_true, if_false, not_false_eq_true, eq_self, c161, h3_84, h3_85, h3_86, h3s84, h3s85, h3s86, (h3_sh H _ _ _).e80, e81, e82, List.set_cons_succ, List.set_cons_zero])
      first
        | (with_reducible show At 161 _ 220 _ _ _ _)
        | (refine go 60 (by decide) ?_; simp only [KX, KY, KZ, KW, KV, Nat.reduceAdd, Nat.reduceSub, Nat.reduceLeDiff, true_and, and_true, true_or, or_true, or_self, reduceCtorEq, if_true, if_false, not_false_eq_true, eq_self, c161, h3_84, h3_85, h3_86, h3s84, h3s85, h3s86, (h3_sh H _ _ _).e80, e81, e82, List.set_cons_succ, List.set_cons_zero])
      rw [nI_1 c]
      exact At_le kO ⟨rfl, rfl, trivial⟩
    | succ d ih =>
      intro j e
      have hj : j < 6 := by omega
      have ih := ih (j + 1) (by omega)
      have et : (6 * c + j) / 6 = c ∧ (6 * c + j) % 6 = j := by omega
      unfold G3 at ih ⊢
      refine go 60 (by decide) ?_
      simp only [KX, KY, KZ, KW, KV, Nat.reduceAdd, Nat.reduceSub, Nat.reduceLeDiff, true_and, and_true, true_or, or_true, or_self, reduceCtorEq, if_true, if_false, not_false_eq_true, eq_self, c161, h3_84, h3_85, h3_86, h3s84, h3s85, h3s86, (h3_sh H _ _ _).e80, e81, e82, List.set_cons_succ, List.set_cons_zero]
      rw [if_pos (show nI j < (6 : Int32) from nI_lt (b := 6) hj (by decide))]
      try (refine go 60 (by decide) ?_; simp only [KX, KY, KZ, KW, KV, Nat.reduceAdd, Nat.reduceSub, Nat.reduceLeDiff, true_and, and_true, true_or, or_true, or_self, reduceCtorEq, if_true, if_false, not_false_eq_true, eq_self, c161, h3_84, h3_85, h3_86, h3s84, h3s85, h3s86, (h3_sh H _ _ _).e80, e81, e82, List.set_cons_succ, List.set_cons_zero])
      refine s166 ?_
      refine go 60 (by decide) ?_
      simp only [KX, KY, KZ, KW, KV, Nat.reduceAdd, Nat.reduceSub, Nat.reduceLeDiff, true_and, and_true, true_or, or_true, or_self, reduceCtorEq, if_true, if_false, not_false_eq_true, eq_self, c161, h3_84, h3_85, h3_86, h3s84, h3s85, h3s86, (h3_sh H _ _ _).e80, e81, e82, List.set_cons_succ, List.set_cons_zero]
      refine s167 ?_
      refine go 60 (by decide) ?_
      simp only [KX, KY, KZ, KW, KV, Nat.reduceAdd, Nat.reduceSub, Nat.reduceLeDiff, true_and, and_true, true_or, or_true, or_self, reduceCtorEq, if_true, if_false, not_false_eq_true, eq_self, c161, h3_84, h3_85, h3_86, h3s84, h3s85, h3s86, (h3_sh H _ _ _).e80, e81, e82, List.set_cons_succ, List.set_cons_zero]
      have cl : ((6 : Int32) * nI c + nI j).toNatClampNeg = 6 * c + j ∧ vp_in ((6 : Int32) * nI c + nI j) 546 := by
        rw [show (6 : Int32) * nI c = nI (6 * c) from nI_mul 6 c, nI_add]
        exact ⟨nI_clamp (by omega), nI_in (by omega) (by decide)⟩
      have fin : ∀ v, v = m_nb c j → At 161 Q 255 (0, 0) [some (.ref 80), none, some (.int (nI c)), some (.int (m_q c)), some (.int (m_r c)), some (.int (nI (j + 1)))] [] (H3 h (upN (ai h 84) (fun c => c) (fun c => nI (m_t c)) (c + 1)) (upN (ai h 85) (fun c => c) (fun c => nI (m_m c)) (c + 1)) (upd (upN (ai h 86) (fun t => t) (fun t => m_nb (t / 6) (t % 6)) (6 * c + j)) (6 * c + j) v)) := by
        intro v ev
        rw [ev]
        have e3 : m_nb c j = m_nb ((6 * c + j) / 6) ((6 * c + j) % 6) := by rw [et.1, et.2]
        rw [e3]
        exact ih
      rcases mb_t c hc j hj with ⟨b1, b2⟩ | ⟨b1, b2, b3, b4⟩
      · refine s168n b1 ?_
        refine go 60 (by decide) ?_
        simp only [KX, KY, KZ, KW, KV, Nat.reduceAdd, Nat.reduceSub, Nat.reduceLeDiff, true_and, and_true, true_or, or_true, or_self, reduceCtorEq, if_true, if_false, not_false_eq_true, eq_self, c161, h3_84, h3_85, h3_86, h3s84, h3s85, h3s86, (h3_sh H _ _ _).e80, e81, e82, List.set_cons_succ, List.set_cons_zero]
        rw [cl.1, nI_1]
        refine ⟨cl.2, ?_⟩
        first
          | (with_reducible show At 161 _ 255 _ _ _ _)
          | (refine go 60 (by decide) ?_; simp only [KX, KY, KZ, KW, KV, Nat.reduceAdd, Nat.reduceSub, Nat.reduceLeDiff, true_and, and_true, true_or, or_true, or_self, reduceCtorEq, if_true, if_false, not_false_eq_true, eq_self, c161, h3_84, h3_85, h3_86, h3s84, h3s85, h3s86, (h3_sh H _ _ _).e80, e81, e82, List.set_cons_succ, List.set_cons_zero])
        first
          | (with_reducible show At 161 _ 255 _ _ _ _)
          | (refine go 60 (by decide) ?_; simp only [KX, KY, KZ, KW, KV, Nat.reduceAdd, Nat.reduceSub, Nat.reduceLeDiff, true_and, and_true, true_or, or_true, or_self, reduceCtorEq, if_true, if_false, not_false_eq_true, eq_self, c161, h3_84, h3_85, h3_86, h3s84, h3s85, h3s86, (h3_sh H _ _ _).e80, e81, e82, List.set_cons_succ, List.set_cons_zero])
        exact fin _ b2.symm
      · refine s168k (h3_sh H _ _ _) (e87 _ _ _) b1 b3 b4 ?_
        refine go 60 (by decide) ?_
        simp only [KX, KY, KZ, KW, KV, Nat.reduceAdd, Nat.reduceSub, Nat.reduceLeDiff, true_and, and_true, true_or, or_true, or_self, reduceCtorEq, if_true, if_false, not_false_eq_true, eq_self, c161, h3_84, h3_85, h3_86, h3s84, h3s85, h3s86, (h3_sh H _ _ _).e80, e81, e82, List.set_cons_succ, List.set_cons_zero]
        rw [cl.1, nI_1]
        refine ⟨cl.2, ?_⟩
        first
          | (with_reducible show At 161 _ 255 _ _ _ _)
          | (refine go 60 (by decide) ?_; simp only [KX, KY, KZ, KW, KV, Nat.reduceAdd, Nat.reduceSub, Nat.reduceLeDiff, true_and, and_true, true_or, or_true, or_self, reduceCtorEq, if_true, if_false, not_false_eq_true, eq_self, c161, h3_84, h3_85, h3_86, h3s84, h3s85, h3s86, (h3_sh H _ _ _).e80, e81, e82, List.set_cons_succ, List.set_cons_zero])
        first
          | (with_reducible show At 161 _ 255 _ _ _ _)
          | (refine go 60 (by decide) ?_; simp only [KX, KY, KZ, KW, KV, Nat.reduceAdd, Nat.reduceSub, Nat.reduceLeDiff, true_and, and_true, true_or, or_true, or_self, reduceCtorEq, if_true, if_false, not_false_eq_true, eq_self, c161, h3_84, h3_85, h3_86, h3s84, h3s85, h3s86, (h3_sh H _ _ _).e80, e81, e82, List.set_cons_succ, List.set_cons_zero])
        exact fin _ b2.symm
  have lpC : ∀ d c, c + d = 91 → At 161 Q 220 (0, 0) [some (.ref 80), none, some (.int (nI c)), none, none, none] [] (G3 h c (6 * c)) := by
    intro d
    induction d with
    | zero =>
      intro c e
      obtain rfl : c = 91 := by omega
      unfold G3 at k ⊢
      refine go 60 (by decide) ?_
      simp only [KX, KY, KZ, KW, KV, Nat.reduceAdd, Nat.reduceSub, Nat.reduceLeDiff, true_and, and_true, true_or, or_true, or_self, reduceCtorEq, if_true, if_false, not_false_eq_true, eq_self, c161, h3_84, h3_85, h3_86, h3s84, h3s85, h3s86, (h3_sh H _ _ _).e80, e81, e82, List.set_cons_succ, List.set_cons_zero]
      rw [if_neg (show ¬ nI 91 < (91 : Int32) by decide)]
      first
        | (with_reducible show At 161 _ 282 _ _ _ _)
        | (refine go 60 (by decide) ?_; simp only [KX, KY, KZ, KW, KV, Nat.reduceAdd, Nat.reduceSub, Nat.reduceLeDiff, true_and, and_true, true_or, or_true, or_self, reduceCtorEq, if_true, if_false, not_false_eq_true, eq_self, c161, h3_84, h3_85, h3_86, h3s84, h3s85, h3s86, (h3_sh H _ _ _).e80, e81, e82, List.set_cons_succ, List.set_cons_zero])
      first
        | (with_reducible show At 161 _ 282 _ _ _ _)
        | (refine go 60 (by decide) ?_; simp only [KX, KY, KZ, KW, KV, Nat.reduceAdd, Nat.reduceSub, Nat.reduceLeDiff, true_and, and_true, true_or, or_true, or_self, reduceCtorEq, if_true, if_false, not_false_eq_true, eq_self, c161, h3_84, h3_85, h3_86, h3s84, h3s85, h3s86, (h3_sh H _ _ _).e80, e81, e82, List.set_cons_succ, List.set_cons_zero])
      exact At_le k ⟨rfl, rfl, trivial⟩
    | succ d ih =>
      intro c e
      have hc : c < 91 := by omega
      obtain ⟨a1, a2, a3, a4, a5, a6⟩ := mt_t c hc
      obtain ⟨x1, x2⟩ := R1 c hc
      have l0 := lpK c hc (ih (c + 1) (by omega)) 6 0 rfl
      rw [Nat.add_zero] at l0
      unfold G3 at l0 ⊢
      refine go 60 (by decide) ?_
      simp only [KX, KY, KZ, KW, KV, Nat.reduceAdd, Nat.reduceSub, Nat.reduceLeDiff, true_and, and_true, true_or, or_true, or_self, reduceCtorEq, if_true, if_false, not_false_eq_true, eq_self, c161, h3_84, h3_85, h3_86, h3s84, h3s85, h3s86, (h3_sh H _ _ _).e80, e81, e82, List.set_cons_succ, List.set_cons_zero]
      rw [if_pos (show nI c < (91 : Int32) from nI_lt (b := 91) hc (by decide)), nI_clamp (show c < 2 ^ 31 by omega), x1, x2]
      refine ⟨nI_in hc (by decide), nI_in hc (by decide), ?_⟩
      try (refine go 60 (by decide) ?_; simp only [KX, KY, KZ, KW, KV, Nat.reduceAdd, Nat.reduceSub, Nat.reduceLeDiff, true_and, and_true, true_or, or_true, or_self, reduceCtorEq, if_true, if_false, not_false_eq_true, eq_self, c161, h3_84, h3_85, h3_86, h3s84, h3s85, h3s86, (h3_sh H _ _ _).e80, e81, e82, List.set_cons_succ, List.set_cons_zero])
      refine s168k (h3_sh H _ _ _) (e87 _ _ _) a1 a2 a3 ?_
      refine go 60 (by decide) ?_
      simp only [KX, KY, KZ, KW, KV, Nat.reduceAdd, Nat.reduceSub, Nat.reduceLeDiff, true_and, and_true, true_or, or_true, or_self, reduceCtorEq, if_true, if_false, not_false_eq_true, eq_self, c161, h3_84, h3_85, h3_86, h3s84, h3s85, h3s86, (h3_sh H _ _ _).e80, e81, e82, List.set_cons_succ, List.set_cons_zero]
      rw [nI_clamp (show c < 2 ^ 31 by omega)]
      refine ⟨nI_in hc (by decide), ?_⟩
      try (refine go 60 (by decide) ?_; simp only [KX, KY, KZ, KW, KV, Nat.reduceAdd, Nat.reduceSub, Nat.reduceLeDiff, true_and, and_true, true_or, or_true, or_self, reduceCtorEq, if_true, if_false, not_false_eq_true, eq_self, c161, h3_84, h3_85, h3_86, h3s84, h3s85, h3s86, (h3_sh H _ _ _).e80, e81, e82, List.set_cons_succ, List.set_cons_zero])
      refine s168k (h3_sh H _ _ _) (e87 _ _ _) a4 a5 a6 ?_
      refine go 60 (by decide) ?_
      simp only [KX, KY, KZ, KW, KV, Nat.reduceAdd, Nat.reduceSub, Nat.reduceLeDiff, true_and, and_true, true_or, or_true, or_self, reduceCtorEq, if_true, if_false, not_false_eq_true, eq_self, c161, h3_84, h3_85, h3_86, h3s84, h3s85, h3s86, (h3_sh H _ _ _).e80, e81, e82, List.set_cons_succ, List.set_cons_zero]
      rw [nI_clamp (show c < 2 ^ 31 by omega)]
      refine ⟨nI_in hc (by decide), ?_⟩
      first
        | (with_reducible show At 161 _ 255 _ _ _ _)
        | (refine go 60 (by decide) ?_; simp only [KX, KY, KZ, KW, KV, Nat.reduceAdd, Nat.reduceSub, Nat.reduceLeDiff, true_and, and_true, true_or, or_true, or_self, reduceCtorEq, if_true, if_false, not_false_eq_true, eq_self, c161, h3_84, h3_85, h3_86, h3s84, h3s85, h3s86, (h3_sh H _ _ _).e80, e81, e82, List.set_cons_succ, List.set_cons_zero])
      first
        | (with_reducible show At 161 _ 255 _ _ _ _)
        | (refine go 60 (by decide) ?_; simp only [KX, KY, KZ, KW, KV, Nat.reduceAdd, Nat.reduceSub, Nat.reduceLeDiff, true_and, and_true, true_or, or_true, or_self, reduceCtorEq, if_true, if_false, not_false_eq_true, eq_self, c161, h3_84, h3_85, h3_86, h3s84, h3s85, h3s86, (h3_sh H _ _ _).e80, e81, e82, List.set_cons_succ, List.set_cons_zero])
      exact l0
  have l0 := lpC 91 0 rfl
  rw [show G3 h 0 (6 * 0) = h from h3_id H] at l0
  exact l0
theorem d161 {h : ma_H} {Q : ma_Q} (H : Sh h) (R : Rt h) (k : ∀ h1, Sh h1 → Rt h1 → h1.1 = h.1 → (∀ a, a ≠ 88 → h1.2.1 a = h.2.1 a) → (∀ g, g < 4 → ∀ i, i < 91 → ai h1 88 (91 * g + i) = ml_bg i) → Q none h1) : At 161 Q 282 (0, 0) [some (.ref 80), none, some (.int (nI 0)), none, none, none] [] h := by
  have lp : ∀ d f h1, f + d = 4 → Sh h1 → Rt h1 → h1.1 = h.1 → (∀ a, a ≠ 88 → h1.2.1 a = h.2.1 a) → (∀ g, g < f → ∀ i, i < 91 → ai h1 88 (91 * g + i) = ml_bg i) → At 161 Q 282 (0, 0) [some (.ref 80), none, some (.int (nI f)), none, none, none] [] h1 := by
    intro d
    induction d with
    | zero =>
      intro f h1 e H1 R1 n1 fr bg
      obtain rfl : f = 4 := by omega
      refine go 60 (by decide) ?_
      simp only [KX, KY, KZ, KW, KV, Nat.reduceAdd, Nat.reduceSub, Nat.reduceLeDiff, true_and, and_true, true_or, or_true, or_self, reduceCtorEq, if_true, if_false, not_false_eq_true, eq_self, c161, H1.e80]
      rw [if_neg (show ¬ nI 4 < (4 : Int32) by decide)]
      try (refine go 60 (by decide) ?_; simp only [KX, KY, KZ, KW, KV, Nat.reduceAdd, Nat.reduceSub, Nat.reduceLeDiff, true_and, and_true, true_or, or_true, or_self, reduceCtorEq, if_true, if_false, not_false_eq_true, eq_self, c161, H1.e80])
      exact k h1 H1 R1 n1 fr bg
    | succ d ih =>
      intro f h1 e H1 R1 n1 fr bg
      have hf : f < 4 := by omega
      refine go 60 (by decide) ?_
      simp only [KX, KY, KZ, KW, KV, Nat.reduceAdd, Nat.reduceSub, Nat.reduceLeDiff, true_and, and_true, true_or, or_true, or_self, reduceCtorEq, if_true, if_false, not_false_eq_true, eq_self, c161, H1.e80]
      rw [if_pos (show nI f < (4 : Int32) from nI_lt (b := 4) hf (by decide)), show (91 : Int32) * nI f = nI (91 * f) from nI_mul 91 f]
      try (refine go 60 (by decide) ?_; simp only [KX, KY, KZ, KW, KV, Nat.reduceAdd, Nat.reduceSub, Nat.reduceLeDiff, true_and, and_true, true_or, or_true, or_self, reduceCtorEq, if_true, if_false, not_false_eq_true, eq_self, c161, H1.e80])
      refine s169 (A := 91 * f) H1 R1 (by omega) ?_
      first
        | (with_reducible show At 161 _ 282 _ _ _ _)
        | (refine go 60 (by decide) ?_; simp only [KX, KY, KZ, KW, KV, Nat.reduceAdd, Nat.reduceSub, Nat.reduceLeDiff, true_and, and_true, true_or, or_true, or_self, reduceCtorEq, if_true, if_false, not_false_eq_true, eq_self, c161, H1.e80])
      first
        | (with_reducible show At 161 _ 282 _ _ _ _)
        | (refine go 60 (by decide) ?_; simp only [KX, KY, KZ, KW, KV, Nat.reduceAdd, Nat.reduceSub, Nat.reduceLeDiff, true_and, and_true, true_or, or_true, or_self, reduceCtorEq, if_true, if_false, not_false_eq_true, eq_self, c161, H1.e80])
      rw [nI_1 f]
      refine ih (f + 1) _ (by omega) (sh_set H1 rfl) (R1.cong fun a x => ma_set_ne _ _ (by omega)) n1 (fun a ha => (ma_set_ne _ _ ha).trans (fr a ha)) (fun g hg i hi => ?_)
      rw [ai_at]
      unfold ml_beg
      by_cases z : g = f
      · subst z
        exact upN_at (p := fun c => 91 * g + c) 91 (fun a b _ _ e => by omega) i hi
      · rw [upN_ne 91 (fun j hj => by omega)]
        exact bg g (by omega) i hi
  exact lp 4 0 h rfl H R rfl (fun _ _ => rfl) (fun g hg => absurd hg (Nat.not_lt_zero _))
theorem e161 {h : ma_H} {Q : ma_Q} (H : Sh h) (k : ∀ h1, Sh h1 → Rt h1 → h1.1 = h.1 → (∀ a, ¬ (81 ≤ a ∧ a ≤ 88) → h1.2.1 a = h.2.1 a) → (∀ g, g < 4 → ∀ i, i < 91 → ai h1 88 (91 * g + i) = ml_bg i) → Q none h1) : At 161 Q 173 (0, 0) [some (.ref 80), none, none, none, none, none] [] h := by
  refine a161 H ?_
  have S4 := h4_sh H (upN (ai h 81) (fun c => c) m_q 91) (upN (ai h 82) (fun c => c) m_r 91) (upN (ai h 83) (fun c => c) fl_ring 91) (upN (ai h 87) (fun c => c) (fun r => nI (m_fl.getD r 0)) 11)
  have x81 : ∀ c, c < 91 → ai (G4 h 91 11) 81 c = m_q c := fun c hc => by rw [show ai (G4 h 91 11) 81 = _ from ai_at _ _ _ _ _]; exact upN_at (p := fun c => c) 91 (fun a b _ _ e => e) c hc
  have x82 : ∀ c, c < 91 → ai (G4 h 91 11) 82 c = m_r c := fun c hc => by rw [show ai (G4 h 91 11) 82 = upN (ai h 82) (fun c => c) m_r 91 from congrArg aiC h4_82]; exact upN_at (p := fun c => c) 91 (fun a b _ _ e => e) c hc
  have x83 : ∀ c, c < 91 → ai (G4 h 91 11) 83 c = fl_ring c := fun c hc => by rw [show ai (G4 h 91 11) 83 = upN (ai h 83) (fun c => c) fl_ring 91 from congrArg aiC h4_83]; exact upN_at (p := fun c => c) 91 (fun a b _ _ e => e) c hc
  have x87 : ∀ r, r < 11 → ai (G4 h 91 11) 87 r = nI (m_fl.getD r 0) := fun r hr => by rw [show ai (G4 h 91 11) 87 = upN (ai h 87) (fun c => c) (fun r => nI (m_fl.getD r 0)) 11 from congrArg aiC h4_87]; exact upN_at (p := fun c => c) 11 (fun a b _ _ e => e) r hr
  have f4 : ∀ a, ¬ (81 ≤ a ∧ a ≤ 88) → (G4 h 91 11).2.1 a = h.2.1 a := fun a ha => (ma_set_ne _ _ (by omega)).trans ((ma_set_ne _ _ (by omega)).trans ((ma_set_ne _ _ (by omega)).trans (ma_set_ne _ _ (by omega))))
  have n4 : (G4 h 91 11).1 = h.1 := rfl
  have S4 : Sh (G4 h 91 11) := S4
  generalize G4 h 91 11 = h1 at S4 x81 x82 x83 x87 f4 n4 ⊢
  refine b161 S4 (fun c hc => ⟨x81 c hc, x82 c hc⟩) x87 ?_
  have S3 : Sh (G3 h1 91 546) := h3_sh S4 _ _ _
  have y84 : ∀ c, c < 91 → ai (G3 h1 91 546) 84 c = nI (m_t c) := fun c hc => by rw [show ai (G3 h1 91 546) 84 = upN (ai h1 84) (fun c => c) (fun c => nI (m_t c)) 91 from congrArg aiC h3_84]; exact upN_at (p := fun c => c) 91 (fun a b _ _ e => e) c hc
  have y85 : ∀ c, c < 91 → ai (G3 h1 91 546) 85 c = nI (m_m c) := fun c hc => by rw [show ai (G3 h1 91 546) 85 = upN (ai h1 85) (fun c => c) (fun c => nI (m_m c)) 91 from congrArg aiC h3_85]; exact upN_at (p := fun c => c) 91 (fun a b _ _ e => e) c hc
  have y86 : ∀ t, t < 546 → ai (G3 h1 91 546) 86 t = m_nb (t / 6) (t % 6) := fun t ht => by rw [show ai (G3 h1 91 546) 86 = upN (ai h1 86) (fun t => t) (fun t => m_nb (t / 6) (t % 6)) 546 from congrArg aiC h3_86]; exact upN_at (p := fun c => c) 546 (fun a b _ _ e => e) t ht
  have f3 : ∀ a, a ≠ 84 → a ≠ 85 → a ≠ 86 → (G3 h1 91 546).2.1 a = h1.2.1 a := fun a h0 h1 h2 => h3_ne h0 h1 h2
  have n3 : (G3 h1 91 546).1 = h1.1 := rfl
  generalize G3 h1 91 546 = h2 at S3 y84 y85 y86 f3 n3 ⊢
  have R : Rt h2 := ⟨fun c hc => ⟨by rw [ai_c (f3 81 (by decide) (by decide) (by decide))]; exact x81 c hc, by rw [ai_c (f3 82 (by decide) (by decide) (by decide))]; exact x82 c hc, by rw [ai_c (f3 83 (by decide) (by decide) (by decide))]; exact x83 c hc, y84 c hc, y85 c hc⟩, fun c hc k hk => by rw [y86 _ (by omega), show (6 * c + k) / 6 = c by omega, show (6 * c + k) % 6 = k by omega], fun r hr => by rw [ai_c (f3 87 (by decide) (by decide) (by decide))]; exact x87 r hr⟩
  refine d161 S3 R (fun h3 H3_ R3 n5 f5 bg => ?_)
  exact k h3 H3_ R3 (n5.trans (n3.trans n4)) (fun a ha => (f5 a (by omega)).trans ((f3 a (by omega) (by omega) (by omega)).trans (f4 a ha))) bg
