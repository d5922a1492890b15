/-! CELLS of both: numbers, tables; a FLAKE begins -/
theorem nI_mul (a b : Nat) : nI a * nI b = nI (a * b) := (Int32.ofNat_mul a b).symm
theorem nI_sub {a b : Nat} (h : b ≤ a) : nI a - nI b = nI (a - b) := by
  have e : nI a = nI (a - b) + nI b := by rw [nI_add, Nat.sub_add_cancel h]
  rw [e, Int32.add_sub_cancel]
def m_row (c : Nat) : Nat := (m_r c + 5).toNatClampNeg
theorem m_num : ∀ c, c < 91 → i_cell (m_q c) (m_r c) = 1 ∧ m_r c + 5 = nI (m_row c) ∧ m_row c < 11 ∧ (m_r c < 0 → nI (m_fl.getD (m_row c) 0) + m_q c - (-5 - m_r c) = nI c) ∧ (¬ m_r c < 0 → nI (m_fl.getD (m_row c) 0) + m_q c - -5 = nI c) := by decide +kernel
theorem i_in_range {q : Int32} (h : ¬ i_in q (-5) 5 = 0) : ∃ a : Nat, a < 11 ∧ q = nI a - 5 := by
  rcases i_in01 q (-5) 5 with ⟨e, -⟩ | ⟨-, a, b⟩
  · exact absurd e h
  · have h1 : ¬ q + 5 < 0 := by
      intro x
      rw [Int32.lt_iff_toInt_lt] at x a
      rw [Int32.le_iff_toInt_le] at b
      have e5 : (5 : Int32).toInt = 5 := rfl
      have e5' : (-5 : Int32).toInt = -5 := rfl
      have e0 : (0 : Int32).toInt = 0 := rfl
      rw [e5] at b
      rw [e5'] at a
      rw [Int32.toInt_add, e5, e0] at x
      have : (q.toInt + 5).bmod (2 ^ 32) = q.toInt + 5 := by
        rw [Int.bmod_def]
        omega
      omega
    obtain ⟨j, hj, e⟩ := nI_of h1
    refine ⟨j, ?_, ?_⟩
    · rw [Int32.le_iff_toInt_le] at b
      rw [Int32.lt_iff_toInt_lt] at a
      have e2 := congrArg Int32.toInt e
      have e5 : (5 : Int32).toInt = 5 := rfl
      have e5' : (-5 : Int32).toInt = -5 := rfl
      rw [Int32.toInt_add, e5, nI_toInt hj] at e2
      rw [e5] at b
      rw [e5'] at a
      have : (q.toInt + 5).bmod (2 ^ 32) = q.toInt + 5 := by
        rw [Int.bmod_def]
        omega
      omega
    · rw [← e, Int32.add_sub_cancel]
def c_q (a b : Nat) : Nat := cix (i_place (nI a - 5, nI b - 5)).toNatClampNeg
theorem c_qr : ∀ a, a < 11 → ∀ b, b < 11 → i_cell (nI a - 5) (nI b - 5) = 0 ∨ (c_q a b < 91 ∧ i_place (nI a - 5, nI b - 5) = nI (ma_cell (c_q a b)) ∧ nI a - 5 = m_q (c_q a b) ∧ nI b - 5 = m_r (c_q a b)) := by decide +kernel
theorem i_in01n (v a b : Int32) : i_in v a b = 0 ∨ i_in v a b = 1 := by
  rcases i_in01 v a b with ⟨e, -⟩ | ⟨e, -⟩
  · exact Or.inl e
  · exact Or.inr e
/-- q and r of a CELL, or of none -/
theorem ccase (q r : Int32) : (∃ c, c < 91 ∧ q = m_q c ∧ r = m_r c ∧ i_place (q, r) = nI (ma_cell c) ∧ i_cell q r = 1) ∨ (i_cell q r = 0 ∧ i_place (q, r) = -1) := by
  have no : i_cell q r = 0 → i_place (q, r) = -1 := by
    intro h
    apply if_neg
    rintro ⟨a1, a2, a3, a4, a5, a6⟩
    have g : ∀ x : Int32, -5 ≤ x → x ≤ 5 → i_in x (-5) 5 = 1 := fun x a b => by
      unfold i_in
      rw [if_neg (Int32.not_lt.mpr a), if_pos b]
    unfold i_cell at h
    rw [g q a1 a2, g r a3 a4, g (q + r) a5 a6] at h
    exact absurd h (by decide)
  by_cases h : i_cell q r = 0
  · exact Or.inr ⟨h, no h⟩
  · refine Or.inl ?_
    have h1 : ¬ i_in q (-5) 5 = 0 := fun e => h (if_pos e)
    have h2 : ¬ i_in r (-5) 5 = 0 := fun e => h (by unfold i_cell; rw [if_neg h1, if_pos e])
    obtain ⟨a, ha, ea⟩ := i_in_range h1
    obtain ⟨b, hb, eb⟩ := i_in_range h2
    rcases c_qr a ha b hb with x | ⟨x1, x2, x3, x4⟩
    · rw [← ea, ← eb] at x
      exact absurd x h
    · rw [← ea, ← eb] at x2
      rw [← ea] at x3
      rw [← eb] at x4
      refine ⟨c_q a b, x1, x3, x4, x2, ?_⟩
      rw [x3, x4]
      exact (m_num _ x1).1
/-- set one after the other -/
def upN (g : Nat → Int32) (p : Nat → Nat) (v : Nat → Int32) : Nat → Nat → Int32
  | 0 => g
  | n + 1 => upd (upN g p v n) (p n) (v n)
theorem upN_ne {g : Nat → Int32} {p : Nat → Nat} {v : Nat → Int32} {j : Nat} : ∀ n, (∀ i, i < n → j ≠ p i) → upN g p v n j = g j
  | 0, _ => rfl
  | n + 1, w => by
    show upd (upN g p v n) (p n) (v n) j = g j
    unfold upd
    rw [if_neg (w n (by omega))]
    exact upN_ne n (fun i hi => w i (by omega))
theorem upN_at {g : Nat → Int32} {p : Nat → Nat} {v : Nat → Int32} : ∀ n, (∀ i j, i < n → j < n → p i = p j → i = j) → ∀ i, i < n → upN g p v n (p i) = v i
  | n + 1, w, i, hi => by
    show upd (upN g p v n) (p n) (v n) (p i) = v i
    unfold upd
    by_cases e : i = n
    · subst e
      rw [if_pos rfl]
    · rw [if_neg (fun x => e (w i n hi (by omega) x))]
      exact upN_at n (fun i j a b => w i j (by omega) (by omega)) i (by omega)
theorem fl_set_upN (g : Nat → Int32) (v : Int32) : ∀ n, fl_set g v n = upN g ma_cell (fun _ => v) n
  | 0 => rfl
  | n + 1 => by
    show upd (fl_set g v n) _ _ = upd _ _ _
    rw [fl_set_upN g v n]
theorem cell_inj : ∀ i, i < 91 → ∀ j, j < 91 → ma_cell i = ma_cell j → i = j := by decide +kernel
theorem s168c {h : ma_H} {Q : ma_Q} {c : Nat} (H : Sh h) (R : Rt h) (hc : c < 91) (k : Q (some (.int (nI c))) h) : ma_X 168 [.ref 80, .int (m_q c), .int (m_r c)] h Q := by
  refine ma_enter (m := 168) (Or.inl (by decide)) (by show 3 ≤ mt_n 168; decide +kernel) ?_
  show At 168 Q 0 (mt_c 168) [some (.ref 80), some (.int (m_q c)), some (.int (m_r c)), none] [] h
  obtain ⟨n1, n2, n3, n4, n5⟩ := m_num c hc
  have t := R.2.2 (m_row c) n3
  refine go 60 (by decide) ?_
  simp only [KX, KY, KZ, KW, KV, Nat.reduceAdd, Nat.reduceSub, Nat.reduceLeDiff, true_and, and_true, true_or, or_true, or_self, reduceCtorEq, if_true, if_false, not_false_eq_true, eq_self, c168]
  refine s165 ?_
  rw [n1]
  refine go 60 (by decide) ?_
  simp only [KX, KY, KZ, KW, KV, Nat.reduceAdd, Nat.reduceSub, Nat.reduceLeDiff, true_and, and_true, true_or, or_true, or_self, reduceCtorEq, if_true, if_false, not_false_eq_true, eq_self, c168]
  by_cases s : m_r c < 0
  · rw [if_pos s]
    refine go 60 (by decide) ?_
    simp only [KX, KY, KZ, KW, KV, Nat.reduceAdd, Nat.reduceSub, Nat.reduceLeDiff, true_and, and_true, true_or, or_true, or_self, reduceCtorEq, if_true, if_false, not_false_eq_true, eq_self, c168, H.e80, H.e87]
    rw [n2, nI_clamp (by omega), t, n4 s]
    exact ⟨nI_in (by omega) (by decide), k⟩
  · rw [if_neg s]
    refine go 60 (by decide) ?_
    simp only [KX, KY, KZ, KW, KV, Nat.reduceAdd, Nat.reduceSub, Nat.reduceLeDiff, true_and, and_true, true_or, or_true, or_self, reduceCtorEq, if_true, if_false, not_false_eq_true, eq_self, c168, H.e80, H.e87]
    rw [n2, nI_clamp (by omega), t, n5 s]
    exact ⟨nI_in (by omega) (by decide), k⟩
theorem s168n {h : ma_H} {Q : ma_Q} {q r : Int32} (hc : i_cell q r = 0) (k : Q (some (.int (-1))) h) : ma_X 168 [.ref 80, .int q, .int r] h Q := by
  refine ma_enter (m := 168) (Or.inl (by decide)) (by show 3 ≤ mt_n 168; decide +kernel) ?_
  show At 168 Q 0 (mt_c 168) [some (.ref 80), some (.int q), some (.int r), none] [] h
  refine go 60 (by decide) ?_
  simp only [KX, KY, KZ, KW, KV, Nat.reduceAdd, Nat.reduceSub, Nat.reduceLeDiff, true_and, and_true, true_or, or_true, or_self, reduceCtorEq, if_true, if_false, not_false_eq_true, eq_self, c168]
  refine s165 ?_
  rw [hc]
  refine go 60 (by decide) ?_
  simp only [KX, KY, KZ, KW, KV, Nat.reduceAdd, Nat.reduceSub, Nat.reduceLeDiff, true_and, and_true, true_or, or_true, or_self, reduceCtorEq, if_true, if_false, not_false_eq_true, eq_self, c168]
  exact k
def ml_bg (c : Nat) : Int32 := if m_q c = 0 then if m_r c = 0 then 0 else -1 else -1
def ml_beg (g : Nat → Int32) (A : Nat) : Nat → Nat → Int32 := upN g (fun c => A + c) ml_bg
theorem s169 {h : ma_H} {Q : ma_Q} {A : Nat} (H : Sh h) (R : Rt h) (hA : A + 91 ≤ 910) (k : Q none (ma_set h 88 (.inl (.int, 910, .inl (ml_beg (ai h 88) A 91))))) : ma_X 169 [.ref 80, .int (nI A)] h Q := by
  have hs : ∀ g, Sh (ma_set h 88 (.inl (.int, 910, .inl g))) := fun g => sh_set H rfl
  have lp : ∀ ni i, i + ni = 91 → At 169 Q 2 (0, 0) [some (.ref 80), some (.int (nI A)), some (.int (nI i))] [] (ma_set h 88 (.inl (.int, 910, .inl (ml_beg (ai h 88) A i)))) := by
    intro ni
    induction ni with
    | zero =>
      intro i e
      obtain rfl : i = 91 := by omega
      refine go 60 (by decide) ?_
      simp only [KX, KY, KZ, KW, KV, Nat.reduceAdd, Nat.reduceSub, Nat.reduceLeDiff, true_and, and_true, true_or, or_true, or_self, reduceCtorEq, if_true, if_false, not_false_eq_true, eq_self, c169, (hs _).e80, (hs _).e81, (hs _).e82, (hs _).e88]
      rw [show (91 : Int32) = nI 91 from rfl]
      rw [if_neg (nI_nlt (Nat.le_refl _) (by omega))]
      exact k
    | succ ni ih =>
      intro i e
      have hi : i < 91 := by omega
      have e1i := nI_1 i
      refine go 60 (by decide) ?_
      simp only [KX, KY, KZ, KW, KV, Nat.reduceAdd, Nat.reduceSub, Nat.reduceLeDiff, true_and, and_true, true_or, or_true, or_self, reduceCtorEq, if_true, if_false, not_false_eq_true, eq_self, c169, (hs _).e80, (hs _).e81, (hs _).e82, (hs _).e88]
      rw [show (91 : Int32) = nI 91 from rfl]
      rw [if_pos (nI_lt hi (by omega))]
      rw [nI_clamp (show i < 2 ^ 31 by omega)]
      rw [show ai (ma_set h 88 (.inl (.int, 910, .inl (ml_beg (ai h 88) A i)))) 81 = ai h 81 from rfl, (R.1 i hi).1]
      refine ⟨nI_in hi (by decide), ?_⟩
      have f2 : ml_beg (ai h 88) A (i + 1) = upd (ml_beg (ai h 88) A i) (A + i) (ml_bg i) := rfl
      unfold ml_bg at f2
      by_cases s1 : m_q i = 0
      · rw [if_pos s1] at f2 ⊢
        rw [show ai (ma_set h 88 (.inl (.int, 910, .inl (ml_beg (ai h 88) A i)))) 82 = ai h 82 from rfl, (R.1 i hi).2.1]
        refine ⟨nI_in hi (by decide), ?_⟩
        by_cases s2 : m_r i = 0
        · rw [if_pos s2] at f2 ⊢
          refine go 60 (by decide) ?_
          simp only [KX, KY, KZ, KW, KV, Nat.reduceAdd, Nat.reduceSub, Nat.reduceLeDiff, true_and, and_true, true_or, or_true, or_self, reduceCtorEq, if_true, if_false, not_false_eq_true, eq_self, c169, (hs _).e80, (hs _).e88, ma_set_at]
          try (refine go 60 (by decide) ?_; simp only [KX, KY, KZ, KW, KV, Nat.reduceAdd, Nat.reduceSub, Nat.reduceLeDiff, true_and, and_true, true_or, or_true, or_self, reduceCtorEq, if_true, if_false, not_false_eq_true, eq_self, c169, (hs _).e80, (hs _).e88, ma_set_at])
          rw [nI_add, nI_clamp (show A + i < 2 ^ 31 by omega)]
          refine ⟨nI_in (show A + i < 910 by omega) (by decide), ?_⟩
          rw [ma_set_set, e1i]
          show At 169 Q 2 _ _ _ (ma_set h 88 (.inl (.int, 910, .inl (upd (ml_beg (ai h 88) A i) (A + i) _))))
          rw [← f2]
          exact ih (i + 1) (by omega)
        · rw [if_neg s2] at f2 ⊢
          refine go 60 (by decide) ?_
          simp only [KX, KY, KZ, KW, KV, Nat.reduceAdd, Nat.reduceSub, Nat.reduceLeDiff, true_and, and_true, true_or, or_true, or_self, reduceCtorEq, if_true, if_false, not_false_eq_true, eq_self, c169, (hs _).e80, (hs _).e88, ma_set_at]
          try (refine go 60 (by decide) ?_; simp only [KX, KY, KZ, KW, KV, Nat.reduceAdd, Nat.reduceSub, Nat.reduceLeDiff, true_and, and_true, true_or, or_true, or_self, reduceCtorEq, if_true, if_false, not_false_eq_true, eq_self, c169, (hs _).e80, (hs _).e88, ma_set_at])
          rw [nI_add, nI_clamp (show A + i < 2 ^ 31 by omega)]
          refine ⟨nI_in (show A + i < 910 by omega) (by decide), ?_⟩
          rw [ma_set_set, e1i]
          show At 169 Q 2 _ _ _ (ma_set h 88 (.inl (.int, 910, .inl (upd (ml_beg (ai h 88) A i) (A + i) _))))
          rw [← f2]
          exact ih (i + 1) (by omega)
      · rw [if_neg s1] at f2 ⊢
        refine go 60 (by decide) ?_
        simp only [KX, KY, KZ, KW, KV, Nat.reduceAdd, Nat.reduceSub, Nat.reduceLeDiff, true_and, and_true, true_or, or_true, or_self, reduceCtorEq, if_true, if_false, not_false_eq_true, eq_self, c169, (hs _).e80, (hs _).e88, ma_set_at]
        try (refine go 60 (by decide) ?_; simp only [KX, KY, KZ, KW, KV, Nat.reduceAdd, Nat.reduceSub, Nat.reduceLeDiff, true_and, and_true, true_or, or_true, or_self, reduceCtorEq, if_true, if_false, not_false_eq_true, eq_self, c169, (hs _).e80, (hs _).e88, ma_set_at])
        rw [nI_add, nI_clamp (show A + i < 2 ^ 31 by omega)]
        refine ⟨nI_in (show A + i < 910 by omega) (by decide), ?_⟩
        rw [ma_set_set, e1i]
        show At 169 Q 2 _ _ _ (ma_set h 88 (.inl (.int, 910, .inl (upd (ml_beg (ai h 88) A i) (A + i) _))))
        rw [← f2]
        exact ih (i + 1) (by omega)
  refine ma_enter (m := 169) (Or.inl (by decide)) (by show 2 ≤ mt_n 169; decide +kernel) ?_
  show At 169 Q 0 (mt_c 169) [some (.ref 80), some (.int (nI A)), none] [] h
  refine go 60 (by decide) ?_
  simp only [KX, KY, KZ, KW, KV, Nat.reduceAdd, Nat.reduceSub, Nat.reduceLeDiff, true_and, and_true, true_or, or_true, or_self, reduceCtorEq, if_true, if_false, not_false_eq_true, eq_self, c169]
  have l0 := lp 91 0 rfl
  rw [show ma_set h 88 (.inl (.int, 910, .inl (ml_beg (ai h 88) A 0))) = h from ma_set_id H.e88] at l0
  exact l0
