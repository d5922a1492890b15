/-! THE MODEL: layers, what a CELL comes to -/
def ml_since (g : Nat → Int32) (w : Int32) (A i : Nat) : Int32 := if g (A + i) = w then 1 else 0
theorem ix91n {x : Int32} {f : Nat} (e : x = nI f) : 91 * x = nI (91 * f) := by
  subst e
  exact nI_mul 91 f
theorem s201 {h : ma_H} {Q : ma_Q} {x w : Int32} {f : Nat} (H : Sh h) (hf : f < 4) (q : x = nI f) (w1 : ¬ w < 0) (w2 : w ≤ 60) (k : Q (some (.int (su (ml_since (ai h 88) w (91 * f)) 91))) h) : ma_X 201 [.ref 80, .int x, .int w] h Q := by
  have e91 := ix91n q
  have lp : ∀ ni i, i + ni = 91 → At 201 Q 14 (0, 0) [some (.ref 80), some (.int x), some (.int w), some (.int (su (ml_since (ai h 88) w (91 * f)) i)), some (.int (nI i))] [] h := by
    intro ni
    induction ni with
    | zero =>
      intro i e
      obtain rfl : i = 91 := by omega
      refine go 60 (by decide) ?_
      simp only [KX, KY, KZ, KW, KV, Nat.reduceAdd, Nat.reduceSub, Nat.reduceLeDiff, true_and, and_true, true_or, or_true, or_self, reduceCtorEq, if_true, if_false, not_false_eq_true, eq_self, c201, H.e80, H.e88]
      rw [if_neg (show ¬ nI 91 < (91 : Int32) from nI_nlt (Nat.le_refl _) (by decide))]
      exact k
    | succ ni ih =>
      intro i e
      have hi : i < 91 := by omega
      have e1i := nI_1 i
      refine go 60 (by decide) ?_
      simp only [KX, KY, KZ, KW, KV, Nat.reduceAdd, Nat.reduceSub, Nat.reduceLeDiff, true_and, and_true, true_or, or_true, or_self, reduceCtorEq, if_true, if_false, not_false_eq_true, eq_self, c201, H.e80, H.e88]
      rw [if_pos (show nI i < (91 : Int32) from nI_lt hi (by decide))]
      rw [e91, nI_add, nI_clamp (show 91 * f + i < 2 ^ 31 by omega)]
      refine ⟨nI_in (show 91 * f + i < 910 by omega) (by decide), ?_⟩
      have e2 : su (ml_since (ai h 88) w (91 * f)) (i + 1) = su (ml_since (ai h 88) w (91 * f)) i + (if ai h 88 (91 * f + i) = w then 1 else 0) := rfl
      split
      · rename_i z
        rw [if_pos z] at e2
        refine go 60 (by decide) ?_
        simp only [KX, KY, KZ, KW, KV, Nat.reduceAdd, Nat.reduceSub, Nat.reduceLeDiff, true_and, and_true, true_or, or_true, or_self, reduceCtorEq, if_true, if_false, not_false_eq_true, eq_self, c201, H.e80, H.e88]
        rw [e1i, ← e2]
        exact ih (i + 1) (by omega)
      · rename_i z
        rw [if_neg z] at e2
        refine go 60 (by decide) ?_
        simp only [KX, KY, KZ, KW, KV, Nat.reduceAdd, Nat.reduceSub, Nat.reduceLeDiff, true_and, and_true, true_or, or_true, or_self, reduceCtorEq, if_true, if_false, not_false_eq_true, eq_self, c201, H.e80, H.e88]
        rw [e1i, ← e2]
        exact ih (i + 1) (by omega)
  refine ma_enter (m := 201) (Or.inl (by decide)) (by show 3 ≤ mt_n 201; decide +kernel) ?_
  show At 201 Q 0 (mt_c 201) [some (.ref 80), some (.int x), some (.int w), none, none] [] h
  refine go 60 (by decide) ?_
  simp only [KX, KY, KZ, KW, KV, Nat.reduceAdd, Nat.reduceSub, Nat.reduceLeDiff, true_and, and_true, true_or, or_true, or_self, reduceCtorEq, if_true, if_false, not_false_eq_true, eq_self, c201, H.e80, H.e88]
  refine s170y (by subst q; exact nI_pos (by omega)) (by subst q; exact nI_le (a := f) (b := 3) (by omega) (by decide)) ?_
  refine go 60 (by decide) ?_
  simp only [KX, KY, KZ, KW, KV, Nat.reduceAdd, Nat.reduceSub, Nat.reduceLeDiff, true_and, and_true, true_or, or_true, or_self, reduceCtorEq, if_true, if_false, not_false_eq_true, eq_self, c201, H.e80, H.e88]
  refine s162y w1 w2 ?_
  refine go 60 (by decide) ?_
  simp only [KX, KY, KZ, KW, KV, Nat.reduceAdd, Nat.reduceSub, Nat.reduceLeDiff, true_and, and_true, true_or, or_true, or_self, reduceCtorEq, if_true, if_false, not_false_eq_true, eq_self, c201, H.e80, H.e88]
  exact lp 91 0 rfl
def m_imN (c : Nat) : Nat → Nat
  | 0 => c
  | n + 1 => m_t (m_imN c n)
def m_im (c t : Nat) (mi : Int32) : Nat := m_imN (if mi = 0 then c else m_m c) t
theorem m_im_ok : ∀ c, c < 91 → m_m c < 91 ∧ m_t c < 91 := by decide +kernel
theorem m_imN_lt {c : Nat} (hc : c < 91) : ∀ n, m_imN c n < 91
  | 0 => hc
  | n + 1 => (m_im_ok _ (m_imN_lt hc n)).2
theorem m_im0 {c : Nat} (hc : c < 91) (mi : Int32) : (if mi = 0 then c else m_m c) < 91 := by
  split
  · exact hc
  · exact (m_im_ok c hc).1
theorem m_im_lt {c : Nat} (hc : c < 91) (t : Nat) (mi : Int32) : m_im c t mi < 91 := m_imN_lt (m_im0 hc mi) t
theorem im_eq0 : ∀ t, t < 6 → ∀ c, c < 91 → i_image (nI (ma_cell c)) t 0 = nI (ma_cell (m_im c t 0)) := by decide +kernel
theorem im_eq1 : ∀ t, t < 6 → ∀ c, c < 91 → i_image (nI (ma_cell c)) t 1 = nI (ma_cell (m_im c t 1)) := by decide +kernel
theorem s202 {h : ma_H} {Q : ma_Q} {c t : Nat} {mi : Int32} (H : Sh h) (R : Rt h) (hc : c < 91) (ht : t < 6) (k : Q (some (.int (nI (m_im c t mi)))) h) : ma_X 202 [.ref 80, .int (nI c), .int (nI t), .int mi] h Q := by
  have lp : ∀ z, z < 91 → (Q (some (.int (nI (m_imN z t)))) h) → ∀ n i, i + n = t → At 202 Q 11 (0, 0) [some (.ref 80), some (.int (nI c)), some (.int (nI t)), some (.int mi), some (.int (nI (m_imN z i))), some (.int (nI i))] [] h := by
    intro z hz kz n
    induction n with
    | zero =>
      intro i e
      obtain rfl : i = t := by omega
      refine go 60 (by decide) ?_
      simp only [KX, KY, KZ, KW, KV, Nat.reduceAdd, Nat.reduceSub, Nat.reduceLeDiff, true_and, and_true, true_or, or_true, or_self, reduceCtorEq, if_true, if_false, not_false_eq_true, eq_self, c202, H.e80, H.e83, H.e84, H.e85]
      rw [if_neg (nI_nlt (Nat.le_refl _) (by omega))]
      exact kz
    | succ n ih =>
      intro i e
      refine go 60 (by decide) ?_
      simp only [KX, KY, KZ, KW, KV, Nat.reduceAdd, Nat.reduceSub, Nat.reduceLeDiff, true_and, and_true, true_or, or_true, or_self, reduceCtorEq, if_true, if_false, not_false_eq_true, eq_self, c202, H.e80, H.e83, H.e84, H.e85]
      rw [if_pos (nI_lt (show i < t by omega) (by omega)), nI_clamp (show m_imN z i < 2 ^ 31 by have := m_imN_lt hz i; omega), (R.1 _ (m_imN_lt hz i)).2.2.2.1, nI_1]
      exact ⟨nI_in (m_imN_lt hz i) (by decide), ih (i + 1) (by omega)⟩
  refine ma_enter (m := 202) (Or.inl (by decide)) (by show 4 ≤ mt_n 202; decide +kernel) ?_
  show At 202 Q 0 (mt_c 202) [some (.ref 80), some (.int (nI c)), some (.int (nI t)), some (.int mi), none, none] [] h
  refine go 60 (by decide) ?_
  simp only [KX, KY, KZ, KW, KV, Nat.reduceAdd, Nat.reduceSub, Nat.reduceLeDiff, true_and, and_true, true_or, or_true, or_self, reduceCtorEq, if_true, if_false, not_false_eq_true, eq_self, c202, H.e80, H.e83, H.e84, H.e85]
  unfold m_im at k
  by_cases q : mi = 0
  · rw [if_pos q] at k ⊢
    refine go 60 (by decide) ?_
    simp only [KX, KY, KZ, KW, KV, Nat.reduceAdd, Nat.reduceSub, Nat.reduceLeDiff, true_and, and_true, true_or, or_true, or_self, reduceCtorEq, if_true, if_false, not_false_eq_true, eq_self, c202, H.e80, H.e83, H.e84, H.e85]
    exact lp c hc k t 0 (by omega)
  · rw [if_neg q] at k ⊢
    rw [nI_clamp (by omega), (R.1 c hc).2.2.2.2]
    refine ⟨nI_in hc (by decide), ?_⟩
    refine go 60 (by decide) ?_
    simp only [KX, KY, KZ, KW, KV, Nat.reduceAdd, Nat.reduceSub, Nat.reduceLeDiff, true_and, and_true, true_or, or_true, or_self, reduceCtorEq, if_true, if_false, not_false_eq_true, eq_self, c202, H.e80, H.e83, H.e84, H.e85]
    exact lp _ (m_im_ok c hc).1 k t 0 (by omega)
def ml_un (g : Nat → Int32) (A B t : Nat) (mi : Int32) (i : Nat) : Int32 := if fl_has g (A + m_im i t mi) = fl_has g (B + i) then 0 else 1
theorem s203 {h : ma_H} {Q : ma_Q} {A B t : Nat} {mi : Int32} (H : Sh h) (R : Rt h) (hA : A + 91 ≤ 910) (hB : B + 91 ≤ 910) (ht : t < 6) (k : Q (some (.int (su (ml_un (ai h 88) A B t mi) 91))) h) : ma_X 203 [.ref 80, .int (nI A), .int (nI B), .int (nI t), .int mi] h Q := by
  have lp : ∀ ni i, i + ni = 91 → At 203 Q 4 (0, 0) [some (.ref 80), some (.int (nI A)), some (.int (nI B)), some (.int (nI t)), some (.int mi), some (.int (su (ml_un (ai h 88) A B t mi) i)), some (.int (nI i))] [] h := by
    intro ni
    induction ni with
    | zero =>
      intro i e
      obtain rfl : i = 91 := by omega
      refine go 60 (by decide) ?_
      simp only [KX, KY, KZ, KW, KV, Nat.reduceAdd, Nat.reduceSub, Nat.reduceLeDiff, true_and, and_true, true_or, or_true, or_self, reduceCtorEq, if_true, if_false, not_false_eq_true, eq_self, c203, H.e80, H.e88]
      rw [if_neg (show ¬ nI 91 < (91 : Int32) from nI_nlt (Nat.le_refl _) (by decide))]
      exact k
    | succ ni ih =>
      intro i e
      have hi : i < 91 := by omega
      have e1i := nI_1 i
      refine go 60 (by decide) ?_
      simp only [KX, KY, KZ, KW, KV, Nat.reduceAdd, Nat.reduceSub, Nat.reduceLeDiff, true_and, and_true, true_or, or_true, or_self, reduceCtorEq, if_true, if_false, not_false_eq_true, eq_self, c203, H.e80, H.e88]
      rw [if_pos (show nI i < (91 : Int32) from nI_lt hi (by decide))]
      refine s202 H R hi ht ?_
      refine go 60 (by decide) ?_
      simp only [KX, KY, KZ, KW, KV, Nat.reduceAdd, Nat.reduceSub, Nat.reduceLeDiff, true_and, and_true, true_or, or_true, or_self, reduceCtorEq, if_true, if_false, not_false_eq_true, eq_self, c203, H.e80, H.e88]
      refine s172 (A := A) H.e80 rfl H.e88 (by have := m_im_lt hi t mi; omega) ?_
      refine go 60 (by decide) ?_
      simp only [KX, KY, KZ, KW, KV, Nat.reduceAdd, Nat.reduceSub, Nat.reduceLeDiff, true_and, and_true, true_or, or_true, or_self, reduceCtorEq, if_true, if_false, not_false_eq_true, eq_self, c203, H.e80, H.e88]
      refine s172 (A := B) H.e80 rfl H.e88 (by omega) ?_
      refine go 60 (by decide) ?_
      simp only [KX, KY, KZ, KW, KV, Nat.reduceAdd, Nat.reduceSub, Nat.reduceLeDiff, true_and, and_true, true_or, or_true, or_self, reduceCtorEq, if_true, if_false, not_false_eq_true, eq_self, c203, H.e80, H.e88]
      have e2 : su (ml_un (ai h 88) A B t mi) (i + 1) = su (ml_un (ai h 88) A B t mi) i + (if fl_has (ai h 88) (A + m_im i t mi) = fl_has (ai h 88) (B + i) then 0 else 1) := rfl
      split
      · rename_i z
        rw [if_pos z] at e2
        refine go 60 (by decide) ?_
        simp only [KX, KY, KZ, KW, KV, Nat.reduceAdd, Nat.reduceSub, Nat.reduceLeDiff, true_and, and_true, true_or, or_true, or_self, reduceCtorEq, if_true, if_false, not_false_eq_true, eq_self, c203, H.e80, H.e88]
        rw [e1i, ← e2]
        exact ih (i + 1) (by omega)
      · rename_i z
        rw [if_neg z] at e2
        refine go 60 (by decide) ?_
        simp only [KX, KY, KZ, KW, KV, Nat.reduceAdd, Nat.reduceSub, Nat.reduceLeDiff, true_and, and_true, true_or, or_true, or_self, reduceCtorEq, if_true, if_false, not_false_eq_true, eq_self, c203, H.e80, H.e88]
        rw [e1i, ← e2]
        exact ih (i + 1) (by omega)
  refine ma_enter (m := 203) (Or.inl (by decide)) (by show 5 ≤ mt_n 203; decide +kernel) ?_
  show At 203 Q 0 (mt_c 203) [some (.ref 80), some (.int (nI A)), some (.int (nI B)), some (.int (nI t)), some (.int mi), none, none] [] h
  refine go 60 (by decide) ?_
  simp only [KX, KY, KZ, KW, KV, Nat.reduceAdd, Nat.reduceSub, Nat.reduceLeDiff, true_and, and_true, true_or, or_true, or_self, reduceCtorEq, if_true, if_false, not_false_eq_true, eq_self, c203, H.e80, H.e88]
  exact lp 91 0 rfl
