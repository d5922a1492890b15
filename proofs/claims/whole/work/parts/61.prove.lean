/-! THE ROWS: prove, the class -/
/-- how many of the first i rings have ICE; which, and how much -/
def cnt (K : Nat → Int32) : Nat → Nat
  | 0 => 0
  | i + 1 => if K i ≤ 0 then cnt K i else cnt K i + 1
def rr (K : Nat → Int32) : Nat → Nat → Int32
  | 0 => fun _ => 0
  | i + 1 => if K i ≤ 0 then rr K i else upd (rr K i) (cnt K i) (nI i)
def rk (K : Nat → Int32) : Nat → Nat → Int32
  | 0 => fun _ => 0
  | i + 1 => if K i ≤ 0 then rk K i else upd (rk K i) (cnt K i) (K i)
theorem cnt_le (K : Nat → Int32) : ∀ i, cnt K i ≤ i
  | 0 => Nat.le_refl _
  | i + 1 => by
    have := cnt_le K i
    show (if K i ≤ 0 then cnt K i else cnt K i + 1) ≤ i + 1
    split <;> omega
def PC (h : ma_H) (K : Nat → Int32) (i : Nat) (h1 : ma_H) : Prop := Sh h1 ∧ h1.1 = h.1 ∧ (∀ a, a ≠ 0 → ¬ (12 ≤ a ∧ a ≤ 17) → h1.2.1 a = h.2.1 a) ∧ h1.2.1 0 = .inr (11, [.ref 34, .ref 57, .int (fi h 0 2), .ref 1, .int (fi h 0 4), .ref 2, .ref 7, .ref 11, .int (nI (cnt K i)), .ref 18, .ref 23, .ref 24, .ref 25, .ref 26, .ref 27, .ref 29, .ref 30, .ref 31]) ∧ ∀ j, j < cnt K i → ai h1 (12 + j) 0 = rr K i j ∧ ai h1 (12 + j) 1 = rk K i j
theorem PC.skip {h h1 : ma_H} {K : Nat → Int32} {i : Nat} (P : PC h K i h1) (z : K i ≤ 0) : PC h K (i + 1) h1 := by
  have a : cnt K (i + 1) = cnt K i := if_pos z
  have b : rr K (i + 1) = rr K i := if_pos z
  have c : rk K (i + 1) = rk K i := if_pos z
  unfold PC
  rw [a, b, c]
  exact P
theorem PC.step {h h1 : ma_H} {K : Nat → Int32} {i : Nat} (P : PC h K i h1) (z : ¬ K i ≤ 0) (hi : i < 6) : PC h K (i + 1) (ma_set (ma_set h1 (12 + cnt K i) (.inl (.int, 2, .inl (upd (upd (ai h1 (12 + cnt K i)) 0 (nI i)) 1 (K i))))) 0 (.inr (11, [.ref 34, .ref 57, .int (fi h 0 2), .ref 1, .int (fi h 0 4), .ref 2, .ref 7, .ref 11, .int (nI (cnt K i + 1)), .ref 18, .ref 23, .ref 24, .ref 25, .ref 26, .ref 27, .ref 29, .ref 30, .ref 31]))) := by
  obtain ⟨P1, P2, P3, P4, P5⟩ := P
  have hc := cnt_le K i
  have a : cnt K (i + 1) = cnt K i + 1 := if_neg z
  have b : rr K (i + 1) = upd (rr K i) (cnt K i) (nI i) := if_neg z
  have c : rk K (i + 1) = upd (rk K i) (cnt K i) (K i) := if_neg z
  refine ⟨sh_set (sh_set P1 (nf_w (by omega) _)) rfl, P2, fun q q1 q2 => ?_, ?_, fun j hj => ?_⟩
  · rw [ma_set_ne _ _ q1, ma_set_ne _ _ (by omega)]
    exact P3 q q1 q2
  · rw [ma_set_at, a]
  · rw [b, c, ai_ne _ _ (by omega)]
    by_cases e : j = cnt K i
    · subst e
      rw [ai_at]
      exact ⟨(upd_ne _ _ (by decide)).trans ((upd_at _ _ _).trans (upd_at _ _ _).symm), (upd_at _ _ _).trans (upd_at _ _ _).symm⟩
    · rw [ai_ne _ _ (by omega), upd_ne _ _ e, upd_ne _ _ e]
      exact P5 j (by omega)
theorem s130 {h : ma_H} {Q : ma_Q} {x : Int32} {f : Nat} {K : Nat → Int32} (H : Sh h) (R : Rr h) (l : f < 4) (q : x = nI f) (hK : ∀ i, i < 6 → su (fl_ringIce (ai h (37 + 3 * f)) (nI i)) 91 = K i) (k : ∀ h1, PC h K 6 h1 → Q (some (.int (nI (cnt K 6)))) h1) : ma_X 130 [.ref 0, .int x] h Q := by
  have lp : ∀ n i h1, i + n = 6 → PC h K i h1 → At 130 Q 13 (0, 0) [some (.ref 0), some (.int x), some (.ref (36 + 3 * f)), some (.int (nI i)), none] [] h1 := by
    intro n
    induction n with
    | zero =>
      intro i h1 e P
      obtain rfl : i = 6 := by omega
      have P4 := P.2.2.2.1
      refine go 60 (by decide) ?_
      simp only [KX, KY, KZ, KW, KV, Nat.reduceAdd, Nat.reduceSub, Nat.reduceLeDiff, true_and, and_true, true_or, or_true, or_self, reduceCtorEq, if_true, if_false, not_false_eq_true, eq_self, c130, P4]
      rw [if_neg (show ¬ nI 6 < (6 : Int32) from nI_nlt (Nat.le_refl _) (by decide))]
      exact k h1 P
    | succ n ih =>
      intro i h1 e P
      have hi : i < 6 := by omega
      obtain ⟨P1, P2, P3, P4, P5⟩ := id P
      have hc := cnt_le K i
      have ef := (P3 (36 + 3 * f) (by omega) (by omega)).trans (H.fn l).1
      have es := (P3 (37 + 3 * f) (by omega) (by omega)).trans (H.fn l).2.1
      have tc : (nI (cnt K i)).toNatClampNeg = cnt K i := nI_clamp (by omega)
      have er : ar h1 11 (cnt K i) = some (12 + cnt K i) := by
        show arC (h1.2.1 11) _ = _
        rw [P3 11 (by decide) (by decide)]
        exact R.2.2.1 _ (by omega)
      have e12 := P1.rw (show cnt K i < 6 by omega)
      have c0 : ∀ c, (ma_set h1 (12 + cnt K i) c).2.1 0 = h1.2.1 0 := fun c => ma_set_ne _ _ (by omega)
      have c11 : ∀ c, (ma_set h1 (12 + cnt K i) c).2.1 11 = h1.2.1 11 := fun c => ma_set_ne _ _ (by omega)
      have step := fun z => ih (i + 1) _ (by omega) (P.step z hi)
      refine go 60 (by decide) ?_
      simp only [KX, KY, KZ, KW, KV, Nat.reduceAdd, Nat.reduceSub, Nat.reduceLeDiff, true_and, and_true, true_or, or_true, or_self, reduceCtorEq, if_true, if_false, not_false_eq_true, eq_self, c130, P4, ef]
      rw [if_pos (show nI i < (6 : Int32) from nI_lt hi (by decide))]
      refine s24 ef es ?_
      rw [hK i hi]
      refine go 60 (by decide) ?_
      simp only [KX, KY, KZ, KW, KV, Nat.reduceAdd, Nat.reduceSub, Nat.reduceLeDiff, true_and, and_true, true_or, or_true, or_self, reduceCtorEq, if_true, if_false, not_false_eq_true, eq_self, c130, P4, P1.e11, tc, er, rf_some, e12, c0, c11, ma_set_at, ma_set_set, List.set_cons_succ, List.set_cons_zero]
      by_cases z : K i ≤ 0
      · rw [if_pos z, nI_1]
        exact At_le (ih (i + 1) h1 (by omega) (P.skip z)) ⟨rfl, rfl, rfl, rfl, trivial⟩
      · rw [if_neg z, if_pos (nI_lt (show cnt K i < 6 by omega) (by decide))]
        rw [nI_1, nI_1]
        refine ⟨nI_in (by omega) (by decide), nI_in (c := 0) (by decide) (by decide), nI_in (by omega) (by decide), nI_in (c := 1) (by decide) (by decide), by simp only [List.length_cons, List.length_nil]; omega, trivial, ?_⟩
        exact At_le (step z) ⟨rfl, rfl, rfl, rfl, trivial⟩
  refine ma_enter (m := 130) (Or.inl (by decide)) (by show 2 ≤ mt_n 130; decide +kernel) ?_
  show At 130 Q 0 (mt_c 130) [some (.ref 0), some (.int x), none, none, none] [] h
  refine go 60 (by decide) ?_
  simp only [KX, KY, KZ, KW, KV, Nat.reduceAdd, Nat.reduceSub, Nat.reduceLeDiff, true_and, and_true, true_or, or_true, or_self, reduceCtorEq, if_true, if_false, not_false_eq_true, eq_self, c130, H.e0]
  refine s145e H R l q ?_
  refine go 60 (by decide) ?_
  simp only [KX, KY, KZ, KW, KV, Nat.reduceAdd, Nat.reduceSub, Nat.reduceLeDiff, true_and, and_true, true_or, or_true, or_self, reduceCtorEq, if_true, if_false, not_false_eq_true, eq_self, c130, H.e0, List.set_cons_succ, List.set_cons_zero]
  refine ⟨by simp only [List.length_cons, List.length_nil]; omega, trivial, ?_⟩
  refine lp 6 0 _ rfl ⟨sh_set H rfl, rfl, fun a a1 a2 => ma_set_ne _ _ a1, ma_set_at _ _ _, fun j hj => absurd hj (Nat.not_lt_zero j)⟩
/-- as much ICE in a ring -/
def ml_ringIce (g : Nat → Int32) (w : Int32) (A i : Nat) : Int32 := if fl_ring i = w then fl_has g (A + i) else 0
def PM (h : ma_H) (K : Nat → Int32) (i : Nat) (h1 : ma_H) : Prop := Sh h1 ∧ h1.1 = h.1 ∧ (∀ a, a ≠ 80 → a ≠ 105 → h1.2.1 a = h.2.1 a) ∧ h1.2.1 80 = .inr (12, [.ref 81, .ref 82, .ref 83, .ref 84, .ref 85, .ref 86, .ref 87, .ref 88, .ref 89, .int (fi h 80 9), .ref 90, .int (fi h 80 11), .int (fi h 80 12), .ref 91, .int (fi h 80 14), .ref 92, .ref 93, .ref 94, .int (fi h 80 18), .int (fi h 80 19), .int (fi h 80 20), .int (fi h 80 21), .long (fj h 80 22), .int (fi h 80 23), .int (fi h 80 24), .ref 95, .ref 96, .ref 97, .int (fi h 80 28), .int (fi h 80 29), .int (fi h 80 30), .ref 98, .ref 99, .ref 100, .ref 101, .long (fj h 80 35), .long (fj h 80 36), .ref 102, .ref 103, .ref 104, .ref 105, .int (fi h 80 41), .int (nI (cnt K i)), .ref 106, .ref 107, .ref 108, .ref 109, .ref 110, .ref 111, .int (fi h 80 49), .int (fi h 80 50), .int (fi h 80 51), .ref 112, .int (fi h 80 53), .int (fi h 80 54), .int (fi h 80 55), .ref 113, .int (fi h 80 57), .ref 114]) ∧ ∀ j, j < cnt K i → ai h1 105 (2 * j) = rr K i j ∧ ai h1 105 (2 * j + 1) = rk K i j
theorem PM.skip {h h1 : ma_H} {K : Nat → Int32} {i : Nat} (P : PM h K i h1) (z : K i ≤ 0) : PM h K (i + 1) h1 := by
  have a : cnt K (i + 1) = cnt K i := if_pos z
  have b : rr K (i + 1) = rr K i := if_pos z
  have c : rk K (i + 1) = rk K i := if_pos z
  unfold PM
  rw [a, b, c]
  exact P
theorem PM.step {h h1 : ma_H} {K : Nat → Int32} {i : Nat} (P : PM h K i h1) (z : ¬ K i ≤ 0) : PM h K (i + 1) (ma_set (ma_set h1 105 (.inl (.int, 12, .inl (upd (upd (ai h1 105) (2 * cnt K i) (nI i)) (2 * cnt K i + 1) (K i))))) 80 (.inr (12, [.ref 81, .ref 82, .ref 83, .ref 84, .ref 85, .ref 86, .ref 87, .ref 88, .ref 89, .int (fi h 80 9), .ref 90, .int (fi h 80 11), .int (fi h 80 12), .ref 91, .int (fi h 80 14), .ref 92, .ref 93, .ref 94, .int (fi h 80 18), .int (fi h 80 19), .int (fi h 80 20), .int (fi h 80 21), .long (fj h 80 22), .int (fi h 80 23), .int (fi h 80 24), .ref 95, .ref 96, .ref 97, .int (fi h 80 28), .int (fi h 80 29), .int (fi h 80 30), .ref 98, .ref 99, .ref 100, .ref 101, .long (fj h 80 35), .long (fj h 80 36), .ref 102, .ref 103, .ref 104, .ref 105, .int (fi h 80 41), .int (nI (cnt K i + 1)), .ref 106, .ref 107, .ref 108, .ref 109, .ref 110, .ref 111, .int (fi h 80 49), .int (fi h 80 50), .int (fi h 80 51), .ref 112, .int (fi h 80 53), .int (fi h 80 54), .int (fi h 80 55), .ref 113, .int (fi h 80 57), .ref 114]))) := by
  obtain ⟨P1, P2, P3, P4, P5⟩ := P
  have a : cnt K (i + 1) = cnt K i + 1 := if_neg z
  have b : rr K (i + 1) = upd (rr K i) (cnt K i) (nI i) := if_neg z
  have c : rk K (i + 1) = upd (rk K i) (cnt K i) (K i) := if_neg z
  refine ⟨sh_set (sh_set P1 rfl) rfl, P2, fun q q1 q2 => ?_, ?_, fun j hj => ?_⟩
  · rw [ma_set_ne _ _ q1, ma_set_ne _ _ q2]
    exact P3 q q1 q2
  · rw [ma_set_at, a]
  · rw [b, c, ai_ne _ _ (by decide), ai_at]
    by_cases e : j = cnt K i
    · subst e
      exact ⟨(upd_ne _ _ (by omega)).trans ((upd_at _ _ _).trans (upd_at _ _ _).symm), (upd_at _ _ _).trans (upd_at _ _ _).symm⟩
    · rw [upd_ne _ _ e, upd_ne _ _ e, upd_ne _ _ (by omega), upd_ne _ _ (by omega), upd_ne _ _ (by omega), upd_ne _ _ (by omega)]
      exact P5 j (by omega)
theorem l241 {h h1 : ma_H} {Q : ma_Q} {x : Int32} {f r : Nat} {K : Nat → Int32} (H : Sh h) (R : Rt h) (l : f < 4) (q : x = nI f) (P : PM h K r h1) (hr : r < 6) (hK : su (ml_ringIce (ai h 88) (nI r) (91 * f)) 91 = K r) (k : ∀ h2, PM h K (r + 1) h2 → At 241 Q 5 (0, 0) [some (.ref 80), some (.int x), some (.int (nI (r + 1))), none, none] [] h2) : At 241 Q 5 (0, 0) [some (.ref 80), some (.int x), some (.int (nI r)), none, none] [] h1 := by
  obtain ⟨P1, P2, P3, P4, P5⟩ := id P
  have hc := cnt_le K r
  have e83 := (P3 83 (by decide) (by decide)).trans H.e83
  have e88 := (P3 88 (by decide) (by decide)).trans H.e88
  have i1 := ix1 12 (by decide) (show nI (cnt K r) = nI (cnt K r) from rfl) (by omega)
  have i2 := ix2 1 12 (by decide) (show nI (cnt K r) = nI (cnt K r) from rfl) (by omega)
  have c80 : ∀ c, (ma_set h1 105 c).2.1 80 = h1.2.1 80 := fun c => ma_set_ne _ _ (by decide)
  have lq : ∀ ni i, i + ni = 91 → At 241 Q 12 (0, 0) [some (.ref 80), some (.int x), some (.int (nI r)), some (.int (su (ml_ringIce (ai h 88) (nI r) (91 * f)) i)), some (.int (nI i))] [] h1 := by
    intro ni
    induction ni with
    | zero =>
      intro i e
      obtain rfl : i = 91 := by omega
      refine go 60 (by decide) ?_
      simp only [KX, KY, KZ, KW, KV, Nat.reduceAdd, Nat.reduceSub, Nat.reduceLeDiff, true_and, and_true, true_or, or_true, or_self, reduceCtorEq, if_true, if_false, not_false_eq_true, eq_self, c241, P4, e83, e88, P1.e105, c80, ma_set_at, ma_set_set, List.set_cons_succ, List.set_cons_zero]
      rw [if_neg (show ¬ nI 91 < (91 : Int32) from nI_nlt (Nat.le_refl _) (by decide))]
      rw [hK]
      by_cases z : K r ≤ 0
      · rw [if_pos z, nI_1]
        exact At_le (k h1 (P.skip z)) ⟨rfl, rfl, rfl, trivial⟩
      · rw [if_neg z, nI_1, nI_1]
        rw [show (2 * nI (cnt K r) + 1 : Int32).toNatClampNeg = 2 * cnt K r + 1 from i2.2, i1.2]
        refine ⟨i1.1, i2.1, by simp only [List.length_cons, List.length_nil]; omega, trivial, ?_⟩
        exact At_le (k _ (P.step z)) ⟨rfl, rfl, rfl, trivial⟩
    | succ ni ih =>
      intro i e
      have hi : i < 91 := by omega
      have e1i := nI_1 i
      refine go 60 (by decide) ?_
      simp only [KX, KY, KZ, KW, KV, Nat.reduceAdd, Nat.reduceSub, Nat.reduceLeDiff, true_and, and_true, true_or, or_true, or_self, reduceCtorEq, if_true, if_false, not_false_eq_true, eq_self, c241, P4, e83, e88, P1.e105, c80, ma_set_at, ma_set_set, List.set_cons_succ, List.set_cons_zero]
      rw [if_pos (show nI i < (91 : Int32) from nI_lt hi (by decide))]
      rw [nI_clamp (show i < 2 ^ 31 by omega), (R.1 i hi).2.2.1]
      refine ⟨nI_in hi (by decide), ?_⟩
      have d1 : su (ml_ringIce (ai h 88) (nI r) (91 * f)) (i + 1) = su (ml_ringIce (ai h 88) (nI r) (91 * f)) i + (if fl_ring i = nI r then fl_has (ai h 88) (91 * f + i) else 0) := rfl
      by_cases z : fl_ring i = nI r
      · rw [if_pos z] at d1 ⊢
        rw [ix91n q]
        refine s172 (A := 91 * f) P4 rfl e88 (by omega) ?_
        rcases fl_01 (ai h 88) (91 * f + i) with w | w
        · rw [w] at d1 ⊢
          refine go 60 (by decide) ?_
          simp only [KX, KY, KZ, KW, KV, Nat.reduceAdd, Nat.reduceSub, Nat.reduceLeDiff, true_and, and_true, true_or, or_true, or_self, reduceCtorEq, if_true, if_false, not_false_eq_true, eq_self, c241, P4, e83, e88, P1.e105, c80, ma_set_at, ma_set_set, List.set_cons_succ, List.set_cons_zero]
          refine go 60 (by decide) ?_
          simp only [KX, KY, KZ, KW, KV, Nat.reduceAdd, Nat.reduceSub, Nat.reduceLeDiff, true_and, and_true, true_or, or_true, or_self, reduceCtorEq, if_true, if_false, not_false_eq_true, eq_self, c241, P4, e83, e88, P1.e105, c80, ma_set_at, ma_set_set, List.set_cons_succ, List.set_cons_zero]
          refine go 60 (by decide) ?_
          simp only [KX, KY, KZ, KW, KV, Nat.reduceAdd, Nat.reduceSub, Nat.reduceLeDiff, true_and, and_true, true_or, or_true, or_self, reduceCtorEq, if_true, if_false, not_false_eq_true, eq_self, c241, P4, e83, e88, P1.e105, c80, ma_set_at, ma_set_set, List.set_cons_succ, List.set_cons_zero]
          rw [e1i, ← d1]
          exact ih (i + 1) (by omega)
        · rw [w] at d1 ⊢
          refine go 60 (by decide) ?_
          simp only [KX, KY, KZ, KW, KV, Nat.reduceAdd, Nat.reduceSub, Nat.reduceLeDiff, true_and, and_true, true_or, or_true, or_self, reduceCtorEq, if_true, if_false, not_false_eq_true, eq_self, c241, P4, e83, e88, P1.e105, c80, ma_set_at, ma_set_set, List.set_cons_succ, List.set_cons_zero]
          refine go 60 (by decide) ?_
          simp only [KX, KY, KZ, KW, KV, Nat.reduceAdd, Nat.reduceSub, Nat.reduceLeDiff, true_and, and_true, true_or, or_true, or_self, reduceCtorEq, if_true, if_false, not_false_eq_true, eq_self, c241, P4, e83, e88, P1.e105, c80, ma_set_at, ma_set_set, List.set_cons_succ, List.set_cons_zero]
          rw [e1i, ← d1]
          exact ih (i + 1) (by omega)
      · rw [if_neg z] at d1 ⊢
        refine go 60 (by decide) ?_
        simp only [KX, KY, KZ, KW, KV, Nat.reduceAdd, Nat.reduceSub, Nat.reduceLeDiff, true_and, and_true, true_or, or_true, or_self, reduceCtorEq, if_true, if_false, not_false_eq_true, eq_self, c241, P4, e83, e88, P1.e105, c80, ma_set_at, ma_set_set, List.set_cons_succ, List.set_cons_zero]
        refine go 60 (by decide) ?_
        simp only [KX, KY, KZ, KW, KV, Nat.reduceAdd, Nat.reduceSub, Nat.reduceLeDiff, true_and, and_true, true_or, or_true, or_self, reduceCtorEq, if_true, if_false, not_false_eq_true, eq_self, c241, P4, e83, e88, P1.e105, c80, ma_set_at, ma_set_set, List.set_cons_succ, List.set_cons_zero]
        rw [e1i, ← d1]
        exact ih (i + 1) (by omega)
  refine go 60 (by decide) ?_
  simp only [KX, KY, KZ, KW, KV, Nat.reduceAdd, Nat.reduceSub, Nat.reduceLeDiff, true_and, and_true, true_or, or_true, or_self, reduceCtorEq, if_true, if_false, not_false_eq_true, eq_self, c241, P4]
  rw [if_pos (show nI r ≤ (5 : Int32) from nI_le (a := r) (b := 5) (by omega) (by decide))]
  exact lq 91 0 rfl
theorem s241 {h : ma_H} {Q : ma_Q} {x : Int32} {f : Nat} {K : Nat → Int32} (H : Sh h) (R : Rt h) (l : f < 4) (q : x = nI f) (hK : ∀ i, i < 6 → su (ml_ringIce (ai h 88) (nI i) (91 * f)) 91 = K i) (k : ∀ h1, PM h K 6 h1 → Q none h1) : ma_X 241 [.ref 80, .int x] h Q := by
  have lp : ∀ n r h1, r + n = 6 → PM h K r h1 → At 241 Q 5 (0, 0) [some (.ref 80), some (.int x), some (.int (nI r)), none, none] [] h1 := by
    intro n
    induction n with
    | zero =>
      intro r h1 e P
      obtain rfl : r = 6 := by omega
      refine go 60 (by decide) ?_
      simp only [KX, KY, KZ, KW, KV, Nat.reduceAdd, Nat.reduceSub, Nat.reduceLeDiff, true_and, and_true, true_or, or_true, or_self, reduceCtorEq, if_true, if_false, not_false_eq_true, eq_self, c241, P.2.2.2.1]
      rw [if_neg (show ¬ nI 6 ≤ (5 : Int32) from nI_ge (a := 5) (by decide) (by decide))]
      exact k h1 P
    | succ n ih =>
      intro r h1 e P
      exact l241 H R l q P (by omega) (hK r (by omega)) (fun h2 P2 => ih (r + 1) h2 (by omega) P2)
  refine ma_enter (m := 241) (Or.inl (by decide)) (by show 2 ≤ mt_n 241; decide +kernel) ?_
  show At 241 Q 0 (mt_c 241) [some (.ref 80), some (.int x), none, none, none] [] h
  refine go 60 (by decide) ?_
  simp only [KX, KY, KZ, KW, KV, Nat.reduceAdd, Nat.reduceSub, Nat.reduceLeDiff, true_and, and_true, true_or, or_true, or_self, reduceCtorEq, if_true, if_false, not_false_eq_true, eq_self, c241, H.e80, List.set_cons_succ, List.set_cons_zero]
  refine ⟨by simp only [List.length_cons, List.length_nil]; omega, trivial, ?_⟩
  refine lp 6 0 _ rfl ⟨sh_set H rfl, rfl, fun a a1 a2 => ma_set_ne _ _ a1, ma_set_at _ _ _, fun j hj => absurd hj (Nat.not_lt_zero j)⟩
