/-! THE MODEL: which CELL FREEZES, on -/
theorem l214 {h : ma_H} {Q : ma_Q} {A c n a i kk : Nat} {x al : Int32} (H : Sh h) (R : Rt h) (hc : c < 91) (hn : n < 7) (ha : a < 64) (q : x = nI i) (hi : i < 6) (hk : kk < 6) (ek : ai h 90 (2 * i) = nI kk) (k : Q (some (.int (fzn kk (nI a) (m_q c) (m_r c) (nI n) al))) h) : At 214 Q 99 (0, 0) [some (.ref 80), some (.int (nI A)), some (.int (nI c)), some (.int x), some (.int (nI n)), some (.int al), some (.int (nI a)), some (.int (i_bit (nI n) (nI a))), none] [.int (i_arm (m_q c) (m_r c))] h := by
  match kk, hk with
  | 0, _ => exact l214_0 H R hc hn ha q hi ek k
  | 1, _ => exact l214_1 H R hc hn ha q hi ek k
  | 2, _ => exact l214_2 H R hc hn ha q hi ek k
  | 3, _ => exact l214_3 H R hc hn ha q hi ek k
  | 4, _ => exact l214_4 H R hc hn ha q hi ek k
  | 5, _ => exact l214_5 H R hc hn ha q hi ek k
/-- a CELL beside, in the Model -/
theorem nb_has {h : ma_H} {g : Nat → Int32} {A : Nat} (ok : fl_ok g) (e : ∀ i, i < 91 → g (ma_cell i) = ai h 88 (A + i)) {c j : Nat} (hc : c < 91) (hj : j < 6) : (m_nb c j = -1 ∧ fl_beside g c j = 0) ∨ ∃ o, o < 91 ∧ m_nb c j = nI o ∧ fl_beside g c j = fl_has (ai h 88) (A + o) := by
  rcases nb_ok c hc j hj with ⟨n1, n2⟩ | ⟨n1, n2, n3⟩
  · refine Or.inl ⟨n1, ?_⟩
    have hb := (fl_nb_ok c hc j hj).2
    have := ok.2 _ hb (fun i hi e2 => by rw [e2, cix_cell i hi] at n2; omega)
    unfold fl_beside fl_has
    rw [this]
    rfl
  · refine Or.inr ⟨_, n1, n2, ?_⟩
    unfold fl_beside fl_has
    rw [n3, e _ n1]
    rw [← n3]
theorem e214 {h : ma_H} {Q : ma_Q} {A c gi kk a : Nat} {x : Int32} {g : Nat → Int32} (H : Sh h) (R : Rt h) (hA : A + 91 ≤ 910) (hc : c < 91) (ok : fl_ok g) (eg : ∀ i, i < 91 → g (ma_cell i) = ai h 88 (A + i)) (ha : a < 64) (q : x = nI gi) (hg6 : gi < 6) (hk : kk < 6) (ek : ai h 90 (2 * gi) = nI kk) (ea : ai h 90 (2 * gi + 1) = nI a) {n : Nat} (hn : n < 7) {al : Int32} (k : Q (some (.int (fzn kk (nI a) (m_q c) (m_r c) (nI n) al))) h) : At 214 Q 13 (0, 0) [some (.ref 80), some (.int (nI A)), some (.int (nI c)), some (.int x), some (.int (nI n)), some (.int al), some (.int (nI 6)), none, none] [] h := by
  have i21 := ix2 1 12 (by decide) q (by omega)
  have tc : (nI c).toNatClampNeg = c := nI_clamp (by omega)
  have vc : vp_in (nI c) 91 := nI_in hc (by decide)
  have t0 : ai h 81 c = m_q c := (R.1 c hc).1
  have t1 : ai h 82 c = m_r c := (R.1 c hc).2.1
  refine go 60 (by decide) ?_
  simp only [KX, KY, KZ, KW, KV, Nat.reduceAdd, Nat.reduceSub, Nat.reduceLeDiff, true_and, and_true, true_or, or_true, or_self, reduceCtorEq, if_true, if_false, not_false_eq_true, eq_self, c214, H.e80, H.e90]
  rw [if_neg (show ¬ nI 6 < (6 : Int32) from nI_nlt (Nat.le_refl _) (by decide))]
  rw [show (2 * x + 1 : Int32).toNatClampNeg = 2 * gi + 1 from i21.2, ea]
  refine ⟨i21.1, ?_⟩
  refine s213 ?_
  refine go 60 (by decide) ?_
  simp only [KX, KY, KZ, KW, KV, Nat.reduceAdd, Nat.reduceSub, Nat.reduceLeDiff, true_and, and_true, true_or, or_true, or_self, reduceCtorEq, if_true, if_false, not_false_eq_true, eq_self, c214, H.e80, H.e81, H.e82, tc, t0, t1]
  refine ⟨vc, ?_⟩
  have fin := l214 (A := A) (al := al) H R hc hn ha q hg6 hk ek k
  have arm : ∀ v, i_arm (m_q c) (m_r c) = v → At 214 Q 99 (0, 0) [some (.ref 80), some (.int (nI A)), some (.int (nI c)), some (.int x), some (.int (nI n)), some (.int al), some (.int (nI a)), some (.int (i_bit (nI n) (nI a))), none] [.int v] h := fun v e => by rw [← e]; exact fin
  unfold i_arm at arm
  by_cases y1 : m_q c = 0
  · rw [if_pos y1]
    first
    | exact arm 1 (if_pos y1)
    | (refine go 60 (by decide) ?_; simp only [KX, KY, KZ, KW, KV, Nat.reduceAdd, Nat.reduceSub, Nat.reduceLeDiff, true_and, and_true, true_or, or_true, or_self, reduceCtorEq, if_true, if_false, not_false_eq_true, eq_self, c214]; exact arm 1 (if_pos y1))
  · rw [if_neg y1]
    refine ⟨vc, ?_⟩
    by_cases y2 : m_r c = 0
    · rw [if_pos y2]
      exact arm 1 (by rw [if_neg y1, if_pos y2])
    · rw [if_neg y2]
      refine ⟨vc, vc, ?_⟩
      by_cases y3 : m_q c + m_r c = 0
      · rw [if_pos y3]
        exact arm 1 (by rw [if_neg y1, if_neg y2, if_pos y3])
      · rw [if_neg y3]
        exact arm 0 (by rw [if_neg y1, if_neg y2, if_neg y3])
theorem s214 {h : ma_H} {Q : ma_Q} {A c gi kk a : Nat} {x : Int32} {g : Nat → Int32} (H : Sh h) (R : Rt h) (hA : A + 91 ≤ 910) (hc : c < 91) (ok : fl_ok g) (eg : ∀ i, i < 91 → g (ma_cell i) = ai h 88 (A + i)) (ha : a < 64) (q : x = nI gi) (hg6 : gi < 6) (hk : kk < 6) (ek : ai h 90 (2 * gi) = nI kk) (ea : ai h 90 (2 * gi + 1) = nI a) (k : Q (some (.int (fz g kk (nI a) c))) h) : ma_X 214 [.ref 80, .int (nI A), .int (nI c), .int x] h Q := by
  have d : fz g kk (nI a) c = if g (ma_cell c) < 0 then fzn kk (nI a) (m_q c) (m_r c) (su (fl_beside g c) 6) (fl_has g (fl_nb c 0) + fl_has g (fl_nb c 3)) else 0 := rfl
  obtain ⟨n, hn, en⟩ := su01 (f := fl_beside g c) (fun j => fl_01 g _) 6
  refine ma_enter (m := 214) (Or.inl (by decide)) (by show 4 ≤ mt_n 214; decide +kernel) ?_
  show At 214 Q 0 (mt_c 214) [some (.ref 80), some (.int (nI A)), some (.int (nI c)), some (.int x), none, none, none, none, none] [] h
  refine go 60 (by decide) ?_
  simp only [KX, KY, KZ, KW, KV, Nat.reduceAdd, Nat.reduceSub, Nat.reduceLeDiff, true_and, and_true, true_or, or_true, or_self, reduceCtorEq, if_true, if_false, not_false_eq_true, eq_self, c214, H.e80]
  refine s172 (A := A) H.e80 rfl H.e88 (by omega) ?_
  by_cases neg : g (ma_cell c) < 0
  · rw [show fl_has (ai h 88) (A + c) = 0 from by unfold fl_has; rw [← eg c hc, if_pos neg]]
    rw [if_pos neg, en, ← fl_ndl6] at d
    rw [d] at k
    have lp : ∀ ni i, i + ni = 6 → At 214 Q 13 (0, 0) [some (.ref 80), some (.int (nI A)), some (.int (nI c)), some (.int x), some (.int (su (fl_beside g c) i)), some (.int (su (fl_ndl g c) i)), some (.int (nI i)), none, none] [] h := by
      intro ni
      induction ni with
      | zero =>
        intro i e
        obtain rfl : i = 6 := by omega
        rw [en]
        exact e214 H R hA hc ok eg ha q hg6 hk ek ea (by omega) k
      | succ ni ih =>
        intro i e
        have hi : i < 6 := by omega
        have e1i := nI_1 i
        refine go 60 (by decide) ?_
        simp only [KX, KY, KZ, KW, KV, Nat.reduceAdd, Nat.reduceSub, Nat.reduceLeDiff, true_and, and_true, true_or, or_true, or_self, reduceCtorEq, if_true, if_false, not_false_eq_true, eq_self, c214, H.e80, H.e86, H.e88]
        rw [if_pos (show nI i < (6 : Int32) from nI_lt hi (by decide))]
        have hb := nb_has (A := A) ok eg hc hi
        rw [ix6 hc hi, nI_clamp (show 6 * c + i < 2 ^ 31 by omega), R.2.1 c hc i hi]
        refine ⟨nI_in (show 6 * c + i < 546 by omega) (by decide), ?_⟩
        have d1 : su (fl_beside g c) (i + 1) = su (fl_beside g c) i + fl_beside g c i := rfl
        have d2 : su (fl_ndl g c) (i + 1) = su (fl_ndl g c) i + (if i = 0 ∨ i = 3 then fl_beside g c i else 0) := rfl
        have z0 : fl_beside g c i = 0 → At 214 Q 39 (0, 0) [some (.ref 80), some (.int (nI A)), some (.int (nI c)), some (.int x), some (.int (su (fl_beside g c) i)), some (.int (su (fl_ndl g c) i)), some (.int (nI i)), some (.int (m_nb c i)), none] [.int 0] h := by
          intro z
          rw [z] at d1 d2
          rw [ite_self] at d2
          refine go 60 (by decide) ?_
          simp only [KX, KY, KZ, KW, KV, Nat.reduceAdd, Nat.reduceSub, Nat.reduceLeDiff, true_and, and_true, true_or, or_true, or_self, reduceCtorEq, if_true, if_false, not_false_eq_true, eq_self, c214, H.e80, H.e86, H.e88]
          refine go 60 (by decide) ?_
          simp only [KX, KY, KZ, KW, KV, Nat.reduceAdd, Nat.reduceSub, Nat.reduceLeDiff, true_and, and_true, true_or, or_true, or_self, reduceCtorEq, if_true, if_false, not_false_eq_true, eq_self, c214, H.e80, H.e86, H.e88]
          refine go 60 (by decide) ?_
          simp only [KX, KY, KZ, KW, KV, Nat.reduceAdd, Nat.reduceSub, Nat.reduceLeDiff, true_and, and_true, true_or, or_true, or_self, reduceCtorEq, if_true, if_false, not_false_eq_true, eq_self, c214, H.e80, H.e86, H.e88]
          refine go 60 (by decide) ?_
          simp only [KX, KY, KZ, KW, KV, Nat.reduceAdd, Nat.reduceSub, Nat.reduceLeDiff, true_and, and_true, true_or, or_true, or_self, reduceCtorEq, if_true, if_false, not_false_eq_true, eq_self, c214, H.e80, H.e86, H.e88]
          rw [e1i, ← d1, ← d2]
          exact At_le (ih (i + 1) (by omega)) ⟨rfl, rfl, rfl, rfl, rfl, rfl, rfl, trivial⟩
        have z1 : fl_beside g c i = 1 → At 214 Q 39 (0, 0) [some (.ref 80), some (.int (nI A)), some (.int (nI c)), some (.int x), some (.int (su (fl_beside g c) i)), some (.int (su (fl_ndl g c) i)), some (.int (nI i)), some (.int (m_nb c i)), none] [.int 1] h := by
          intro z
          rw [z] at d1 d2
          refine go 60 (by decide) ?_
          simp only [KX, KY, KZ, KW, KV, Nat.reduceAdd, Nat.reduceSub, Nat.reduceLeDiff, true_and, and_true, true_or, or_true, or_self, reduceCtorEq, if_true, if_false, not_false_eq_true, eq_self, c214, H.e80, H.e86, H.e88]
          refine go 60 (by decide) ?_
          simp only [KX, KY, KZ, KW, KV, Nat.reduceAdd, Nat.reduceSub, Nat.reduceLeDiff, true_and, and_true, true_or, or_true, or_self, reduceCtorEq, if_true, if_false, not_false_eq_true, eq_self, c214, H.e80, H.e86, H.e88]
          by_cases e3 : nI i - nI i / 3 * 3 = 0
          · rw [if_pos e3]
            rw [if_pos ((k3 i hi).mp e3)] at d2
            refine go 60 (by decide) ?_
            simp only [KX, KY, KZ, KW, KV, Nat.reduceAdd, Nat.reduceSub, Nat.reduceLeDiff, true_and, and_true, true_or, or_true, or_self, reduceCtorEq, if_true, if_false, not_false_eq_true, eq_self, c214, H.e80, H.e86, H.e88]
            rw [e1i, ← d1, ← d2]
            exact At_le (ih (i + 1) (by omega)) ⟨rfl, rfl, rfl, rfl, rfl, rfl, rfl, trivial⟩
          · rw [if_neg e3]
            rw [if_neg (fun w => e3 ((k3 i hi).mpr w))] at d2
            refine go 60 (by decide) ?_
            simp only [KX, KY, KZ, KW, KV, Nat.reduceAdd, Nat.reduceSub, Nat.reduceLeDiff, true_and, and_true, true_or, or_true, or_self, reduceCtorEq, if_true, if_false, not_false_eq_true, eq_self, c214, H.e80, H.e86, H.e88]
            refine go 60 (by decide) ?_
            simp only [KX, KY, KZ, KW, KV, Nat.reduceAdd, Nat.reduceSub, Nat.reduceLeDiff, true_and, and_true, true_or, or_true, or_self, reduceCtorEq, if_true, if_false, not_false_eq_true, eq_self, c214, H.e80, H.e86, H.e88]
            rw [e1i, ← d1, ← d2]
            exact At_le (ih (i + 1) (by omega)) ⟨rfl, rfl, rfl, rfl, rfl, rfl, rfl, trivial⟩
        rcases hb with ⟨m1, m2⟩ | ⟨o, ho, m1, m2⟩
        · rw [if_pos (show m_nb c i < 0 by rw [m1]; decide)]
          exact z0 m2
        · rw [m1] at z0 z1 ⊢
          rw [if_neg (nI_pos (by omega)), if_neg (nI_pos (by omega))]
          refine go 60 (by decide) ?_
          simp only [KX, KY, KZ, KW, KV, Nat.reduceAdd, Nat.reduceSub, Nat.reduceLeDiff, true_and, and_true, true_or, or_true, or_self, reduceCtorEq, if_true, if_false, not_false_eq_true, eq_self, c214, H.e80, H.e86, H.e88]
          refine s172 (A := A) H.e80 rfl H.e88 (by omega) ?_
          rw [← m2]
          rcases fl_01 g (fl_nb c i) with w | w
          · rw [show fl_beside g c i = 0 from w]
            refine go 60 (by decide) ?_
            simp only [KX, KY, KZ, KW, KV, Nat.reduceAdd, Nat.reduceSub, Nat.reduceLeDiff, true_and, and_true, true_or, or_true, or_self, reduceCtorEq, if_true, if_false, not_false_eq_true, eq_self, c214, H.e80, H.e86, H.e88]
            exact z0 w
          · rw [show fl_beside g c i = 1 from w]
            refine go 60 (by decide) ?_
            simp only [KX, KY, KZ, KW, KV, Nat.reduceAdd, Nat.reduceSub, Nat.reduceLeDiff, true_and, and_true, true_or, or_true, or_self, reduceCtorEq, if_true, if_false, not_false_eq_true, eq_self, c214, H.e80, H.e86, H.e88]
            exact z1 w
    refine go 60 (by decide) ?_
    simp only [KX, KY, KZ, KW, KV, Nat.reduceAdd, Nat.reduceSub, Nat.reduceLeDiff, true_and, and_true, true_or, or_true, or_self, reduceCtorEq, if_true, if_false, not_false_eq_true, eq_self, c214, H.e80, H.e86, H.e88]
    exact lp 6 0 rfl
  · rw [show fl_has (ai h 88) (A + c) = 1 from by unfold fl_has; rw [← eg c hc, if_neg neg]]
    rw [if_neg neg] at d
    rw [d] at k
    refine go 60 (by decide) ?_
    simp only [KX, KY, KZ, KW, KV, Nat.reduceAdd, Nat.reduceSub, Nat.reduceLeDiff, true_and, and_true, true_or, or_true, or_self, reduceCtorEq, if_true, if_false, not_false_eq_true, eq_self, c214, H.e80, H.e86, H.e88]
    exact k
