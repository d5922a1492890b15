/-! calls on a CELL: cell, freeze -/
theorem s9v {h : ma_H} {Q : ma_Q} {q r v : Int32} (e : i_place (q, r) = v) (k : Q (some (.int v)) h) : ma_X 9 [.int q, .int r] h Q := s9p (by rw [e]; exact k)
theorem s165v {h : ma_H} {Q : ma_Q} {q r v : Int32} (e : i_cell q r = v) (k : Q (some (.int v)) h) : ma_X 165 [.int q, .int r] h Q := s165 (by rw [e]; exact k)
theorem s168v {h : ma_H} {Q : ma_Q} {q r : Int32} {c : Nat} (H : Sh h) (R : Rt h) (hc : c < 91) (e1 : q = m_q c) (e2 : r = m_r c) (k : Q (some (.int (nI c))) h) : ma_X 168 [.ref 80, .int q, .int r] h Q := by
  subst e1 e2
  exact s168c H R hc k
theorem ix91 {x : Int32} {f c : Nat} (e : x = nI f) (hf : f < 4) (hc : c < 91) : vp_in (91 * x + nI c) 910 ∧ (91 * x + nI c).toNatClampNeg = 91 * f + c := by
  subst e
  rw [show (91 : Int32) * nI f = nI (91 * f) from nI_mul 91 f, nI_add]
  exact ⟨nI_in (by omega) (by decide), nI_clamp (by omega)⟩
theorem p106 {h : ma_H} {x y z : Int32} (I : Inv h) : Pair h 106 193 [.int x, .int y, .int z] := by
  intro Q k
  rcases ccase y z with ⟨c, l_c, q_y, q_z, e_p, e_c⟩ | ⟨e_c, e_p⟩
  all_goals have w_x : (∃ f, f < 4 ∧ x = nI f ∧ ¬ x < 0 ∧ x < 4 ∧ x ≤ 3 ∧ vp_in x 4 ∧ x.toNatClampNeg = f) ∨ ((x < 0 ∨ ¬ x ≤ 3) ∧ (x < 0 ∨ ¬ x < 4)) := icasB x 3 (by decide)
  all_goals rcases w_x with ⟨f_x, l_x, q_x, a_x, b_x, c_x, v_x, t_x⟩ | ⟨o_x, p_x⟩
  · refine ma_enter (m := 106) (Or.inl (by decide)) (by show 4 ≤ mt_n 106; decide +kernel) ?_
    show At 106 Q 0 (mt_c 106) [some (.ref 0), some (.int x), some (.int y), some (.int z), none, none] [] h
    repeat' first
      | (refine go 60 (by decide) ?_; simp only [KX, KY, KZ, KW, KV, Nat.reduceAdd, Nat.reduceSub, Nat.reduceLeDiff, true_and, and_true, true_or, or_true, or_self, reduceCtorEq, if_true, if_false, not_false_eq_true, eq_self, c106, c193, ma_get, Nat.reduceEqDiff, ↓reduceIte, Int32.reduceLT, Int32.reduceLE, I.sh.e0, I.sh.e80, I.sh.e88, (I.sh.fn l_x).1, (I.sh.fn l_x).2.1, (ix91 q_x l_x l_c).2, (I.nf.eq l_x l_c).symm])
      | assumption
      | contradiction
      | (exfalso; first | exact absurd (by assumption) (p_x.resolve_left (by assumption)) | exact absurd (by assumption) (p_y.resolve_left (by assumption)) | exact absurd (by assumption) (o_x.resolve_left (by assumption)) | exact absurd (by assumption) (o_y.resolve_left (by assumption)))
      | refine ⟨(ix91 q_x l_x l_c).1, ?_⟩
      | exact absurd (by assumption) (nI_pos (show ma_cell c < 2 ^ 31 by have := (cell_lt c l_c).1; omega))
      | refine s9v e_p ?_
      | refine s165v e_c ?_
      | refine s168v I.sh I.rt l_c q_y q_z ?_
      | refine s19c (I.sh.fn l_x).1 (I.sh.fn l_x).2.1 l_c (fun _ => ?_) (fun _ => ?_)
      | refine s18c (I.sh.fn l_x).1 (I.sh.fn l_x).2.1 l_c ?_
      | refine s162y (by assumption) (by assumption) ?_
      | refine s162n (by assumption) ?_
      | refine s162n (Or.inl (by assumption)) ?_
      | refine s162n (Or.inr (by assumption)) ?_
      | refine s171y (by assumption) (by assumption) ?_
      | refine s171n (Or.inl (by assumption)) ?_
      | refine s171n (Or.inr (by assumption)) ?_
      | refine s170n (by assumption) ?_
      | refine s170y (by assumption) (by assumption) ?_
      | refine s162c (fun _ _ => ?_) (fun _ => ?_)
      | refine s171c (fun _ _ => ?_) (fun _ => ?_)
      | refine s147c (fun _ _ _ _ => ?_) (fun o_a => ?_)
      | refine s146y (by assumption) (by assumption) ?_
      | refine s146n (by assumption) ?_
      | refine s146c (fun _ _ => ?_) (fun _ => ?_)
      | refine s145 I.sh I.rr (by assumption) ?_
      | refine s145e I.sh I.rr (by assumption) (by assumption) ?_
      | refine s145n I.sh (by assumption) ?_
      | refine s148y (by assumption) (by assumption) ?_
      | refine s148n (by assumption) ?_
      | refine s149y (by assumption) (by assumption) ?_
      | refine s149n (by assumption) ?_
      | (refine k _ _ (by repeat (first | exact e80_I I | exact e80_S (by assumption) | exact e80_I (by assumption) | exact e80_n I.sh | refine e80_s (by omega) ?_)) fun Q2 k2 => ?_; refine ma_enter (m := 193) (Or.inl (by decide)) (by show 4 ≤ mt_n 193; decide +kernel) ?_; show At 193 Q2 0 (mt_c 193) [some (.ref 80), some (.int x), some (.int y), some (.int z), none] [] _)
      | exact k2 _ I
      | split
      | rfl
  · refine ma_enter (m := 106) (Or.inl (by decide)) (by show 4 ≤ mt_n 106; decide +kernel) ?_
    show At 106 Q 0 (mt_c 106) [some (.ref 0), some (.int x), some (.int y), some (.int z), none, none] [] h
    repeat' first
      | (refine go 60 (by decide) ?_; simp only [KX, KY, KZ, KW, KV, Nat.reduceAdd, Nat.reduceSub, Nat.reduceLeDiff, true_and, and_true, true_or, or_true, or_self, reduceCtorEq, if_true, if_false, not_false_eq_true, eq_self, c106, c193, ma_get, Nat.reduceEqDiff, ↓reduceIte, Int32.reduceLT, Int32.reduceLE, I.sh.e0, I.sh.e80, I.sh.e88])
      | assumption
      | contradiction
      | (exfalso; first | exact absurd (by assumption) (p_x.resolve_left (by assumption)) | exact absurd (by assumption) (p_y.resolve_left (by assumption)) | exact absurd (by assumption) (o_x.resolve_left (by assumption)) | exact absurd (by assumption) (o_y.resolve_left (by assumption)))
      | exact absurd (by assumption) (nI_pos (show ma_cell c < 2 ^ 31 by have := (cell_lt c l_c).1; omega))
      | refine s9v e_p ?_
      | refine s165v e_c ?_
      | refine s162y (by assumption) (by assumption) ?_
      | refine s162n (by assumption) ?_
      | refine s162n (Or.inl (by assumption)) ?_
      | refine s162n (Or.inr (by assumption)) ?_
      | refine s171y (by assumption) (by assumption) ?_
      | refine s171n (Or.inl (by assumption)) ?_
      | refine s171n (Or.inr (by assumption)) ?_
      | refine s170n (by assumption) ?_
      | refine s170y (by assumption) (by assumption) ?_
      | refine s162c (fun _ _ => ?_) (fun _ => ?_)
      | refine s171c (fun _ _ => ?_) (fun _ => ?_)
      | refine s147c (fun _ _ _ _ => ?_) (fun o_a => ?_)
      | refine s146y (by assumption) (by assumption) ?_
      | refine s146n (by assumption) ?_
      | refine s146c (fun _ _ => ?_) (fun _ => ?_)
      | refine s145 I.sh I.rr (by assumption) ?_
      | refine s145e I.sh I.rr (by assumption) (by assumption) ?_
      | refine s145n I.sh (by assumption) ?_
      | refine s148y (by assumption) (by assumption) ?_
      | refine s148n (by assumption) ?_
      | refine s149y (by assumption) (by assumption) ?_
      | refine s149n (by assumption) ?_
      | (refine k _ _ (by repeat (first | exact e80_I I | exact e80_S (by assumption) | exact e80_I (by assumption) | exact e80_n I.sh | refine e80_s (by omega) ?_)) fun Q2 k2 => ?_; refine ma_enter (m := 193) (Or.inl (by decide)) (by show 4 ≤ mt_n 193; decide +kernel) ?_; show At 193 Q2 0 (mt_c 193) [some (.ref 80), some (.int x), some (.int y), some (.int z), none] [] _)
      | exact k2 _ I
      | split
      | rfl
  · refine ma_enter (m := 106) (Or.inl (by decide)) (by show 4 ≤ mt_n 106; decide +kernel) ?_
    show At 106 Q 0 (mt_c 106) [some (.ref 0), some (.int x), some (.int y), some (.int z), none, none] [] h
    repeat' first
      | (refine go 60 (by decide) ?_; simp only [KX, KY, KZ, KW, KV, Nat.reduceAdd, Nat.reduceSub, Nat.reduceLeDiff, true_and, and_true, true_or, or_true, or_self, reduceCtorEq, if_true, if_false, not_false_eq_true, eq_self, c106, c193, ma_get, Nat.reduceEqDiff, ↓reduceIte, Int32.reduceLT, Int32.reduceLE, I.sh.e0, I.sh.e80, I.sh.e88])
      | assumption
      | contradiction
      | (exfalso; first | exact absurd (by assumption) (p_x.resolve_left (by assumption)) | exact absurd (by assumption) (p_y.resolve_left (by assumption)) | exact absurd (by assumption) (o_x.resolve_left (by assumption)) | exact absurd (by assumption) (o_y.resolve_left (by assumption)))
      | refine s9v e_p ?_
      | refine s165v e_c ?_
      | refine s162y (by assumption) (by assumption) ?_
      | refine s162n (by assumption) ?_
      | refine s162n (Or.inl (by assumption)) ?_
      | refine s162n (Or.inr (by assumption)) ?_
      | refine s171y (by assumption) (by assumption) ?_
      | refine s171n (Or.inl (by assumption)) ?_
      | refine s171n (Or.inr (by assumption)) ?_
      | refine s170n (by assumption) ?_
      | refine s170y (by assumption) (by assumption) ?_
      | refine s162c (fun _ _ => ?_) (fun _ => ?_)
      | refine s171c (fun _ _ => ?_) (fun _ => ?_)
      | refine s147c (fun _ _ _ _ => ?_) (fun o_a => ?_)
      | refine s146y (by assumption) (by assumption) ?_
      | refine s146n (by assumption) ?_
      | refine s146c (fun _ _ => ?_) (fun _ => ?_)
      | refine s145 I.sh I.rr (by assumption) ?_
      | refine s145e I.sh I.rr (by assumption) (by assumption) ?_
      | refine s145n I.sh (by assumption) ?_
      | refine s148y (by assumption) (by assumption) ?_
      | refine s148n (by assumption) ?_
      | refine s149y (by assumption) (by assumption) ?_
      | refine s149n (by assumption) ?_
      | (refine k _ _ (by repeat (first | exact e80_I I | exact e80_S (by assumption) | exact e80_I (by assumption) | exact e80_n I.sh | refine e80_s (by omega) ?_)) fun Q2 k2 => ?_; refine ma_enter (m := 193) (Or.inl (by decide)) (by show 4 ≤ mt_n 193; decide +kernel) ?_; show At 193 Q2 0 (mt_c 193) [some (.ref 80), some (.int x), some (.int y), some (.int z), none] [] _)
      | exact k2 _ I
      | split
      | rfl
  · refine ma_enter (m := 106) (Or.inl (by decide)) (by show 4 ≤ mt_n 106; decide +kernel) ?_
    show At 106 Q 0 (mt_c 106) [some (.ref 0), some (.int x), some (.int y), some (.int z), none, none] [] h
    repeat' first
      | (refine go 60 (by decide) ?_; simp only [KX, KY, KZ, KW, KV, Nat.reduceAdd, Nat.reduceSub, Nat.reduceLeDiff, true_and, and_true, true_or, or_true, or_self, reduceCtorEq, if_true, if_false, not_false_eq_true, eq_self, c106, c193, ma_get, Nat.reduceEqDiff, ↓reduceIte, Int32.reduceLT, Int32.reduceLE, I.sh.e0, I.sh.e80, I.sh.e88])
      | assumption
      | contradiction
      | (exfalso; first | exact absurd (by assumption) (p_x.resolve_left (by assumption)) | exact absurd (by assumption) (p_y.resolve_left (by assumption)) | exact absurd (by assumption) (o_x.resolve_left (by assumption)) | exact absurd (by assumption) (o_y.resolve_left (by assumption)))
      | refine s9v e_p ?_
      | refine s165v e_c ?_
      | refine s162y (by assumption) (by assumption) ?_
      | refine s162n (by assumption) ?_
      | refine s162n (Or.inl (by assumption)) ?_
      | refine s162n (Or.inr (by assumption)) ?_
      | refine s171y (by assumption) (by assumption) ?_
      | refine s171n (Or.inl (by assumption)) ?_
      | refine s171n (Or.inr (by assumption)) ?_
      | refine s170n (by assumption) ?_
      | refine s170y (by assumption) (by assumption) ?_
      | refine s162c (fun _ _ => ?_) (fun _ => ?_)
      | refine s171c (fun _ _ => ?_) (fun _ => ?_)
      | refine s147c (fun _ _ _ _ => ?_) (fun o_a => ?_)
      | refine s146y (by assumption) (by assumption) ?_
      | refine s146n (by assumption) ?_
      | refine s146c (fun _ _ => ?_) (fun _ => ?_)
      | refine s145 I.sh I.rr (by assumption) ?_
      | refine s145e I.sh I.rr (by assumption) (by assumption) ?_
      | refine s145n I.sh (by assumption) ?_
      | refine s148y (by assumption) (by assumption) ?_
      | refine s148n (by assumption) ?_
      | refine s149y (by assumption) (by assumption) ?_
      | refine s149n (by assumption) ?_
      | (refine k _ _ (by repeat (first | exact e80_I I | exact e80_S (by assumption) | exact e80_I (by assumption) | exact e80_n I.sh | refine e80_s (by omega) ?_)) fun Q2 k2 => ?_; refine ma_enter (m := 193) (Or.inl (by decide)) (by show 4 ≤ mt_n 193; decide +kernel) ?_; show At 193 Q2 0 (mt_c 193) [some (.ref 80), some (.int x), some (.int y), some (.int z), none] [] _)
      | exact k2 _ I
      | split
      | rfl
