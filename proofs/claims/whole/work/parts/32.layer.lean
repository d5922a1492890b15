/-! calls: layer, unlike, apart -/
theorem su_since {h : ma_H} (N : Nf h) {f : Nat} (hf : f < 4) (w : Int32) : su (fl_since (ai h (37 + 3 * f)) w) 91 = su (ml_since (ai h 88) w (91 * f)) 91 := su_congr 91 fun i hi => by
  show (if ai h (37 + 3 * f) (ma_cell i) = w then (1 : Int32) else 0) = if ai h 88 (91 * f + i) = w then 1 else 0
  rw [N.eq hf hi]
theorem s201n {h : ma_H} {Q : ma_Q} {x w : Int32} {f : Nat} (H : Sh h) (N : Nf h) (hf : f < 4) (q : x = nI f) (w1 : ¬ w < 0) (w2 : w ≤ 60) (k : Q (some (.int (su (fl_since (ai h (37 + 3 * f)) w) 91))) h) : ma_X 201 [.ref 80, .int x, .int w] h Q := s201 H hf q w1 w2 (by rw [← su_since N hf]; exact k)
theorem s110 {h : ma_H} {Q : ma_Q} {x w : Int32} {f : Nat} (H : Sh h) (R : Rr h) (hf : f < 4) (q : x = nI f) (w1 : ¬ w < 0) (w2 : w ≤ 60) (k : Q (some (.int (su (fl_since (ai h (37 + 3 * f)) w) 91))) h) : ma_X 110 [.ref 0, .int x, .int w] h Q := by
  refine ma_enter (m := 110) (Or.inl (by decide)) (by show 3 ≤ mt_n 110; decide +kernel) ?_
  show At 110 Q 0 (mt_c 110) [some (.ref 0), some (.int x), some (.int w), none] [] h
  repeat' first
    | assumption
    | contradiction
    | (refine go 60 (by decide) ?_; simp only [KX, KY, KZ, KW, KV, Nat.reduceAdd, Nat.reduceSub, Nat.reduceLeDiff, true_and, and_true, true_or, or_true, or_self, reduceCtorEq, if_true, if_false, not_false_eq_true, eq_self, c110, H.e0, (H.fn hf).1])
    | refine s145e H R hf q ?_
    | refine s23 (H.fn hf).1 (H.fn hf).2.1 ?_
    | split
theorem s110n {h : ma_H} {Q : ma_Q} {x w : Int32} (H : Sh h) (R : Rr h) (o : (x < 0 ∨ ¬ x < 4) ∨ (∃ f, f < 4 ∧ x = nI f) ∧ (w < 0 ∨ ¬ w ≤ 60)) (k : Q (some (.int (-1))) h) : ma_X 110 [.ref 0, .int x, .int w] h Q := by
  rcases o with o | ⟨⟨f, hf, q⟩, o⟩
  · refine ma_enter (m := 110) (Or.inl (by decide)) (by show 3 ≤ mt_n 110; decide +kernel) ?_
    show At 110 Q 0 (mt_c 110) [some (.ref 0), some (.int x), some (.int w), none] [] h
    repeat' first
      | assumption
      | (refine go 60 (by decide) ?_; simp only [KX, KY, KZ, KW, KV, Nat.reduceAdd, Nat.reduceSub, Nat.reduceLeDiff, true_and, and_true, true_or, or_true, or_self, reduceCtorEq, if_true, if_false, not_false_eq_true, eq_self, c110, H.e0])
      | refine s145n H o ?_
      | split
  · refine ma_enter (m := 110) (Or.inl (by decide)) (by show 3 ≤ mt_n 110; decide +kernel) ?_
    show At 110 Q 0 (mt_c 110) [some (.ref 0), some (.int x), some (.int w), none] [] h
    repeat' first
      | assumption
      | (refine go 60 (by decide) ?_; simp only [KX, KY, KZ, KW, KV, Nat.reduceAdd, Nat.reduceSub, Nat.reduceLeDiff, true_and, and_true, true_or, or_true, or_self, reduceCtorEq, if_true, if_false, not_false_eq_true, eq_self, c110, H.e0])
      | refine s145e H R hf q ?_
      | (exfalso; rcases o with o | o <;> contradiction)
      | split
theorem s201b {h : ma_H} {Q : ma_Q} {x w : Int32} (o : (x < 0 ∨ ¬ x ≤ 3) ∨ (w < 0 ∨ ¬ w ≤ 60)) (k : Q (some (.int (-1))) h) : ma_X 201 [.ref 80, .int x, .int w] h Q := by
  refine ma_enter (m := 201) (Or.inl (by decide)) (by show 3 ≤ mt_n 201; decide +kernel) ?_
  show At 201 Q 0 (mt_c 201) [some (.ref 80), some (.int x), some (.int w), none, none] [] h
  refine go 60 (by decide) ?_
  simp only [KX, KY, KZ, KW, KV, Nat.reduceAdd, Nat.reduceSub, Nat.reduceLeDiff, true_and, and_true, true_or, or_true, or_self, reduceCtorEq, if_true, if_false, not_false_eq_true, eq_self, c201]
  by_cases e : i_in x 0 3 = 0
  · refine s170 ?_
    rw [e]
    refine go 60 (by decide) ?_
    simp only [KX, KY, KZ, KW, KV, Nat.reduceAdd, Nat.reduceSub, Nat.reduceLeDiff, true_and, and_true, true_or, or_true, or_self, reduceCtorEq, if_true, if_false, not_false_eq_true, eq_self, c201]
    exact k
  · refine s170 ?_
    have e1 : i_in x 0 3 = 1 := (i_in01n x 0 3).resolve_left e
    rw [e1]
    refine go 60 (by decide) ?_
    simp only [KX, KY, KZ, KW, KV, Nat.reduceAdd, Nat.reduceSub, Nat.reduceLeDiff, true_and, and_true, true_or, or_true, or_self, reduceCtorEq, if_true, if_false, not_false_eq_true, eq_self, c201]
    have ow : w < 0 ∨ ¬ w ≤ 60 := o.resolve_left (fun z => e (i_in_no z))
    refine s162n ow ?_
    refine go 60 (by decide) ?_
    simp only [KX, KY, KZ, KW, KV, Nat.reduceAdd, Nat.reduceSub, Nat.reduceLeDiff, true_and, and_true, true_or, or_true, or_self, reduceCtorEq, if_true, if_false, not_false_eq_true, eq_self, c201]
    exact k
theorem p110 {h : ma_H} {x w : Int32} (I : Inv h) : Pair h 110 201 [.int x, .int w] := by
  intro Q k
  have w_x : (∃ f, f < 4 ∧ x = nI f ∧ ¬ x < 0 ∧ x < 4 ∧ x ≤ 3 ∧ vp_in x 4 ∧ x.toNatClampNeg = f) ∨ ((x < 0 ∨ ¬ x ≤ 3) ∧ (x < 0 ∨ ¬ x < 4)) := icasB x 3 (by decide)
  rcases w_x with ⟨f_x, l_x, q_x, a_x, b_x, c_x, v_x, t_x⟩ | ⟨o_x, p_x⟩
  · rcases i_in01 w 0 60 with ⟨-, o⟩ | ⟨-, w1, w2⟩
    · exact s110n I.sh I.rr (Or.inr ⟨⟨f_x, l_x, q_x⟩, o⟩) (k _ _ (by repeat (first | exact e80_I I | exact e80_S (by assumption) | exact e80_I (by assumption) | exact e80_n I.sh | refine e80_s (by omega) ?_)) fun Q2 k2 => s201b (Or.inr o) (k2 _ I))
    · exact s110 I.sh I.rr l_x q_x w1 w2 (k _ _ (by repeat (first | exact e80_I I | exact e80_S (by assumption) | exact e80_I (by assumption) | exact e80_n I.sh | refine e80_s (by omega) ?_)) fun Q2 k2 => s201n I.sh I.nf l_x q_x w1 w2 (k2 _ I))
  · exact s110n I.sh I.rr (Or.inl p_x) (k _ _ (by repeat (first | exact e80_I I | exact e80_S (by assumption) | exact e80_I (by assumption) | exact e80_n I.sh | refine e80_s (by omega) ?_)) fun Q2 k2 => s201b (Or.inl o_x) (k2 _ I))
theorem fl_has_eq {h : ma_H} (N : Nf h) {f i : Nat} (hf : f < 4) (hi : i < 91) : fl_has (ai h (37 + 3 * f)) (ma_cell i) = fl_has (ai h 88) (91 * f + i) := by
  unfold fl_has
  rw [N.eq hf hi]
theorem fl_hasX_cell {g : Nat → Int32} {i : Nat} (hi : i < 91) : fl_hasX g (nI (ma_cell i)) = fl_has g (ma_cell i) := by
  have hc := (cell_lt i hi).1
  unfold fl_hasX
  rw [if_neg (nI_pos (by omega)), if_pos (nI_lt hc (by decide)), nI_clamp (by omega)]
  rfl
theorem im_eq {t c : Nat} {mi : Int32} (ht : t < 6) (hc : c < 91) (hm : mi = 0 ∨ mi = 1) : i_image (nI (ma_cell c)) t mi = nI (ma_cell (m_im c t mi)) := by
  rcases hm with rfl | rfl
  · exact im_eq0 t ht c hc
  · exact im_eq1 t ht c hc
theorem su_un {h : ma_H} (N : Nf h) {f f2 t : Nat} {mi : Int32} (hf : f < 4) (hf2 : f2 < 4) (ht : t < 6) (hm : mi = 0 ∨ mi = 1) : su (fl_un (ai h (37 + 3 * f)) (ai h (37 + 3 * f2)) t mi) 91 = su (ml_un (ai h 88) (91 * f) (91 * f2) t mi) 91 := su_congr 91 fun i hi => by
  unfold fl_un ml_un
  rw [im_eq ht hi hm, fl_hasX_cell (m_im_lt hi t mi), fl_has_eq N hf (m_im_lt hi t mi), fl_has_eq N hf2 hi]
theorem s203n {h : ma_H} {Q : ma_Q} {x y t mi : Int32} {f f2 : Nat} {t' : Nat} (H : Sh h) (R : Rt h) (N : Nf h) (hf : f < 4) (hf2 : f2 < 4) (q : x = nI f) (q2 : y = nI f2) (qt : t = nI t') (ht : t' < 6) (hm : mi = 0 ∨ mi = 1) (k : Q (some (.int (su (fl_un (ai h (37 + 3 * f)) (ai h (37 + 3 * f2)) t' mi) 91))) h) : ma_X 203 [.ref 80, .int (91 * x), .int (91 * y), .int t, .int mi] h Q := by
  rw [ix91n q, ix91n q2, qt]
  exact s203 H R (by omega) (by omega) ht (by rw [← su_un N hf hf2 ht hm]; exact k)
theorem s33n {h : ma_H} {Q : ma_Q} {t mi : Int32} {f f2 t' : Nat} (H : Sh h) (hf : f < 4) (hf2 : f2 < 4) (qt : t = nI t') (ht : t' < 6) (k : Q (some (.int (su (fl_un (ai h (37 + 3 * f)) (ai h (37 + 3 * f2)) t' mi) 91))) h) : ma_X 33 [.ref (36 + 3 * f), .ref (36 + 3 * f2), .int t, .int mi] h Q := by
  subst qt
  exact s33 (H.fn hf).1 (H.fn hf).2.1 (H.fn hf2).1 (H.fn hf2).2.1 (by omega) k
theorem p111_0 {h : ma_H} {x t : Int32} (I : Inv h) : Pair h 111 204 [.int x, .int t, .int 0] := by
  intro Q k
  have w_x : (∃ f, f < 4 ∧ x = nI f ∧ ¬ x < 0 ∧ x < 4 ∧ x ≤ 3 ∧ vp_in x 4 ∧ x.toNatClampNeg = f) ∨ ((x < 0 ∨ ¬ x ≤ 3) ∧ (x < 0 ∨ ¬ x < 4)) := icasB x 3 (by decide)
  rcases w_x with ⟨f_x, l_x, q_x, a_x, b_x, c_x, v_x, t_x⟩ | ⟨o_x, p_x⟩
  all_goals have w_t : (∃ f, f < 6 ∧ t = nI f ∧ ¬ t < 0 ∧ t < 6 ∧ t ≤ 5 ∧ vp_in t 6 ∧ t.toNatClampNeg = f) ∨ ((t < 0 ∨ ¬ t ≤ 5) ∧ (t < 0 ∨ ¬ t < 6)) := icasB t 5 (by decide)
  all_goals rcases w_t with ⟨f_t, l_t, q_t, a_t, b_t, c_t, v_t, t_t⟩ | ⟨o_t, p_t⟩
  · refine ma_enter (m := 111) (Or.inl (by decide)) (by show 4 ≤ mt_n 111; decide +kernel) ?_
    show At 111 Q 0 (mt_c 111) [some (.ref 0), some (.int x), some (.int t), some (.int 0), none] [] h
    repeat' first
      | (refine go 60 (by decide) ?_; simp only [KX, KY, KZ, KW, KV, Nat.reduceAdd, Nat.reduceSub, Nat.reduceLeDiff, true_and, and_true, true_or, or_true, or_self, reduceCtorEq, if_true, if_false, not_false_eq_true, eq_self, c111, c204, ma_get, Nat.reduceEqDiff, ↓reduceIte, Int32.reduceLT, Int32.reduceLE, I.sh.e0, I.sh.e80, (I.sh.fn l_x).1])
      | assumption
      | contradiction
      | (exfalso; first | exact absurd (by assumption) (p_x.resolve_left (by assumption)) | exact absurd (by assumption) (p_y.resolve_left (by assumption)) | exact absurd (by assumption) (o_x.resolve_left (by assumption)) | exact absurd (by assumption) (o_y.resolve_left (by assumption)))
      | refine s33n I.sh l_x l_x q_t l_t ?_
      | refine s203n I.sh I.rt I.nf l_x l_x q_x q_x q_t l_t (Or.inl rfl) ?_
      | refine s162y (by assumption) (by assumption) ?_
      | refine s162n (by assumption) ?_
      | refine s162n (Or.inl (by assumption)) ?_
      | refine s162n (Or.inr (by assumption)) ?_
      | refine s171y (by assumption) (by assumption) ?_
      | refine s171n (Or.inl (by assumption)) ?_
      | refine s171n (Or.inr (by assumption)) ?_
      | refine s170n (by assumption) ?_
      | refine s170y (by assumption) (by assumption) ?_
      | refine s162c (fun _ _ => ?_) (fun _ => ?_)
      | refine s171c (fun _ _ => ?_) (fun _ => ?_)
      | refine s147c (fun _ _ _ _ => ?_) (fun o_a => ?_)
      | refine s146y (by assumption) (by assumption) ?_
      | refine s146n (by assumption) ?_
      | refine s146c (fun _ _ => ?_) (fun _ => ?_)
      | refine s145 I.sh I.rr (by assumption) ?_
      | refine s145e I.sh I.rr (by assumption) (by assumption) ?_
      | refine s145n I.sh (by assumption) ?_
      | refine s148y (by assumption) (by assumption) ?_
      | refine s148n (by assumption) ?_
      | refine s149y (by assumption) (by assumption) ?_
      | refine s149n (by assumption) ?_
      | (refine k _ _ (by repeat (first | exact e80_I I | exact e80_S (by assumption) | exact e80_I (by assumption) | exact e80_n I.sh | refine e80_s (by omega) ?_)) fun Q2 k2 => ?_; refine ma_enter (m := 204) (Or.inl (by decide)) (by show 4 ≤ mt_n 204; decide +kernel) ?_; show At 204 Q2 0 (mt_c 204) [some (.ref 80), some (.int x), some (.int t), some (.int 0)] [] _)
      | exact k2 _ I
      | split
      | rfl
  · refine ma_enter (m := 111) (Or.inl (by decide)) (by show 4 ≤ mt_n 111; decide +kernel) ?_
    show At 111 Q 0 (mt_c 111) [some (.ref 0), some (.int x), some (.int t), some (.int 0), none] [] h
    repeat' first
      | (refine go 60 (by decide) ?_; simp only [KX, KY, KZ, KW, KV, Nat.reduceAdd, Nat.reduceSub, Nat.reduceLeDiff, true_and, and_true, true_or, or_true, or_self, reduceCtorEq, if_true, if_false, not_false_eq_true, eq_self, c111, c204, ma_get, Nat.reduceEqDiff, ↓reduceIte, Int32.reduceLT, Int32.reduceLE, I.sh.e0, I.sh.e80])
      | assumption
      | contradiction
      | (exfalso; first | exact absurd (by assumption) (p_x.resolve_left (by assumption)) | exact absurd (by assumption) (p_y.resolve_left (by assumption)) | exact absurd (by assumption) (o_x.resolve_left (by assumption)) | exact absurd (by assumption) (o_y.resolve_left (by assumption)))
      | refine s162y (by assumption) (by assumption) ?_
      | refine s162n (by assumption) ?_
      | refine s162n (Or.inl (by assumption)) ?_
      | refine s162n (Or.inr (by assumption)) ?_
      | refine s171y (by assumption) (by assumption) ?_
      | refine s171n (Or.inl (by assumption)) ?_
      | refine s171n (Or.inr (by assumption)) ?_
      | refine s170n (by assumption) ?_
      | refine s170y (by assumption) (by assumption) ?_
      | refine s162c (fun _ _ => ?_) (fun _ => ?_)
      | refine s171c (fun _ _ => ?_) (fun _ => ?_)
      | refine s147c (fun _ _ _ _ => ?_) (fun o_a => ?_)
      | refine s146y (by assumption) (by assumption) ?_
      | refine s146n (by assumption) ?_
      | refine s146c (fun _ _ => ?_) (fun _ => ?_)
      | refine s145 I.sh I.rr (by assumption) ?_
      | refine s145e I.sh I.rr (by assumption) (by assumption) ?_
      | refine s145n I.sh (by assumption) ?_
      | refine s148y (by assumption) (by assumption) ?_
      | refine s148n (by assumption) ?_
      | refine s149y (by assumption) (by assumption) ?_
      | refine s149n (by assumption) ?_
      | (refine k _ _ (by repeat (first | exact e80_I I | exact e80_S (by assumption) | exact e80_I (by assumption) | exact e80_n I.sh | refine e80_s (by omega) ?_)) fun Q2 k2 => ?_; refine ma_enter (m := 204) (Or.inl (by decide)) (by show 4 ≤ mt_n 204; decide +kernel) ?_; show At 204 Q2 0 (mt_c 204) [some (.ref 80), some (.int x), some (.int t), some (.int 0)] [] _)
      | exact k2 _ I
      | split
      | rfl
  · refine ma_enter (m := 111) (Or.inl (by decide)) (by show 4 ≤ mt_n 111; decide +kernel) ?_
    show At 111 Q 0 (mt_c 111) [some (.ref 0), some (.int x), some (.int t), some (.int 0), none] [] h
    repeat' first
      | (refine go 60 (by decide) ?_; simp only [KX, KY, KZ, KW, KV, Nat.reduceAdd, Nat.reduceSub, Nat.reduceLeDiff, true_and, and_true, true_or, or_true, or_self, reduceCtorEq, if_true, if_false, not_false_eq_true, eq_self, c111, c204, ma_get, Nat.reduceEqDiff, ↓reduceIte, Int32.reduceLT, Int32.reduceLE, I.sh.e0, I.sh.e80])
      | assumption
      | contradiction
      | (exfalso; first | exact absurd (by assumption) (p_x.resolve_left (by assumption)) | exact absurd (by assumption) (p_y.resolve_left (by assumption)) | exact absurd (by assumption) (o_x.resolve_left (by assumption)) | exact absurd (by assumption) (o_y.resolve_left (by assumption)))
      | refine s162y (by assumption) (by assumption) ?_
      | refine s162n (by assumption) ?_
      | refine s162n (Or.inl (by assumption)) ?_
      | refine s162n (Or.inr (by assumption)) ?_
      | refine s171y (by assumption) (by assumption) ?_
      | refine s171n (Or.inl (by assumption)) ?_
      | refine s171n (Or.inr (by assumption)) ?_
      | refine s170n (by assumption) ?_
      | refine s170y (by assumption) (by assumption) ?_
      | refine s162c (fun _ _ => ?_) (fun _ => ?_)
      | refine s171c (fun _ _ => ?_) (fun _ => ?_)
      | refine s147c (fun _ _ _ _ => ?_) (fun o_a => ?_)
      | refine s146y (by assumption) (by assumption) ?_
      | refine s146n (by assumption) ?_
      | refine s146c (fun _ _ => ?_) (fun _ => ?_)
      | refine s145 I.sh I.rr (by assumption) ?_
      | refine s145e I.sh I.rr (by assumption) (by assumption) ?_
      | refine s145n I.sh (by assumption) ?_
      | refine s148y (by assumption) (by assumption) ?_
      | refine s148n (by assumption) ?_
      | refine s149y (by assumption) (by assumption) ?_
      | refine s149n (by assumption) ?_
      | (refine k _ _ (by repeat (first | exact e80_I I | exact e80_S (by assumption) | exact e80_I (by assumption) | exact e80_n I.sh | refine e80_s (by omega) ?_)) fun Q2 k2 => ?_; refine ma_enter (m := 204) (Or.inl (by decide)) (by show 4 ≤ mt_n 204; decide +kernel) ?_; show At 204 Q2 0 (mt_c 204) [some (.ref 80), some (.int x), some (.int t), some (.int 0)] [] _)
      | exact k2 _ I
      | split
      | rfl
  · refine ma_enter (m := 111) (Or.inl (by decide)) (by show 4 ≤ mt_n 111; decide +kernel) ?_
    show At 111 Q 0 (mt_c 111) [some (.ref 0), some (.int x), some (.int t), some (.int 0), none] [] h
    repeat' first
      | (refine go 60 (by decide) ?_; simp only [KX, KY, KZ, KW, KV, Nat.reduceAdd, Nat.reduceSub, Nat.reduceLeDiff, true_and, and_true, true_or, or_true, or_self, reduceCtorEq, if_true, if_false, not_false_eq_true, eq_self, c111, c204, ma_get, Nat.reduceEqDiff, ↓reduceIte, Int32.reduceLT, Int32.reduceLE, I.sh.e0, I.sh.e80])
      | assumption
      | contradiction
      | (exfalso; first | exact absurd (by assumption) (p_x.resolve_left (by assumption)) | exact absurd (by assumption) (p_y.resolve_left (by assumption)) | exact absurd (by assumption) (o_x.resolve_left (by assumption)) | exact absurd (by assumption) (o_y.resolve_left (by assumption)))
      | refine s162y (by assumption) (by assumption) ?_
      | refine s162n (by assumption) ?_
      | refine s162n (Or.inl (by assumption)) ?_
      | refine s162n (Or.inr (by assumption)) ?_
      | refine s171y (by assumption) (by assumption) ?_
      | refine s171n (Or.inl (by assumption)) ?_
      | refine s171n (Or.inr (by assumption)) ?_
      | refine s170n (by assumption) ?_
      | refine s170y (by assumption) (by assumption) ?_
      | refine s162c (fun _ _ => ?_) (fun _ => ?_)
      | refine s171c (fun _ _ => ?_) (fun _ => ?_)
      | refine s147c (fun _ _ _ _ => ?_) (fun o_a => ?_)
      | refine s146y (by assumption) (by assumption) ?_
      | refine s146n (by assumption) ?_
      | refine s146c (fun _ _ => ?_) (fun _ => ?_)
      | refine s145 I.sh I.rr (by assumption) ?_
      | refine s145e I.sh I.rr (by assumption) (by assumption) ?_
      | refine s145n I.sh (by assumption) ?_
      | refine s148y (by assumption) (by assumption) ?_
      | refine s148n (by assumption) ?_
      | refine s149y (by assumption) (by assumption) ?_
      | refine s149n (by assumption) ?_
      | (refine k _ _ (by repeat (first | exact e80_I I | exact e80_S (by assumption) | exact e80_I (by assumption) | exact e80_n I.sh | refine e80_s (by omega) ?_)) fun Q2 k2 => ?_; refine ma_enter (m := 204) (Or.inl (by decide)) (by show 4 ≤ mt_n 204; decide +kernel) ?_; show At 204 Q2 0 (mt_c 204) [some (.ref 80), some (.int x), some (.int t), some (.int 0)] [] _)
      | exact k2 _ I
      | split
      | rfl
theorem p111_1 {h : ma_H} {x t : Int32} (I : Inv h) : Pair h 111 204 [.int x, .int t, .int 1] := by
  intro Q k
  have w_x : (∃ f, f < 4 ∧ x = nI f ∧ ¬ x < 0 ∧ x < 4 ∧ x ≤ 3 ∧ vp_in x 4 ∧ x.toNatClampNeg = f) ∨ ((x < 0 ∨ ¬ x ≤ 3) ∧ (x < 0 ∨ ¬ x < 4)) := icasB x 3 (by decide)
  rcases w_x with ⟨f_x, l_x, q_x, a_x, b_x, c_x, v_x, t_x⟩ | ⟨o_x, p_x⟩
  all_goals have w_t : (∃ f, f < 6 ∧ t = nI f ∧ ¬ t < 0 ∧ t < 6 ∧ t ≤ 5 ∧ vp_in t 6 ∧ t.toNatClampNeg = f) ∨ ((t < 0 ∨ ¬ t ≤ 5) ∧ (t < 0 ∨ ¬ t < 6)) := icasB t 5 (by decide)
  all_goals rcases w_t with ⟨f_t, l_t, q_t, a_t, b_t, c_t, v_t, t_t⟩ | ⟨o_t, p_t⟩
  · refine ma_enter (m := 111) (Or.inl (by decide)) (by show 4 ≤ mt_n 111; decide +kernel) ?_
    show At 111 Q 0 (mt_c 111) [some (.ref 0), some (.int x), some (.int t), some (.int 1), none] [] h
    repeat' first
      | (refine go 60 (by decide) ?_; simp only [KX, KY, KZ, KW, KV, Nat.reduceAdd, Nat.reduceSub, Nat.reduceLeDiff, true_and, and_true, true_or, or_true, or_self, reduceCtorEq, if_true, if_false, not_false_eq_true, eq_self, c111, c204, ma_get, Nat.reduceEqDiff, ↓reduceIte, Int32.reduceLT, Int32.reduceLE, I.sh.e0, I.sh.e80, (I.sh.fn l_x).1])
      | assumption
      | contradiction
      | (exfalso; first | exact absurd (by assumption) (p_x.resolve_left (by assumption)) | exact absurd (by assumption) (p_y.resolve_left (by assumption)) | exact absurd (by assumption) (o_x.resolve_left (by assumption)) | exact absurd (by assumption) (o_y.resolve_left (by assumption)))
      | refine s33n I.sh l_x l_x q_t l_t ?_
      | refine s203n I.sh I.rt I.nf l_x l_x q_x q_x q_t l_t (Or.inr rfl) ?_
      | refine s162y (by assumption) (by assumption) ?_
      | refine s162n (by assumption) ?_
      | refine s162n (Or.inl (by assumption)) ?_
      | refine s162n (Or.inr (by assumption)) ?_
      | refine s171y (by assumption) (by assumption) ?_
      | refine s171n (Or.inl (by assumption)) ?_
      | refine s171n (Or.inr (by assumption)) ?_
      | refine s170n (by assumption) ?_
      | refine s170y (by assumption) (by assumption) ?_
      | refine s162c (fun _ _ => ?_) (fun _ => ?_)
      | refine s171c (fun _ _ => ?_) (fun _ => ?_)
      | refine s147c (fun _ _ _ _ => ?_) (fun o_a => ?_)
      | refine s146y (by assumption) (by assumption) ?_
      | refine s146n (by assumption) ?_
      | refine s146c (fun _ _ => ?_) (fun _ => ?_)
      | refine s145 I.sh I.rr (by assumption) ?_
      | refine s145e I.sh I.rr (by assumption) (by assumption) ?_
      | refine s145n I.sh (by assumption) ?_
      | refine s148y (by assumption) (by assumption) ?_
      | refine s148n (by assumption) ?_
      | refine s149y (by assumption) (by assumption) ?_
      | refine s149n (by assumption) ?_
      | (refine k _ _ (by repeat (first | exact e80_I I | exact e80_S (by assumption) | exact e80_I (by assumption) | exact e80_n I.sh | refine e80_s (by omega) ?_)) fun Q2 k2 => ?_; refine ma_enter (m := 204) (Or.inl (by decide)) (by show 4 ≤ mt_n 204; decide +kernel) ?_; show At 204 Q2 0 (mt_c 204) [some (.ref 80), some (.int x), some (.int t), some (.int 1)] [] _)
      | exact k2 _ I
      | split
      | rfl
  · refine ma_enter (m := 111) (Or.inl (by decide)) (by show 4 ≤ mt_n 111; decide +kernel) ?_
    show At 111 Q 0 (mt_c 111) [some (.ref 0), some (.int x), some (.int t), some (.int 1), none] [] h
    repeat' first
      | (refine go 60 (by decide) ?_; simp only [KX, KY, KZ, KW, KV, Nat.reduceAdd, Nat.reduceSub, Nat.reduceLeDiff, true_and, and_true, true_or, or_true, or_self, reduceCtorEq, if_true, if_false, not_false_eq_true, eq_self, c111, c204, ma_get, Nat.reduceEqDiff, ↓reduceIte, Int32.reduceLT, Int32.reduceLE, I.sh.e0, I.sh.e80])
      | assumption
      | contradiction
      | (exfalso; first | exact absurd (by assumption) (p_x.resolve_left (by assumption)) | exact absurd (by assumption) (p_y.resolve_left (by assumption)) | exact absurd (by assumption) (o_x.resolve_left (by assumption)) | exact absurd (by assumption) (o_y.resolve_left (by assumption)))
      | refine s162y (by assumption) (by assumption) ?_
      | refine s162n (by assumption) ?_
      | refine s162n (Or.inl (by assumption)) ?_
      | refine s162n (Or.inr (by assumption)) ?_
      | refine s171y (by assumption) (by assumption) ?_
      | refine s171n (Or.inl (by assumption)) ?_
      | refine s171n (Or.inr (by assumption)) ?_
      | refine s170n (by assumption) ?_
      | refine s170y (by assumption) (by assumption) ?_
      | refine s162c (fun _ _ => ?_) (fun _ => ?_)
      | refine s171c (fun _ _ => ?_) (fun _ => ?_)
      | refine s147c (fun _ _ _ _ => ?_) (fun o_a => ?_)
      | refine s146y (by assumption) (by assumption) ?_
      | refine s146n (by assumption) ?_
      | refine s146c (fun _ _ => ?_) (fun _ => ?_)
      | refine s145 I.sh I.rr (by assumption) ?_
      | refine s145e I.sh I.rr (by assumption) (by assumption) ?_
      | refine s145n I.sh (by assumption) ?_
      | refine s148y (by assumption) (by assumption) ?_
      | refine s148n (by assumption) ?_
      | refine s149y (by assumption) (by assumption) ?_
      | refine s149n (by assumption) ?_
      | (refine k _ _ (by repeat (first | exact e80_I I | exact e80_S (by assumption) | exact e80_I (by assumption) | exact e80_n I.sh | refine e80_s (by omega) ?_)) fun Q2 k2 => ?_; refine ma_enter (m := 204) (Or.inl (by decide)) (by show 4 ≤ mt_n 204; decide +kernel) ?_; show At 204 Q2 0 (mt_c 204) [some (.ref 80), some (.int x), some (.int t), some (.int 1)] [] _)
      | exact k2 _ I
      | split
      | rfl
  · refine ma_enter (m := 111) (Or.inl (by decide)) (by show 4 ≤ mt_n 111; decide +kernel) ?_
    show At 111 Q 0 (mt_c 111) [some (.ref 0), some (.int x), some (.int t), some (.int 1), none] [] h
    repeat' first
      | (refine go 60 (by decide) ?_; simp only [KX, KY, KZ, KW, KV, Nat.reduceAdd, Nat.reduceSub, Nat.reduceLeDiff, true_and, and_true, true_or, or_true, or_self, reduceCtorEq, if_true, if_false, not_false_eq_true, eq_self, c111, c204, ma_get, Nat.reduceEqDiff, ↓reduceIte, Int32.reduceLT, Int32.reduceLE, I.sh.e0, I.sh.e80])
      | assumption
      | contradiction
      | (exfalso; first | exact absurd (by assumption) (p_x.resolve_left (by assumption)) | exact absurd (by assumption) (p_y.resolve_left (by assumption)) | exact absurd (by assumption) (o_x.resolve_left (by assumption)) | exact absurd (by assumption) (o_y.resolve_left (by assumption)))
      | refine s162y (by assumption) (by assumption) ?_
      | refine s162n (by assumption) ?_
      | refine s162n (Or.inl (by assumption)) ?_
      | refine s162n (Or.inr (by assumption)) ?_
      | refine s171y (by assumption) (by assumption) ?_
      | refine s171n (Or.inl (by assumption)) ?_
      | refine s171n (Or.inr (by assumption)) ?_
      | refine s170n (by assumption) ?_
      | refine s170y (by assumption) (by assumption) ?_
      | refine s162c (fun _ _ => ?_) (fun _ => ?_)
      | refine s171c (fun _ _ => ?_) (fun _ => ?_)
      | refine s147c (fun _ _ _ _ => ?_) (fun o_a => ?_)
      | refine s146y (by assumption) (by assumption) ?_
      | refine s146n (by assumption) ?_
      | refine s146c (fun _ _ => ?_) (fun _ => ?_)
      | refine s145 I.sh I.rr (by assumption) ?_
      | refine s145e I.sh I.rr (by assumption) (by assumption) ?_
      | refine s145n I.sh (by assumption) ?_
      | refine s148y (by assumption) (by assumption) ?_
      | refine s148n (by assumption) ?_
      | refine s149y (by assumption) (by assumption) ?_
      | refine s149n (by assumption) ?_
      | (refine k _ _ (by repeat (first | exact e80_I I | exact e80_S (by assumption) | exact e80_I (by assumption) | exact e80_n I.sh | refine e80_s (by omega) ?_)) fun Q2 k2 => ?_; refine ma_enter (m := 204) (Or.inl (by decide)) (by show 4 ≤ mt_n 204; decide +kernel) ?_; show At 204 Q2 0 (mt_c 204) [some (.ref 80), some (.int x), some (.int t), some (.int 1)] [] _)
      | exact k2 _ I
      | split
      | rfl
  · refine ma_enter (m := 111) (Or.inl (by decide)) (by show 4 ≤ mt_n 111; decide +kernel) ?_
    show At 111 Q 0 (mt_c 111) [some (.ref 0), some (.int x), some (.int t), some (.int 1), none] [] h
    repeat' first
      | (refine go 60 (by decide) ?_; simp only [KX, KY, KZ, KW, KV, Nat.reduceAdd, Nat.reduceSub, Nat.reduceLeDiff, true_and, and_true, true_or, or_true, or_self, reduceCtorEq, if_true, if_false, not_false_eq_true, eq_self, c111, c204, ma_get, Nat.reduceEqDiff, ↓reduceIte, Int32.reduceLT, Int32.reduceLE, I.sh.e0, I.sh.e80])
      | assumption
      | contradiction
      | (exfalso; first | exact absurd (by assumption) (p_x.resolve_left (by assumption)) | exact absurd (by assumption) (p_y.resolve_left (by assumption)) | exact absurd (by assumption) (o_x.resolve_left (by assumption)) | exact absurd (by assumption) (o_y.resolve_left (by assumption)))
      | refine s162y (by assumption) (by assumption) ?_
      | refine s162n (by assumption) ?_
      | refine s162n (Or.inl (by assumption)) ?_
      | refine s162n (Or.inr (by assumption)) ?_
      | refine s171y (by assumption) (by assumption) ?_
      | refine s171n (Or.inl (by assumption)) ?_
      | refine s171n (Or.inr (by assumption)) ?_
      | refine s170n (by assumption) ?_
      | refine s170y (by assumption) (by assumption) ?_
      | refine s162c (fun _ _ => ?_) (fun _ => ?_)
      | refine s171c (fun _ _ => ?_) (fun _ => ?_)
      | refine s147c (fun _ _ _ _ => ?_) (fun o_a => ?_)
      | refine s146y (by assumption) (by assumption) ?_
      | refine s146n (by assumption) ?_
      | refine s146c (fun _ _ => ?_) (fun _ => ?_)
      | refine s145 I.sh I.rr (by assumption) ?_
      | refine s145e I.sh I.rr (by assumption) (by assumption) ?_
      | refine s145n I.sh (by assumption) ?_
      | refine s148y (by assumption) (by assumption) ?_
      | refine s148n (by assumption) ?_
      | refine s149y (by assumption) (by assumption) ?_
      | refine s149n (by assumption) ?_
      | (refine k _ _ (by repeat (first | exact e80_I I | exact e80_S (by assumption) | exact e80_I (by assumption) | exact e80_n I.sh | refine e80_s (by omega) ?_)) fun Q2 k2 => ?_; refine ma_enter (m := 204) (Or.inl (by decide)) (by show 4 ≤ mt_n 204; decide +kernel) ?_; show At 204 Q2 0 (mt_c 204) [some (.ref 80), some (.int x), some (.int t), some (.int 1)] [] _)
      | exact k2 _ I
      | split
      | rfl
