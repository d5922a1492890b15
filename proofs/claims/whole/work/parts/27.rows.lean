/-! small calls: rows, the trace, many -/
theorem s150c {h : ma_H} {Q : ma_Q} {x y : Int32} (H : Sh h) (ky : ¬ x < 0 → x < fi h 0 8 → ¬ y < 0 → y ≤ 1 → Q (some (.int 1)) h) (kn : (x < 0 ∨ ¬ x < fi h 0 8 ∨ y < 0 ∨ ¬ y ≤ 1) → Q (some (.int 0)) h) : ma_X 150 [.ref 0, .int x, .int y] h Q := s150 H (by
  by_cases a : x < 0
  · rw [if_pos a]; exact kn (Or.inl a)
  · rw [if_neg a]
    by_cases b : x < fi h 0 8
    · rw [if_pos b]
      by_cases c : y < 0
      · rw [if_pos c]; exact kn (Or.inr (Or.inr (Or.inl c)))
      · rw [if_neg c]
        by_cases d : y ≤ 1
        · rw [if_pos d]; exact ky a b c d
        · rw [if_neg d]; exact kn (Or.inr (Or.inr (Or.inr d)))
    · rw [if_neg b]; exact kn (Or.inr (Or.inl b)))
theorem s150y {h : ma_H} {Q : ma_Q} {x y : Int32} (H : Sh h) {n : Nat} (e : fi h 0 8 = nI n) (a : ¬ x < 0) (b : x < nI n) (c : ¬ y < 0) (d : y ≤ 1) (k : Q (some (.int 1)) h) : ma_X 150 [.ref 0, .int x, .int y] h Q := s150 H (by rw [e, if_neg a, if_pos b, if_neg c, if_pos d]; exact k)
theorem s150n {h : ma_H} {Q : ma_Q} {x y : Int32} (H : Sh h) {n : Nat} (e : fi h 0 8 = nI n) (w : (x < 0 ∨ ¬ x < nI n) ∨ (y < 0 ∨ ¬ y ≤ 1)) (k : Q (some (.int 0)) h) : ma_X 150 [.ref 0, .int x, .int y] h Q := s150c H (fun a b c d => by rw [e] at b; rcases w with (w | w) | (w | w) <;> contradiction) (fun _ => k)
theorem s243y {h : ma_H} {Q : ma_Q} {x y : Int32} (H : Sh h) {n : Nat} (e : fi h 80 41 = nI n) (a : ¬ x < 0) (b : x ≤ nI n - 1) (c : ¬ y < 0) (d : y ≤ 1) (k : Q (some (.int 1)) h) : ma_X 243 [.ref 80, .int x, .int y] h Q := by
  refine ma_enter (m := 243) (Or.inl (by decide)) (by show 3 ≤ mt_n 243; decide +kernel) ?_
  show At 243 Q 0 (mt_c 243) [some (.ref 80), some (.int x), some (.int y)] [] h
  repeat' first
    | assumption
    | exact ⟨Or.inr rfl, k⟩
    | (refine go 60 (by decide) ?_; simp only [KX, KY, KZ, KW, KV, Nat.reduceAdd, Nat.reduceSub, Nat.reduceLeDiff, true_and, and_true, true_or, or_true, or_self, reduceCtorEq, if_true, if_false, not_false_eq_true, eq_self, c243, H.e80, e])
    | refine s162y a b ?_
    | refine s171y c d ?_
    | split
theorem s243n {h : ma_H} {Q : ma_Q} {x y : Int32} (H : Sh h) {n : Nat} (e : fi h 80 41 = nI n) (w : (x < 0 ∨ ¬ x ≤ nI n - 1) ∨ (y < 0 ∨ ¬ y ≤ 1)) (k : Q (some (.int 0)) h) : ma_X 243 [.ref 80, .int x, .int y] h Q := by
  refine ma_enter (m := 243) (Or.inl (by decide)) (by show 3 ≤ mt_n 243; decide +kernel) ?_
  show At 243 Q 0 (mt_c 243) [some (.ref 80), some (.int x), some (.int y)] [] h
  repeat' first
    | assumption
    | exact ⟨Or.inl rfl, k⟩
    | (refine go 60 (by decide) ?_; simp only [KX, KY, KZ, KW, KV, Nat.reduceAdd, Nat.reduceSub, Nat.reduceLeDiff, true_and, and_true, true_or, or_true, or_self, reduceCtorEq, if_true, if_false, not_false_eq_true, eq_self, c243, H.e80, e])
    | refine s162c (fun a b => ?_) (fun _ => ?_)
    | refine s171c (fun c d => ?_) (fun _ => ?_)
    | (exfalso; rcases w with (w | w) | (w | w) <;> contradiction)
    | split
theorem rcase (x y : Int32) (n : Nat) (hn : n < 2 ^ 30) : (∃ f j, f < n ∧ j < 2 ∧ x = nI f ∧ y = nI j ∧ ¬ x < 0 ∧ x < nI n ∧ x ≤ nI n - 1 ∧ ¬ y < 0 ∧ y ≤ 1 ∧ x.toNatClampNeg = f ∧ y.toNatClampNeg = j ∧ vp_in y 2) ∨ (((x < 0 ∨ ¬ x < nI n) ∨ (y < 0 ∨ ¬ y ≤ 1)) ∧ ((x < 0 ∨ ¬ x ≤ nI n - 1) ∨ (y < 0 ∨ ¬ y ≤ 1))) := by
  rcases icasN x n hn with ⟨f, l, q, a, b, c, t⟩ | ⟨u1, u2⟩
  · rcases icasB y 1 (by decide) with ⟨j, l2, q2, a2, b2, c2, v2, t2⟩ | ⟨u3, u4⟩
    · exact Or.inl ⟨f, j, l, l2, q, q2, a, b, c, a2, c2, t, t2, v2⟩
    · exact Or.inr ⟨Or.inr u3, Or.inr u3⟩
  · exact Or.inr ⟨Or.inl u1, Or.inl u2⟩
theorem p131 {h : ma_H} {x y : Int32} (I : Inv h) : Pair h 131 244 [.int x, .int y] := by
  intro Q k
  obtain ⟨n, n6, w1, w2, w3⟩ := I.rw
  rcases rcase x y n (by omega) with ⟨f, j, l_x, l_y, q_x, q_y, a_x, b_x, c_x, a_y, c_y, t_x, t_y, v_y⟩ | ⟨u1, u2⟩
  · refine ma_enter (m := 131) (Or.inl (by decide)) (by show 3 ≤ mt_n 131; decide +kernel) ?_
    show At 131 Q 0 (mt_c 131) [some (.ref 0), some (.int x), some (.int y)] [] h
    repeat' first
      | (refine go 60 (by decide) ?_; simp only [KX, KY, KZ, KW, KV, Nat.reduceAdd, Nat.reduceSub, Nat.reduceLeDiff, true_and, and_true, true_or, or_true, or_self, reduceCtorEq, if_true, if_false, not_false_eq_true, eq_self, c131, c244, ma_get, Nat.reduceEqDiff, ↓reduceIte, Int32.reduceLT, Int32.reduceLE, I.sh.e0, I.sh.e80, I.sh.e11, I.sh.e104, t_x, t_y, w1, w2, (I.rr.2.2.1 f (by omega)), rf_some, (I.sh.rw (show f < 6 by omega))])
      | assumption
      | contradiction
      | (exfalso; first | exact absurd (by assumption) (p_x.resolve_left (by assumption)) | exact absurd (by assumption) (p_y.resolve_left (by assumption)) | exact absurd (by assumption) (o_x.resolve_left (by assumption)) | exact absurd (by assumption) (o_y.resolve_left (by assumption)))
      | refine ⟨by subst q_x; exact nI_in (by omega) (by decide), v_y, ?_⟩
      | refine s150y I.sh w1 a_x b_x a_y c_y ?_
      | refine s243y I.sh w2 a_x c_x a_y c_y ?_
      | refine s162y (by assumption) (by assumption) ?_
      | refine s162n (by assumption) ?_
      | refine s162n (Or.inl (by assumption)) ?_
      | refine s162n (Or.inr (by assumption)) ?_
      | refine s171y (by assumption) (by assumption) ?_
      | refine s171n (Or.inl (by assumption)) ?_
      | refine s171n (Or.inr (by assumption)) ?_
      | refine s170n (by assumption) ?_
      | refine s170y (by assumption) (by assumption) ?_
      | refine s162c (fun _ _ => ?_) (fun _ => ?_)
      | refine s171c (fun _ _ => ?_) (fun _ => ?_)
      | refine s147c (fun _ _ _ _ => ?_) (fun o_a => ?_)
      | refine s146y (by assumption) (by assumption) ?_
      | refine s146n (by assumption) ?_
      | refine s146c (fun _ _ => ?_) (fun _ => ?_)
      | refine s145 I.sh I.rr (by assumption) ?_
      | refine s145e I.sh I.rr (by assumption) (by assumption) ?_
      | refine s145n I.sh (by assumption) ?_
      | refine s148y (by assumption) (by assumption) ?_
      | refine s148n (by assumption) ?_
      | refine s149y (by assumption) (by assumption) ?_
      | refine s149n (by assumption) ?_
      | (refine k _ _ (by repeat (first | exact e80_I I | exact e80_S (by assumption) | exact e80_I (by assumption) | exact e80_n I.sh | refine e80_s (by omega) ?_)) fun Q2 k2 => ?_; refine ma_enter (m := 244) (Or.inl (by decide)) (by show 3 ≤ mt_n 244; decide +kernel) ?_; show At 244 Q2 0 (mt_c 244) [some (.ref 80), some (.int x), some (.int y)] [] _)
      | (subst q_x q_y; rw [show (2 : Int32) * nI f = nI (2 * f) from nI_mul 2 f, nI_add, nI_clamp (show 2 * f + j < 2 ^ 31 by omega), ← w3 f l_x j l_y]; exact ⟨nI_in (by omega) (by decide), k2 _ I⟩)
      | split
      | rfl
  · refine ma_enter (m := 131) (Or.inl (by decide)) (by show 3 ≤ mt_n 131; decide +kernel) ?_
    show At 131 Q 0 (mt_c 131) [some (.ref 0), some (.int x), some (.int y)] [] h
    repeat' first
      | (refine go 60 (by decide) ?_; simp only [KX, KY, KZ, KW, KV, Nat.reduceAdd, Nat.reduceSub, Nat.reduceLeDiff, true_and, and_true, true_or, or_true, or_self, reduceCtorEq, if_true, if_false, not_false_eq_true, eq_self, c131, c244, ma_get, Nat.reduceEqDiff, ↓reduceIte, Int32.reduceLT, Int32.reduceLE, I.sh.e0, I.sh.e80, I.sh.e11, I.sh.e104])
      | assumption
      | contradiction
      | (exfalso; first | exact absurd (by assumption) (p_x.resolve_left (by assumption)) | exact absurd (by assumption) (p_y.resolve_left (by assumption)) | exact absurd (by assumption) (o_x.resolve_left (by assumption)) | exact absurd (by assumption) (o_y.resolve_left (by assumption)))
      | refine s150n I.sh w1 u1 ?_
      | refine s243n I.sh w2 u2 ?_
      | refine s162y (by assumption) (by assumption) ?_
      | refine s162n (by assumption) ?_
      | refine s162n (Or.inl (by assumption)) ?_
      | refine s162n (Or.inr (by assumption)) ?_
      | refine s171y (by assumption) (by assumption) ?_
      | refine s171n (Or.inl (by assumption)) ?_
      | refine s171n (Or.inr (by assumption)) ?_
      | refine s170n (by assumption) ?_
      | refine s170y (by assumption) (by assumption) ?_
      | refine s162c (fun _ _ => ?_) (fun _ => ?_)
      | refine s171c (fun _ _ => ?_) (fun _ => ?_)
      | refine s147c (fun _ _ _ _ => ?_) (fun o_a => ?_)
      | refine s146y (by assumption) (by assumption) ?_
      | refine s146n (by assumption) ?_
      | refine s146c (fun _ _ => ?_) (fun _ => ?_)
      | refine s145 I.sh I.rr (by assumption) ?_
      | refine s145e I.sh I.rr (by assumption) (by assumption) ?_
      | refine s145n I.sh (by assumption) ?_
      | refine s148y (by assumption) (by assumption) ?_
      | refine s148n (by assumption) ?_
      | refine s149y (by assumption) (by assumption) ?_
      | refine s149n (by assumption) ?_
      | (refine k _ _ (by repeat (first | exact e80_I I | exact e80_S (by assumption) | exact e80_I (by assumption) | exact e80_n I.sh | refine e80_s (by omega) ?_)) fun Q2 k2 => ?_; refine ma_enter (m := 244) (Or.inl (by decide)) (by show 3 ≤ mt_n 244; decide +kernel) ?_; show At 244 Q2 0 (mt_c 244) [some (.ref 80), some (.int x), some (.int y)] [] _)
      | exact k2 _ I
      | split
      | rfl
theorem nf_w {f : Nat} (hf : f < 6) (g : Nat → Int32) : (.inl (.int, 2, .inl g) : ma_C) = nf (sd (12 + f)) (.inl (.int, 2, .inl g)) := by
  match f, hf with
  | 0, _ => rfl
  | 1, _ => rfl
  | 2, _ => rfl
  | 3, _ => rfl
  | 4, _ => rfl
  | 5, _ => rfl
theorem Rw_upd {h : ma_H} {n f j : Nat} (n6 : n ≤ 6) (w1 : fi h 0 8 = nI n) (w2 : fi h 80 41 = nI n) (w3 : ∀ i, i < n → ∀ j, j < 2 → ai h (12 + i) j = ai h 104 (2 * i + j)) (hf : f < n) (hj : j < 2) (v : Int32) : Rw (ma_set (ma_set h (12 + f) (.inl (.int, 2, .inl (upd (ai h (12 + f)) j v)))) 104 (.inl (.int, 12, .inl (upd (ai h 104) (2 * f + j) v)))) := by
  refine ⟨n, n6, ?_, ?_, fun i hi j' hj' => ?_⟩
  · simp (disch := omega) only [fi_ne]
    exact w1
  · simp (disch := omega) only [fi_ne]
    exact w2
  · rw [ai_at, ai_ne _ _ (by omega)]
    unfold upd
    by_cases e : i = f
    · subst e
      rw [ai_at]
      by_cases e2 : j' = j
      · subst e2
        rw [if_pos rfl, if_pos rfl]
      · rw [if_neg e2, if_neg (by omega)]
        exact w3 i hi j' hj'
    · rw [ai_ne _ _ (by omega), if_neg (by omega)]
      exact w3 i hi j' hj'
theorem p132 {h : ma_H} {x y z : Int32} (I : Inv h) : Pair h 132 245 [.int x, .int y, .int z] := by
  intro Q k
  obtain ⟨n, n6, w1, w2, w3⟩ := I.rw
  rcases rcase x y n (by omega) with ⟨f, j, l_x, l_y, q_x, q_y, a_x, b_x, c_x, a_y, c_y, t_x, t_y, v_y⟩ | ⟨u1, u2⟩
  · refine ma_enter (m := 132) (Or.inl (by decide)) (by show 4 ≤ mt_n 132; decide +kernel) ?_
    show At 132 Q 0 (mt_c 132) [some (.ref 0), some (.int x), some (.int y), some (.int z), none] [] h
    repeat' first
      | (refine go 60 (by decide) ?_; simp only [KX, KY, KZ, KW, KV, Nat.reduceAdd, Nat.reduceSub, Nat.reduceLeDiff, true_and, and_true, true_or, or_true, or_self, reduceCtorEq, if_true, if_false, not_false_eq_true, eq_self, c132, c245, Int32.reduceLT, Int32.reduceLE, I.sh.e0, I.sh.e80, I.sh.e11, I.sh.e104, t_x, t_y, w1, w2, (I.rr.2.2.1 f (by omega)), rf_some, (I.sh.rw (show f < 6 by omega)), show ∀ c, (ma_set h (12 + f) c).2.1 80 = h.2.1 80 from fun c => ma_set_ne h c (by omega), show ∀ c, (ma_set h (12 + f) c).2.1 104 = h.2.1 104 from fun c => ma_set_ne h c (by omega)])
      | assumption
      | contradiction
      | (exfalso; first | exact absurd (by assumption) (p_x.resolve_left (by assumption)) | exact absurd (by assumption) (p_y.resolve_left (by assumption)) | exact absurd (by assumption) (o_x.resolve_left (by assumption)) | exact absurd (by assumption) (o_y.resolve_left (by assumption)))
      | refine ⟨by subst q_x; exact nI_in (by omega) (by decide), v_y, v_y, ?_⟩
      | refine ⟨by subst q_x; exact nI_in (by omega) (by decide), v_y, by subst q_x; exact nI_in (by omega) (by decide), v_y, ?_⟩
      | refine s150y I.sh w1 a_x b_x a_y c_y ?_
      | refine s243y (sh_set I.sh (nf_w (by omega) _)) (by rw [fi_ne _ _ _ (by omega)]; exact w2) a_x c_x a_y c_y ?_
      | refine s162y (by assumption) (by assumption) ?_
      | refine s162n (by assumption) ?_
      | refine s162n (Or.inl (by assumption)) ?_
      | refine s162n (Or.inr (by assumption)) ?_
      | refine s171y (by assumption) (by assumption) ?_
      | refine s171n (Or.inl (by assumption)) ?_
      | refine s171n (Or.inr (by assumption)) ?_
      | refine s170n (by assumption) ?_
      | refine s170y (by assumption) (by assumption) ?_
      | refine s162c (fun _ _ => ?_) (fun _ => ?_)
      | refine s171c (fun _ _ => ?_) (fun _ => ?_)
      | refine s147c (fun _ _ _ _ => ?_) (fun o_a => ?_)
      | refine s146y (by assumption) (by assumption) ?_
      | refine s146n (by assumption) ?_
      | refine s146c (fun _ _ => ?_) (fun _ => ?_)
      | refine s145 I.sh I.rr (by assumption) ?_
      | refine s145e I.sh I.rr (by assumption) (by assumption) ?_
      | refine s145n I.sh (by assumption) ?_
      | refine s148y (by assumption) (by assumption) ?_
      | refine s148n (by assumption) ?_
      | refine s149y (by assumption) (by assumption) ?_
      | refine s149n (by assumption) ?_
      | (refine k _ _ (by repeat (first | exact e80_I I | exact e80_S (by assumption) | exact e80_I (by assumption) | exact e80_n I.sh | refine e80_s (by omega) ?_)) fun Q2 k2 => ?_; refine ma_enter (m := 245) (Or.inl (by decide)) (by show 4 ≤ mt_n 245; decide +kernel) ?_; show At 245 Q2 0 (mt_c 245) [some (.ref 80), some (.int x), some (.int y), some (.int z), none] [] _)
      | (subst q_x q_y; rw [show (2 : Int32) * nI f = nI (2 * f) from nI_mul 2 f, nI_add]; simp (disch := omega) only [ai_ne, nI_clamp]; rw [← w3 f l_x j l_y]; exact ⟨nI_in (by omega) (by decide), nI_in (by omega) (by decide), k2 _ ⟨(sh_set (sh_set I.sh (nf_w (by omega) _)) rfl), (I.rr.cong (fun a ha => by simp (disch := omega) only [ma_set_ne])), (I.rt.cong (fun a ha => by simp (disch := omega) only [ma_set_ne])), ⟨(I.nf.cong (fun a ha => by simp (disch := omega) only [ma_set_ne])), (I.ng.cong (Nat.le_refl _) (fun a ha => by simp (disch := omega) only [ma_set_ne])), (I.nm.cong (fun a ha => by simp (disch := omega) only [ma_set_ne])), (I.na.cong (fun a ha => by simp (disch := omega) only [ma_set_ne])), (I.nl.cong (fun a ha => by simp (disch := omega) only [ma_set_ne]))⟩, (I.rk.cong (Nat.le_refl _) (fun a ha => by simp (disch := omega) only [ma_set_ne])), (I.rp.cong (fun a ha => by simp (disch := omega) only [ma_set_ne])), (Rw_upd n6 w1 w2 w3 l_x l_y z), (I.rs.cong (fun a ha => by simp (disch := omega) only [ma_set_ne])), (I.rv.cong (fun a ha => by simp (disch := omega) only [ma_set_ne])), (I.ra.cong (fun a ha => by simp (disch := omega) only [ma_set_ne])), (I.rc.cong (fun a ha => by simp (disch := omega) only [ma_set_ne]))⟩⟩)
      | split
      | rfl
  · refine ma_enter (m := 132) (Or.inl (by decide)) (by show 4 ≤ mt_n 132; decide +kernel) ?_
    show At 132 Q 0 (mt_c 132) [some (.ref 0), some (.int x), some (.int y), some (.int z), none] [] h
    repeat' first
      | (refine go 60 (by decide) ?_; simp only [KX, KY, KZ, KW, KV, Nat.reduceAdd, Nat.reduceSub, Nat.reduceLeDiff, true_and, and_true, true_or, or_true, or_self, reduceCtorEq, if_true, if_false, not_false_eq_true, eq_self, c132, c245, Int32.reduceLT, Int32.reduceLE, I.sh.e0, I.sh.e80, I.sh.e11, I.sh.e104])
      | assumption
      | contradiction
      | (exfalso; first | exact absurd (by assumption) (p_x.resolve_left (by assumption)) | exact absurd (by assumption) (p_y.resolve_left (by assumption)) | exact absurd (by assumption) (o_x.resolve_left (by assumption)) | exact absurd (by assumption) (o_y.resolve_left (by assumption)))
      | refine s150n I.sh w1 u1 ?_
      | refine s243n I.sh w2 u2 ?_
      | refine s162y (by assumption) (by assumption) ?_
      | refine s162n (by assumption) ?_
      | refine s162n (Or.inl (by assumption)) ?_
      | refine s162n (Or.inr (by assumption)) ?_
      | refine s171y (by assumption) (by assumption) ?_
      | refine s171n (Or.inl (by assumption)) ?_
      | refine s171n (Or.inr (by assumption)) ?_
      | refine s170n (by assumption) ?_
      | refine s170y (by assumption) (by assumption) ?_
      | refine s162c (fun _ _ => ?_) (fun _ => ?_)
      | refine s171c (fun _ _ => ?_) (fun _ => ?_)
      | refine s147c (fun _ _ _ _ => ?_) (fun o_a => ?_)
      | refine s146y (by assumption) (by assumption) ?_
      | refine s146n (by assumption) ?_
      | refine s146c (fun _ _ => ?_) (fun _ => ?_)
      | refine s145 I.sh I.rr (by assumption) ?_
      | refine s145e I.sh I.rr (by assumption) (by assumption) ?_
      | refine s145n I.sh (by assumption) ?_
      | refine s148y (by assumption) (by assumption) ?_
      | refine s148n (by assumption) ?_
      | refine s149y (by assumption) (by assumption) ?_
      | refine s149n (by assumption) ?_
      | (refine k _ _ (by repeat (first | exact e80_I I | exact e80_S (by assumption) | exact e80_I (by assumption) | exact e80_n I.sh | refine e80_s (by omega) ?_)) fun Q2 k2 => ?_; refine ma_enter (m := 245) (Or.inl (by decide)) (by show 4 ≤ mt_n 245; decide +kernel) ?_; show At 245 Q2 0 (mt_c 245) [some (.ref 80), some (.int x), some (.int y), some (.int z), none] [] _)
      | exact k2 _ I
      | split
      | rfl
