/-! calls on a CELL: freeze -/
theorem fl_upd_ok {g : Nat → Int32} (ok : fl_ok g) {c : Nat} (hc : c < 91) {v : Int32} (hv : v ≠ -2) : fl_ok (upd g (ma_cell c) v) := by
  refine ⟨fun i hi => ?_, fun q hq w => ?_⟩
  · unfold upd
    split
    · exact hv
    · exact ok.1 i hi
  · unfold upd
    rw [if_neg (w c hc)]
    exact ok.2 q hq w
theorem ne2 {v : Int32} (h : v = -1 ∨ ¬ v < 0) : v ≠ -2 := by
  rintro rfl
  rcases h with h | h
  · exact absurd h (by decide)
  · exact h (by decide)
theorem Nf.mf {h : ma_H} (N : Nf h) {f : Nat} (hf : f < 4) : ∃ n, n ≤ 60 ∧ fi h (36 + 3 * f) 0 = nI n ∧ ai h 89 f = nI n := by
  obtain ⟨n, n6, e⟩ := N.n hf
  exact ⟨n, n6, (N.m hf).trans e, e⟩
/-- one CELL of both set -/
theorem Inv.one {h : ma_H} (I : Inv h) {f c : Nat} (hf : f < 4) (hc : c < 91) {v : Int32} (hv : v = -1 ∨ ¬ v < 0) : Inv (ma_set (ma_set h (37 + 3 * f) (.inl (.int, 169, .inl (upd (ai h (37 + 3 * f)) (ma_cell c) v)))) 88 (.inl (.int, 910, .inl (upd (ai h 88) (91 * f + c) v)))) := by
  refine I.flk hf (sh_set (sh_set I.sh (nf_s hf _)) rfl) rfl (fun a a1 a2 a3 a4 => ?_) ?_ (fun i hi => ?_) (fun i hi => ?_) (fun j hj w => ?_) ?_ (fun j hj w => ?_) <;> (try simp (disch := omega) only [ai_ne, ai_at, fi_ne])
  · unfold exf at a4
    rw [ma_set_ne _ _ (by omega), ma_set_ne _ _ (by omega)]
  · exact fl_upd_ok (I.nf.ok hf) hc (ne2 hv)
  · unfold upd
    by_cases e : i = c
    · subst e
      rw [if_pos rfl, if_pos rfl]
    · rw [if_neg (fun x => e (cell_inj i hi c hc x)), if_neg (by omega)]
      exact I.nf.eq hf hi
  · unfold upd
    split
    · exact hv
    · exact I.nf.b hf hi
  · unfold upd
    rw [if_neg (w c hc)]
  · exact I.nf.mf hf
theorem p107_0 {h : ma_H} {x y z : Int32} (I : Inv h) : Pair h 107 194 [.int x, .int y, .int z, .int 0] := by
  intro Q k
  rcases ccase y z with ⟨c, l_c, q_y, q_z, e_p, e_c⟩ | ⟨e_c, e_p⟩
  all_goals have w_x : (∃ f, f < 4 ∧ x = nI f ∧ ¬ x < 0 ∧ x < 4 ∧ x ≤ 3 ∧ vp_in x 4 ∧ x.toNatClampNeg = f) ∨ ((x < 0 ∨ ¬ x ≤ 3) ∧ (x < 0 ∨ ¬ x < 4)) := icasB x 3 (by decide)
  all_goals rcases w_x with ⟨f_x, l_x, q_x, a_x, b_x, c_x, v_x, t_x⟩ | ⟨o_x, p_x⟩
  · refine ma_enter (m := 107) (Or.inl (by decide)) (by show 5 ≤ mt_n 107; decide +kernel) ?_
    show At 107 Q 0 (mt_c 107) [some (.ref 0), some (.int x), some (.int y), some (.int z), some (.int 0), none, none] [] h
    repeat' first
      | (refine go 60 (by decide) ?_; simp only [KX, KY, KZ, KW, KV, Nat.reduceAdd, Nat.reduceSub, Nat.reduceLeDiff, true_and, and_true, true_or, or_true, or_self, reduceCtorEq, if_true, if_false, not_false_eq_true, eq_self, c107, c194, Int32.reduceLT, Int32.reduceLE, I.sh.e0, I.sh.e80, I.sh.e88, I.sh.e89, (I.sh.fn l_x).1, (I.sh.fn l_x).2.1, (ix91 q_x l_x l_c).2, (I.nf.eq l_x l_c).symm, t_x, (I.nf.m l_x), ma_set_at, (show ∀ q, (ma_set h (37 + 3 * f_x) q).2.1 80 = h.2.1 80 from fun q => ma_set_ne h q (by omega)), (show ∀ q, (ma_set h (37 + 3 * f_x) q).2.1 88 = h.2.1 88 from fun q => ma_set_ne h q (by omega)), (show ∀ q, (ma_set h (37 + 3 * f_x) q).2.1 89 = h.2.1 89 from fun q => ma_set_ne h q (by omega))])
      | assumption
      | contradiction
      | (exfalso; first | exact absurd (by assumption) (p_x.resolve_left (by assumption)) | exact absurd (by assumption) (p_y.resolve_left (by assumption)) | exact absurd (by assumption) (o_x.resolve_left (by assumption)) | exact absurd (by assumption) (o_y.resolve_left (by assumption)))
      | exact absurd (by assumption) (nI_pos (show ma_cell c < 2 ^ 31 by have := (cell_lt c l_c).1; omega))
      | refine ⟨(ix91 q_x l_x l_c).1, ?_⟩
      | refine ⟨v_x, ?_⟩
      | refine s9v e_p ?_
      | refine s165v e_c ?_
      | refine s168v I.sh I.rt l_c q_y q_z ?_
      | refine s19c (I.sh.fn l_x).1 (I.sh.fn l_x).2.1 l_c (fun _ => ?_) (fun _ => ?_)
      | refine s18c (I.sh.fn l_x).1 (I.sh.fn l_x).2.1 l_c ?_
      | refine s17c (I.sh.fn l_x).1 (I.sh.fn l_x).2.1 l_c ((I.nf.ok l_x).1 c l_c) ?_
      | refine s168v (sh_set I.sh (nf_s l_x _)) (I.rt.cong (fun a ha => by simp (disch := omega) only [ma_set_ne])) l_c q_y q_z ?_
      | refine s162y (by assumption) (by assumption) ?_
      | refine s162n (by assumption) ?_
      | refine s162n (Or.inl (by assumption)) ?_
      | refine s162n (Or.inr (by assumption)) ?_
      | refine s171y (by assumption) (by assumption) ?_
      | refine s171n (Or.inl (by assumption)) ?_
      | refine s171n (Or.inr (by assumption)) ?_
      | refine s170n (by assumption) ?_
      | refine s170y (by assumption) (by assumption) ?_
      | refine s162c (fun _ _ => ?_) (fun _ => ?_)
      | refine s171c (fun _ _ => ?_) (fun _ => ?_)
      | refine s147c (fun _ _ _ _ => ?_) (fun o_a => ?_)
      | refine s146y (by assumption) (by assumption) ?_
      | refine s146n (by assumption) ?_
      | refine s146c (fun _ _ => ?_) (fun _ => ?_)
      | refine s145 I.sh I.rr (by assumption) ?_
      | refine s145e I.sh I.rr (by assumption) (by assumption) ?_
      | refine s145n I.sh (by assumption) ?_
      | refine s148y (by assumption) (by assumption) ?_
      | refine s148n (by assumption) ?_
      | refine s149y (by assumption) (by assumption) ?_
      | refine s149n (by assumption) ?_
      | (refine k _ _ (by repeat (first | exact e80_I I | exact e80_S (by assumption) | exact e80_I (by assumption) | exact e80_n I.sh | refine e80_s (by omega) ?_)) fun Q2 k2 => ?_; refine ma_enter (m := 194) (Or.inl (by decide)) (by show 5 ≤ mt_n 194; decide +kernel) ?_; show At 194 Q2 0 (mt_c 194) [some (.ref 80), some (.int x), some (.int y), some (.int z), some (.int 0), none] [] _)
      | exact k2 _ (I.one l_x l_c (Or.inl rfl))
      | exact k2 _ I
      | split
      | rfl
  · refine ma_enter (m := 107) (Or.inl (by decide)) (by show 5 ≤ mt_n 107; decide +kernel) ?_
    show At 107 Q 0 (mt_c 107) [some (.ref 0), some (.int x), some (.int y), some (.int z), some (.int 0), none, none] [] h
    repeat' first
      | (refine go 60 (by decide) ?_; simp only [KX, KY, KZ, KW, KV, Nat.reduceAdd, Nat.reduceSub, Nat.reduceLeDiff, true_and, and_true, true_or, or_true, or_self, reduceCtorEq, if_true, if_false, not_false_eq_true, eq_self, c107, c194, Int32.reduceLT, Int32.reduceLE, I.sh.e0, I.sh.e80, I.sh.e88, I.sh.e89])
      | assumption
      | contradiction
      | (exfalso; first | exact absurd (by assumption) (p_x.resolve_left (by assumption)) | exact absurd (by assumption) (p_y.resolve_left (by assumption)) | exact absurd (by assumption) (o_x.resolve_left (by assumption)) | exact absurd (by assumption) (o_y.resolve_left (by assumption)))
      | exact absurd (by assumption) (nI_pos (show ma_cell c < 2 ^ 31 by have := (cell_lt c l_c).1; omega))
      | refine s9v e_p ?_
      | refine s165v e_c ?_
      | refine s162y (by assumption) (by assumption) ?_
      | refine s162n (by assumption) ?_
      | refine s162n (Or.inl (by assumption)) ?_
      | refine s162n (Or.inr (by assumption)) ?_
      | refine s171y (by assumption) (by assumption) ?_
      | refine s171n (Or.inl (by assumption)) ?_
      | refine s171n (Or.inr (by assumption)) ?_
      | refine s170n (by assumption) ?_
      | refine s170y (by assumption) (by assumption) ?_
      | refine s162c (fun _ _ => ?_) (fun _ => ?_)
      | refine s171c (fun _ _ => ?_) (fun _ => ?_)
      | refine s147c (fun _ _ _ _ => ?_) (fun o_a => ?_)
      | refine s146y (by assumption) (by assumption) ?_
      | refine s146n (by assumption) ?_
      | refine s146c (fun _ _ => ?_) (fun _ => ?_)
      | refine s145 I.sh I.rr (by assumption) ?_
      | refine s145e I.sh I.rr (by assumption) (by assumption) ?_
      | refine s145n I.sh (by assumption) ?_
      | refine s148y (by assumption) (by assumption) ?_
      | refine s148n (by assumption) ?_
      | refine s149y (by assumption) (by assumption) ?_
      | refine s149n (by assumption) ?_
      | (refine k _ _ (by repeat (first | exact e80_I I | exact e80_S (by assumption) | exact e80_I (by assumption) | exact e80_n I.sh | refine e80_s (by omega) ?_)) fun Q2 k2 => ?_; refine ma_enter (m := 194) (Or.inl (by decide)) (by show 5 ≤ mt_n 194; decide +kernel) ?_; show At 194 Q2 0 (mt_c 194) [some (.ref 80), some (.int x), some (.int y), some (.int z), some (.int 0), none] [] _)
      | exact k2 _ I
      | split
      | rfl
  · refine ma_enter (m := 107) (Or.inl (by decide)) (by show 5 ≤ mt_n 107; decide +kernel) ?_
    show At 107 Q 0 (mt_c 107) [some (.ref 0), some (.int x), some (.int y), some (.int z), some (.int 0), none, none] [] h
    repeat' first
      | (refine go 60 (by decide) ?_; simp only [KX, KY, KZ, KW, KV, Nat.reduceAdd, Nat.reduceSub, Nat.reduceLeDiff, true_and, and_true, true_or, or_true, or_self, reduceCtorEq, if_true, if_false, not_false_eq_true, eq_self, c107, c194, Int32.reduceLT, Int32.reduceLE, I.sh.e0, I.sh.e80, I.sh.e88, I.sh.e89])
      | assumption
      | contradiction
      | (exfalso; first | exact absurd (by assumption) (p_x.resolve_left (by assumption)) | exact absurd (by assumption) (p_y.resolve_left (by assumption)) | exact absurd (by assumption) (o_x.resolve_left (by assumption)) | exact absurd (by assumption) (o_y.resolve_left (by assumption)))
      | refine s9v e_p ?_
      | refine s165v e_c ?_
      | refine s162y (by assumption) (by assumption) ?_
      | refine s162n (by assumption) ?_
      | refine s162n (Or.inl (by assumption)) ?_
      | refine s162n (Or.inr (by assumption)) ?_
      | refine s171y (by assumption) (by assumption) ?_
      | refine s171n (Or.inl (by assumption)) ?_
      | refine s171n (Or.inr (by assumption)) ?_
      | refine s170n (by assumption) ?_
      | refine s170y (by assumption) (by assumption) ?_
      | refine s162c (fun _ _ => ?_) (fun _ => ?_)
      | refine s171c (fun _ _ => ?_) (fun _ => ?_)
      | refine s147c (fun _ _ _ _ => ?_) (fun o_a => ?_)
      | refine s146y (by assumption) (by assumption) ?_
      | refine s146n (by assumption) ?_
      | refine s146c (fun _ _ => ?_) (fun _ => ?_)
      | refine s145 I.sh I.rr (by assumption) ?_
      | refine s145e I.sh I.rr (by assumption) (by assumption) ?_
      | refine s145n I.sh (by assumption) ?_
      | refine s148y (by assumption) (by assumption) ?_
      | refine s148n (by assumption) ?_
      | refine s149y (by assumption) (by assumption) ?_
      | refine s149n (by assumption) ?_
      | (refine k _ _ (by repeat (first | exact e80_I I | exact e80_S (by assumption) | exact e80_I (by assumption) | exact e80_n I.sh | refine e80_s (by omega) ?_)) fun Q2 k2 => ?_; refine ma_enter (m := 194) (Or.inl (by decide)) (by show 5 ≤ mt_n 194; decide +kernel) ?_; show At 194 Q2 0 (mt_c 194) [some (.ref 80), some (.int x), some (.int y), some (.int z), some (.int 0), none] [] _)
      | exact k2 _ I
      | split
      | rfl
  · refine ma_enter (m := 107) (Or.inl (by decide)) (by show 5 ≤ mt_n 107; decide +kernel) ?_
    show At 107 Q 0 (mt_c 107) [some (.ref 0), some (.int x), some (.int y), some (.int z), some (.int 0), none, none] [] h
    repeat' first
      | (refine go 60 (by decide) ?_; simp only [KX, KY, KZ, KW, KV, Nat.reduceAdd, Nat.reduceSub, Nat.reduceLeDiff, true_and, and_true, true_or, or_true, or_self, reduceCtorEq, if_true, if_false, not_false_eq_true, eq_self, c107, c194, Int32.reduceLT, Int32.reduceLE, I.sh.e0, I.sh.e80, I.sh.e88, I.sh.e89])
      | assumption
      | contradiction
      | (exfalso; first | exact absurd (by assumption) (p_x.resolve_left (by assumption)) | exact absurd (by assumption) (p_y.resolve_left (by assumption)) | exact absurd (by assumption) (o_x.resolve_left (by assumption)) | exact absurd (by assumption) (o_y.resolve_left (by assumption)))
      | refine s9v e_p ?_
      | refine s165v e_c ?_
      | refine s162y (by assumption) (by assumption) ?_
      | refine s162n (by assumption) ?_
      | refine s162n (Or.inl (by assumption)) ?_
      | refine s162n (Or.inr (by assumption)) ?_
      | refine s171y (by assumption) (by assumption) ?_
      | refine s171n (Or.inl (by assumption)) ?_
      | refine s171n (Or.inr (by assumption)) ?_
      | refine s170n (by assumption) ?_
      | refine s170y (by assumption) (by assumption) ?_
      | refine s162c (fun _ _ => ?_) (fun _ => ?_)
      | refine s171c (fun _ _ => ?_) (fun _ => ?_)
      | refine s147c (fun _ _ _ _ => ?_) (fun o_a => ?_)
      | refine s146y (by assumption) (by assumption) ?_
      | refine s146n (by assumption) ?_
      | refine s146c (fun _ _ => ?_) (fun _ => ?_)
      | refine s145 I.sh I.rr (by assumption) ?_
      | refine s145e I.sh I.rr (by assumption) (by assumption) ?_
      | refine s145n I.sh (by assumption) ?_
      | refine s148y (by assumption) (by assumption) ?_
      | refine s148n (by assumption) ?_
      | refine s149y (by assumption) (by assumption) ?_
      | refine s149n (by assumption) ?_
      | (refine k _ _ (by repeat (first | exact e80_I I | exact e80_S (by assumption) | exact e80_I (by assumption) | exact e80_n I.sh | refine e80_s (by omega) ?_)) fun Q2 k2 => ?_; refine ma_enter (m := 194) (Or.inl (by decide)) (by show 5 ≤ mt_n 194; decide +kernel) ?_; show At 194 Q2 0 (mt_c 194) [some (.ref 80), some (.int x), some (.int y), some (.int z), some (.int 0), none] [] _)
      | exact k2 _ I
      | split
      | rfl
theorem p107_1 {h : ma_H} {x y z : Int32} (I : Inv h) : Pair h 107 194 [.int x, .int y, .int z, .int 1] := by
  intro Q k
  rcases ccase y z with ⟨c, l_c, q_y, q_z, e_p, e_c⟩ | ⟨e_c, e_p⟩
  all_goals have w_x : (∃ f, f < 4 ∧ x = nI f ∧ ¬ x < 0 ∧ x < 4 ∧ x ≤ 3 ∧ vp_in x 4 ∧ x.toNatClampNeg = f) ∨ ((x < 0 ∨ ¬ x ≤ 3) ∧ (x < 0 ∨ ¬ x < 4)) := icasB x 3 (by decide)
  all_goals rcases w_x with ⟨f_x, l_x, q_x, a_x, b_x, c_x, v_x, t_x⟩ | ⟨o_x, p_x⟩
  · refine ma_enter (m := 107) (Or.inl (by decide)) (by show 5 ≤ mt_n 107; decide +kernel) ?_
    show At 107 Q 0 (mt_c 107) [some (.ref 0), some (.int x), some (.int y), some (.int z), some (.int 1), none, none] [] h
    repeat' first
      | (refine go 60 (by decide) ?_; simp only [KX, KY, KZ, KW, KV, Nat.reduceAdd, Nat.reduceSub, Nat.reduceLeDiff, true_and, and_true, true_or, or_true, or_self, reduceCtorEq, if_true, if_false, not_false_eq_true, eq_self, c107, c194, Int32.reduceLT, Int32.reduceLE, I.sh.e0, I.sh.e80, I.sh.e88, I.sh.e89, (I.sh.fn l_x).1, (I.sh.fn l_x).2.1, (ix91 q_x l_x l_c).2, (I.nf.eq l_x l_c).symm, t_x, (I.nf.m l_x), ma_set_at, (show ∀ q, (ma_set h (37 + 3 * f_x) q).2.1 80 = h.2.1 80 from fun q => ma_set_ne h q (by omega)), (show ∀ q, (ma_set h (37 + 3 * f_x) q).2.1 88 = h.2.1 88 from fun q => ma_set_ne h q (by omega)), (show ∀ q, (ma_set h (37 + 3 * f_x) q).2.1 89 = h.2.1 89 from fun q => ma_set_ne h q (by omega))])
      | assumption
      | contradiction
      | (exfalso; first | exact absurd (by assumption) (p_x.resolve_left (by assumption)) | exact absurd (by assumption) (p_y.resolve_left (by assumption)) | exact absurd (by assumption) (o_x.resolve_left (by assumption)) | exact absurd (by assumption) (o_y.resolve_left (by assumption)))
      | exact absurd (by assumption) (nI_pos (show ma_cell c < 2 ^ 31 by have := (cell_lt c l_c).1; omega))
      | refine ⟨(ix91 q_x l_x l_c).1, ?_⟩
      | refine ⟨v_x, ?_⟩
      | refine s9v e_p ?_
      | refine s165v e_c ?_
      | refine s168v I.sh I.rt l_c q_y q_z ?_
      | refine s19c (I.sh.fn l_x).1 (I.sh.fn l_x).2.1 l_c (fun _ => ?_) (fun _ => ?_)
      | refine s18c (I.sh.fn l_x).1 (I.sh.fn l_x).2.1 l_c ?_
      | refine s17c (I.sh.fn l_x).1 (I.sh.fn l_x).2.1 l_c ((I.nf.ok l_x).1 c l_c) ?_
      | refine s168v (sh_set I.sh (nf_s l_x _)) (I.rt.cong (fun a ha => by simp (disch := omega) only [ma_set_ne])) l_c q_y q_z ?_
      | refine s162y (by assumption) (by assumption) ?_
      | refine s162n (by assumption) ?_
      | refine s162n (Or.inl (by assumption)) ?_
      | refine s162n (Or.inr (by assumption)) ?_
      | refine s171y (by assumption) (by assumption) ?_
      | refine s171n (Or.inl (by assumption)) ?_
      | refine s171n (Or.inr (by assumption)) ?_
      | refine s170n (by assumption) ?_
      | refine s170y (by assumption) (by assumption) ?_
      | refine s162c (fun _ _ => ?_) (fun _ => ?_)
      | refine s171c (fun _ _ => ?_) (fun _ => ?_)
      | refine s147c (fun _ _ _ _ => ?_) (fun o_a => ?_)
      | refine s146y (by assumption) (by assumption) ?_
      | refine s146n (by assumption) ?_
      | refine s146c (fun _ _ => ?_) (fun _ => ?_)
      | refine s145 I.sh I.rr (by assumption) ?_
      | refine s145e I.sh I.rr (by assumption) (by assumption) ?_
      | refine s145n I.sh (by assumption) ?_
      | refine s148y (by assumption) (by assumption) ?_
      | refine s148n (by assumption) ?_
      | refine s149y (by assumption) (by assumption) ?_
      | refine s149n (by assumption) ?_
      | (refine k _ _ (by repeat (first | exact e80_I I | exact e80_S (by assumption) | exact e80_I (by assumption) | exact e80_n I.sh | refine e80_s (by omega) ?_)) fun Q2 k2 => ?_; refine ma_enter (m := 194) (Or.inl (by decide)) (by show 5 ≤ mt_n 194; decide +kernel) ?_; show At 194 Q2 0 (mt_c 194) [some (.ref 80), some (.int x), some (.int y), some (.int z), some (.int 1), none] [] _)
      | exact k2 _ (I.one l_x l_c (Or.inr (by obtain ⟨n, n6, e⟩ := I.nf.n l_x; rw [e]; exact nI_pos (by omega))))
      | exact k2 _ I
      | split
      | rfl
  · refine ma_enter (m := 107) (Or.inl (by decide)) (by show 5 ≤ mt_n 107; decide +kernel) ?_
    show At 107 Q 0 (mt_c 107) [some (.ref 0), some (.int x), some (.int y), some (.int z), some (.int 1), none, none] [] h
    repeat' first
      | (refine go 60 (by decide) ?_; simp only [KX, KY, KZ, KW, KV, Nat.reduceAdd, Nat.reduceSub, Nat.reduceLeDiff, true_and, and_true, true_or, or_true, or_self, reduceCtorEq, if_true, if_false, not_false_eq_true, eq_self, c107, c194, Int32.reduceLT, Int32.reduceLE, I.sh.e0, I.sh.e80, I.sh.e88, I.sh.e89])
      | assumption
      | contradiction
      | (exfalso; first | exact absurd (by assumption) (p_x.resolve_left (by assumption)) | exact absurd (by assumption) (p_y.resolve_left (by assumption)) | exact absurd (by assumption) (o_x.resolve_left (by assumption)) | exact absurd (by assumption) (o_y.resolve_left (by assumption)))
      | exact absurd (by assumption) (nI_pos (show ma_cell c < 2 ^ 31 by have := (cell_lt c l_c).1; omega))
      | refine s9v e_p ?_
      | refine s165v e_c ?_
      | refine s162y (by assumption) (by assumption) ?_
      | refine s162n (by assumption) ?_
      | refine s162n (Or.inl (by assumption)) ?_
      | refine s162n (Or.inr (by assumption)) ?_
      | refine s171y (by assumption) (by assumption) ?_
      | refine s171n (Or.inl (by assumption)) ?_
      | refine s171n (Or.inr (by assumption)) ?_
      | refine s170n (by assumption) ?_
      | refine s170y (by assumption) (by assumption) ?_
      | refine s162c (fun _ _ => ?_) (fun _ => ?_)
      | refine s171c (fun _ _ => ?_) (fun _ => ?_)
      | refine s147c (fun _ _ _ _ => ?_) (fun o_a => ?_)
      | refine s146y (by assumption) (by assumption) ?_
      | refine s146n (by assumption) ?_
      | refine s146c (fun _ _ => ?_) (fun _ => ?_)
      | refine s145 I.sh I.rr (by assumption) ?_
      | refine s145e I.sh I.rr (by assumption) (by assumption) ?_
      | refine s145n I.sh (by assumption) ?_
      | refine s148y (by assumption) (by assumption) ?_
      | refine s148n (by assumption) ?_
      | refine s149y (by assumption) (by assumption) ?_
      | refine s149n (by assumption) ?_
      | (refine k _ _ (by repeat (first | exact e80_I I | exact e80_S (by assumption) | exact e80_I (by assumption) | exact e80_n I.sh | refine e80_s (by omega) ?_)) fun Q2 k2 => ?_; refine ma_enter (m := 194) (Or.inl (by decide)) (by show 5 ≤ mt_n 194; decide +kernel) ?_; show At 194 Q2 0 (mt_c 194) [some (.ref 80), some (.int x), some (.int y), some (.int z), some (.int 1), none] [] _)
      | exact k2 _ I
      | split
      | rfl
  · refine ma_enter (m := 107) (Or.inl (by decide)) (by show 5 ≤ mt_n 107; decide +kernel) ?_
    show At 107 Q 0 (mt_c 107) [some (.ref 0), some (.int x), some (.int y), some (.int z), some (.int 1), none, none] [] h
    repeat' first
      | (refine go 60 (by decide) ?_; simp only [KX, KY, KZ, KW, KV, Nat.reduceAdd, Nat.reduceSub, Nat.reduceLeDiff, true_and, and_true, true_or, or_true, or_self, reduceCtorEq, if_true, if_false, not_false_eq_true, eq_self, c107, c194, Int32.reduceLT, Int32.reduceLE, I.sh.e0, I.sh.e80, I.sh.e88, I.sh.e89])
      | assumption
      | contradiction
      | (exfalso; first | exact absurd (by assumption) (p_x.resolve_left (by assumption)) | exact absurd (by assumption) (p_y.resolve_left (by assumption)) | exact absurd (by assumption) (o_x.resolve_left (by assumption)) | exact absurd (by assumption) (o_y.resolve_left (by assumption)))
      | refine s9v e_p ?_
      | refine s165v e_c ?_
      | refine s162y (by assumption) (by assumption) ?_
      | refine s162n (by assumption) ?_
      | refine s162n (Or.inl (by assumption)) ?_
      | refine s162n (Or.inr (by assumption)) ?_
      | refine s171y (by assumption) (by assumption) ?_
      | refine s171n (Or.inl (by assumption)) ?_
      | refine s171n (Or.inr (by assumption)) ?_
      | refine s170n (by assumption) ?_
      | refine s170y (by assumption) (by assumption) ?_
      | refine s162c (fun _ _ => ?_) (fun _ => ?_)
      | refine s171c (fun _ _ => ?_) (fun _ => ?_)
      | refine s147c (fun _ _ _ _ => ?_) (fun o_a => ?_)
      | refine s146y (by assumption) (by assumption) ?_
      | refine s146n (by assumption) ?_
      | refine s146c (fun _ _ => ?_) (fun _ => ?_)
      | refine s145 I.sh I.rr (by assumption) ?_
      | refine s145e I.sh I.rr (by assumption) (by assumption) ?_
      | refine s145n I.sh (by assumption) ?_
      | refine s148y (by assumption) (by assumption) ?_
      | refine s148n (by assumption) ?_
      | refine s149y (by assumption) (by assumption) ?_
      | refine s149n (by assumption) ?_
      | (refine k _ _ (by repeat (first | exact e80_I I | exact e80_S (by assumption) | exact e80_I (by assumption) | exact e80_n I.sh | refine e80_s (by omega) ?_)) fun Q2 k2 => ?_; refine ma_enter (m := 194) (Or.inl (by decide)) (by show 5 ≤ mt_n 194; decide +kernel) ?_; show At 194 Q2 0 (mt_c 194) [some (.ref 80), some (.int x), some (.int y), some (.int z), some (.int 1), none] [] _)
      | exact k2 _ I
      | split
      | rfl
  · refine ma_enter (m := 107) (Or.inl (by decide)) (by show 5 ≤ mt_n 107; decide +kernel) ?_
    show At 107 Q 0 (mt_c 107) [some (.ref 0), some (.int x), some (.int y), some (.int z), some (.int 1), none, none] [] h
    repeat' first
      | (refine go 60 (by decide) ?_; simp only [KX, KY, KZ, KW, KV, Nat.reduceAdd, Nat.reduceSub, Nat.reduceLeDiff, true_and, and_true, true_or, or_true, or_self, reduceCtorEq, if_true, if_false, not_false_eq_true, eq_self, c107, c194, Int32.reduceLT, Int32.reduceLE, I.sh.e0, I.sh.e80, I.sh.e88, I.sh.e89])
      | assumption
      | contradiction
      | (exfalso; first | exact absurd (by assumption) (p_x.resolve_left (by assumption)) | exact absurd (by assumption) (p_y.resolve_left (by assumption)) | exact absurd (by assumption) (o_x.resolve_left (by assumption)) | exact absurd (by assumption) (o_y.resolve_left (by assumption)))
      | refine s9v e_p ?_
      | refine s165v e_c ?_
      | refine s162y (by assumption) (by assumption) ?_
      | refine s162n (by assumption) ?_
      | refine s162n (Or.inl (by assumption)) ?_
      | refine s162n (Or.inr (by assumption)) ?_
      | refine s171y (by assumption) (by assumption) ?_
      | refine s171n (Or.inl (by assumption)) ?_
      | refine s171n (Or.inr (by assumption)) ?_
      | refine s170n (by assumption) ?_
      | refine s170y (by assumption) (by assumption) ?_
      | refine s162c (fun _ _ => ?_) (fun _ => ?_)
      | refine s171c (fun _ _ => ?_) (fun _ => ?_)
      | refine s147c (fun _ _ _ _ => ?_) (fun o_a => ?_)
      | refine s146y (by assumption) (by assumption) ?_
      | refine s146n (by assumption) ?_
      | refine s146c (fun _ _ => ?_) (fun _ => ?_)
      | refine s145 I.sh I.rr (by assumption) ?_
      | refine s145e I.sh I.rr (by assumption) (by assumption) ?_
      | refine s145n I.sh (by assumption) ?_
      | refine s148y (by assumption) (by assumption) ?_
      | refine s148n (by assumption) ?_
      | refine s149y (by assumption) (by assumption) ?_
      | refine s149n (by assumption) ?_
      | (refine k _ _ (by repeat (first | exact e80_I I | exact e80_S (by assumption) | exact e80_I (by assumption) | exact e80_n I.sh | refine e80_s (by omega) ?_)) fun Q2 k2 => ?_; refine ma_enter (m := 194) (Or.inl (by decide)) (by show 5 ≤ mt_n 194; decide +kernel) ?_; show At 194 Q2 0 (mt_c 194) [some (.ref 80), some (.int x), some (.int y), some (.int z), some (.int 1), none] [] _)
      | exact k2 _ I
      | split
      | rfl
