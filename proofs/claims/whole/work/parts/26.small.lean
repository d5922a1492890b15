/-! small calls: miss, seed, air, airOf -/
theorem p121 {h : ma_H} {x : Int32} (I : Inv h) : Pair h 121 220 [.int x] := by
  intro Q k
  have HZ : fi h 80 12 = fi h 34 7 := I.nm.2.symm
  refine ma_enter (m := 121) (Or.inl (by decide)) (by show 2 ≤ mt_n 121; decide +kernel) ?_
  show At 121 Q 0 (mt_c 121) [some (.ref 0), some (.int x), none] [] h
  repeat' first
    | (refine go 60 (by decide) ?_; simp only [KX, KY, KZ, KW, KV, Nat.reduceAdd, Nat.reduceSub, Nat.reduceLeDiff, true_and, and_true, true_or, or_true, or_self, reduceCtorEq, if_true, if_false, not_false_eq_true, eq_self, c121, c220, ma_get, Nat.reduceEqDiff, ↓reduceIte, Int32.reduceLT, Int32.reduceLE, I.sh.e0, I.sh.e34, I.sh.e80, HZ])
    | assumption
    | contradiction
    | (exfalso; first | exact absurd (by assumption) (p_x.resolve_left (by assumption)) | exact absurd (by assumption) (p_y.resolve_left (by assumption)) | exact absurd (by assumption) (o_x.resolve_left (by assumption)) | exact absurd (by assumption) (o_y.resolve_left (by assumption)))
    | (refine ⟨by simp only [List.length_cons, List.length_nil]; omega, by first | exact trivial | exact Or.inl rfl | exact Or.inr rfl, ?_⟩; simp only [List.set_cons_succ, List.set_cons_zero])
    | refine s162y (by assumption) (by assumption) ?_
    | refine s162n (by assumption) ?_
    | refine s162n (Or.inl (by assumption)) ?_
    | refine s162n (Or.inr (by assumption)) ?_
    | refine s171y (by assumption) (by assumption) ?_
    | refine s171n (Or.inl (by assumption)) ?_
    | refine s171n (Or.inr (by assumption)) ?_
    | refine s170n (by assumption) ?_
    | refine s170y (by assumption) (by assumption) ?_
    | refine s162c (fun _ _ => ?_) (fun _ => ?_)
    | refine s171c (fun _ _ => ?_) (fun _ => ?_)
    | refine s147c (fun _ _ _ _ => ?_) (fun o_a => ?_)
    | refine s146y (by assumption) (by assumption) ?_
    | refine s146n (by assumption) ?_
    | refine s146c (fun _ _ => ?_) (fun _ => ?_)
    | refine s145 I.sh I.rr (by assumption) ?_
    | refine s145e I.sh I.rr (by assumption) (by assumption) ?_
    | refine s145n I.sh (by assumption) ?_
    | refine s148y (by assumption) (by assumption) ?_
    | refine s148n (by assumption) ?_
    | refine s149y (by assumption) (by assumption) ?_
    | refine s149n (by assumption) ?_
    | (refine k _ _ (by repeat (first | exact e80_I I | exact e80_S (by assumption) | exact e80_I (by assumption) | exact e80_n I.sh | refine e80_s (by omega) ?_)) fun Q2 k2 => ?_; refine ma_enter (m := 220) (Or.inl (by decide)) (by show 2 ≤ mt_n 220; decide +kernel) ?_; show At 220 Q2 0 (mt_c 220) [some (.ref 80), some (.int x), none] [] _)
    | exact k2 _ ⟨(sh_set (sh_set I.sh rfl) rfl), I.rr, I.rt, ⟨(I.nf.cong (fun a ha => by simp (disch := omega) only [ma_set_ne])), (I.ng.cong2 (Nat.le_refl _) rfl rfl (fun a ha => by simp (disch := omega) only [ma_set_ne])), ⟨I.nm.1, rfl⟩, I.na, I.nl⟩, (I.rk.cong2 (Nat.le_refl _) rfl rfl (fun a ha => by simp (disch := omega) only [ma_set_ne])), I.rp, (I.rw.cong2 rfl rfl (fun a ha => by simp (disch := omega) only [ma_set_ne])), (I.rs.cong (fun a ha => by simp (disch := omega) only [ma_set_ne])), I.rv, I.ra, I.rc⟩
    | split
    | rfl
theorem p120 {h : ma_H} {x : Int32} (I : Inv h) : Pair h 120 219 [.int x] := by
  intro Q k
  have HZ : fi h 80 11 = fi h 34 6 := by obtain ⟨n, -, a, b⟩ := I.nm.1; rw [a, b]
  refine ma_enter (m := 120) (Or.inl (by decide)) (by show 2 ≤ mt_n 120; decide +kernel) ?_
  show At 120 Q 0 (mt_c 120) [some (.ref 0), some (.int x), none] [] h
  repeat' first
    | (refine go 60 (by decide) ?_; simp only [KX, KY, KZ, KW, KV, Nat.reduceAdd, Nat.reduceSub, Nat.reduceLeDiff, true_and, and_true, true_or, or_true, or_self, reduceCtorEq, if_true, if_false, not_false_eq_true, eq_self, c120, c219, ma_get, Nat.reduceEqDiff, ↓reduceIte, Int32.reduceLT, Int32.reduceLE, I.sh.e0, I.sh.e34, I.sh.e80, HZ])
    | assumption
    | contradiction
    | (exfalso; first | exact absurd (by assumption) (p_x.resolve_left (by assumption)) | exact absurd (by assumption) (p_y.resolve_left (by assumption)) | exact absurd (by assumption) (o_x.resolve_left (by assumption)) | exact absurd (by assumption) (o_y.resolve_left (by assumption)))
    | (refine ⟨by simp only [List.length_cons, List.length_nil]; omega, by first | exact trivial | exact Or.inl rfl | exact Or.inr rfl, ?_⟩; simp only [List.set_cons_succ, List.set_cons_zero])
    | refine s162y (by assumption) (by assumption) ?_
    | refine s162n (by assumption) ?_
    | refine s162n (Or.inl (by assumption)) ?_
    | refine s162n (Or.inr (by assumption)) ?_
    | refine s171y (by assumption) (by assumption) ?_
    | refine s171n (Or.inl (by assumption)) ?_
    | refine s171n (Or.inr (by assumption)) ?_
    | refine s170n (by assumption) ?_
    | refine s170y (by assumption) (by assumption) ?_
    | refine s162c (fun _ _ => ?_) (fun _ => ?_)
    | refine s171c (fun _ _ => ?_) (fun _ => ?_)
    | refine s147c (fun _ _ _ _ => ?_) (fun o_a => ?_)
    | refine s146y (by assumption) (by assumption) ?_
    | refine s146n (by assumption) ?_
    | refine s146c (fun _ _ => ?_) (fun _ => ?_)
    | refine s145 I.sh I.rr (by assumption) ?_
    | refine s145e I.sh I.rr (by assumption) (by assumption) ?_
    | refine s145n I.sh (by assumption) ?_
    | refine s148y (by assumption) (by assumption) ?_
    | refine s148n (by assumption) ?_
    | refine s149y (by assumption) (by assumption) ?_
    | refine s149n (by assumption) ?_
    | (refine k _ _ (by repeat (first | exact e80_I I | exact e80_S (by assumption) | exact e80_I (by assumption) | exact e80_n I.sh | refine e80_s (by omega) ?_)) fun Q2 k2 => ?_; refine ma_enter (m := 219) (Or.inl (by decide)) (by show 2 ≤ mt_n 219; decide +kernel) ?_; show At 219 Q2 0 (mt_c 219) [some (.ref 80), some (.int x), none] [] _)
    | exact k2 _ I
    | exact k2 _ ⟨(sh_set (sh_set I.sh rfl) rfl), I.rr, I.rt, ⟨(I.nf.cong (fun a ha => by simp (disch := omega) only [ma_set_ne])), (I.ng.cong2 (Nat.le_refl _) rfl rfl (fun a ha => by simp (disch := omega) only [ma_set_ne])), ⟨i_of4 (by assumption) (by assumption), I.nm.2⟩, I.na, I.nl⟩, (I.rk.cong2 (Nat.le_refl _) rfl rfl (fun a ha => by simp (disch := omega) only [ma_set_ne])), I.rp, (I.rw.cong2 rfl rfl (fun a ha => by simp (disch := omega) only [ma_set_ne])), (I.rs.cong (fun a ha => by simp (disch := omega) only [ma_set_ne])), I.rv, I.ra, I.rc⟩
    | split
    | rfl
theorem p123 {h : ma_H} {x y : Int32} (I : Inv h) : Pair h 123 222 [.int x, .int y] := by
  intro Q k
  have w_x : (∃ f, f < 24 ∧ x = nI f ∧ ¬ x < 0 ∧ x < 24 ∧ x ≤ 23 ∧ vp_in x 24 ∧ x.toNatClampNeg = f) ∨ ((x < 0 ∨ ¬ x ≤ 23) ∧ (x < 0 ∨ ¬ x < 24)) := icasB x 23 (by decide)
  rcases w_x with ⟨f_x, l_x, q_x, a_x, b_x, c_x, v_x, t_x⟩ | ⟨o_x, p_x⟩
  all_goals
    refine ma_enter (m := 123) (Or.inl (by decide)) (by show 3 ≤ mt_n 123; decide +kernel) ?_
    show At 123 Q 0 (mt_c 123) [some (.ref 0), some (.int x), some (.int y)] [] h
    repeat' first
      | (refine go 60 (by decide) ?_; simp only [KX, KY, KZ, KW, KV, Nat.reduceAdd, Nat.reduceSub, Nat.reduceLeDiff, true_and, and_true, true_or, or_true, or_self, reduceCtorEq, if_true, if_false, not_false_eq_true, eq_self, c123, c222, ma_get, Nat.reduceEqDiff, ↓reduceIte, Int32.reduceLT, Int32.reduceLE, I.sh.e0, I.sh.e34, I.sh.e53, I.sh.e54, I.sh.e80, I.sh.e91])
      | assumption
      | contradiction
      | (exfalso; first | exact absurd (by assumption) (p_x.resolve_left (by assumption)) | exact absurd (by assumption) (p_y.resolve_left (by assumption)) | exact absurd (by assumption) (o_x.resolve_left (by assumption)) | exact absurd (by assumption) (o_y.resolve_left (by assumption)))
      | refine ⟨by assumption, ?_⟩
      | refine s162y (by assumption) (by assumption) ?_
      | refine s162n (by assumption) ?_
      | refine s162n (Or.inl (by assumption)) ?_
      | refine s162n (Or.inr (by assumption)) ?_
      | refine s171y (by assumption) (by assumption) ?_
      | refine s171n (Or.inl (by assumption)) ?_
      | refine s171n (Or.inr (by assumption)) ?_
      | refine s170n (by assumption) ?_
      | refine s170y (by assumption) (by assumption) ?_
      | refine s162c (fun _ _ => ?_) (fun _ => ?_)
      | refine s171c (fun _ _ => ?_) (fun _ => ?_)
      | refine s147c (fun _ _ _ _ => ?_) (fun o_a => ?_)
      | refine s146y (by assumption) (by assumption) ?_
      | refine s146n (by assumption) ?_
      | refine s146c (fun _ _ => ?_) (fun _ => ?_)
      | refine s145 I.sh I.rr (by assumption) ?_
      | refine s145e I.sh I.rr (by assumption) (by assumption) ?_
      | refine s145n I.sh (by assumption) ?_
      | refine s148y (by assumption) (by assumption) ?_
      | refine s148n (by assumption) ?_
      | refine s149y (by assumption) (by assumption) ?_
      | refine s149n (by assumption) ?_
      | (refine k _ _ (by repeat (first | exact e80_I I | exact e80_S (by assumption) | exact e80_I (by assumption) | exact e80_n I.sh | refine e80_s (by omega) ?_)) fun Q2 k2 => ?_; refine ma_enter (m := 222) (Or.inl (by decide)) (by show 3 ≤ mt_n 222; decide +kernel) ?_; show At 222 Q2 0 (mt_c 222) [some (.ref 80), some (.int x), some (.int y)] [] _)
      | exact k2 _ I
      | (rename_i e_y; obtain ⟨w1, w2⟩ := ix2 0 48 (by decide) q_x (by omega); rw [show y = nI 0 from e_y]; refine ⟨w1, ?_⟩; rw [w2, Nat.add_zero, ← (I.na f_x l_x).1, ← t_x]; exact k2 _ I)
      | (have e_y := i_one (by assumption) (by assumption) (by assumption); obtain ⟨w1, w2⟩ := ix2 1 48 (by decide) q_x (by omega); rw [show y = nI 1 from e_y]; refine ⟨w1, ?_⟩; rw [w2, ← (I.na f_x l_x).2, ← t_x]; exact k2 _ I)
      | split
      | rfl
theorem Wa_upd {a b c : Nat → Int32} (w : Wa a b c) (f : Nat) (y z : Int32) : Wa (upd a f y) (upd b f z) (upd (upd c (2 * f) y) (2 * f + 1) z) := by
  intro m hm
  obtain ⟨w1, w2⟩ := w m hm
  unfold upd
  by_cases e : m = f
  · subst e
    exact ⟨by rw [if_pos rfl, if_neg (by omega), if_pos rfl], by rw [if_pos rfl, if_pos rfl]⟩
  · exact ⟨by rw [if_neg e, if_neg (by omega), if_neg (by omega)]; exact w1, by rw [if_neg e, if_neg (by omega), if_neg (by omega)]; exact w2⟩
theorem p122 {h : ma_H} {x y z : Int32} (I : Inv h) : Pair h 122 221 [.int x, .int y, .int z] := by
  intro Q k
  have w_x : (∃ f, f < 24 ∧ x = nI f ∧ ¬ x < 0 ∧ x < 24 ∧ x ≤ 23 ∧ vp_in x 24 ∧ x.toNatClampNeg = f) ∨ ((x < 0 ∨ ¬ x ≤ 23) ∧ (x < 0 ∨ ¬ x < 24)) := icasB x 23 (by decide)
  rcases w_x with ⟨f_x, l_x, q_x, a_x, b_x, c_x, v_x, t_x⟩ | ⟨o_x, p_x⟩
  all_goals
    refine ma_enter (m := 122) (Or.inl (by decide)) (by show 4 ≤ mt_n 122; decide +kernel) ?_
    show At 122 Q 0 (mt_c 122) [some (.ref 0), some (.int x), some (.int y), some (.int z)] [] h
    repeat' first
      | (refine go 60 (by decide) ?_; simp only [KX, KY, KZ, KW, KV, Nat.reduceAdd, Nat.reduceSub, Nat.reduceLeDiff, true_and, and_true, true_or, or_true, or_self, reduceCtorEq, if_true, if_false, not_false_eq_true, eq_self, c122, c221, ma_get, Nat.reduceEqDiff, ↓reduceIte, Int32.reduceLT, Int32.reduceLE, I.sh.e0, I.sh.e34, I.sh.e53, I.sh.e54, I.sh.e80, I.sh.e91, ma_set_at])
      | assumption
      | contradiction
      | (exfalso; first | exact absurd (by assumption) (p_x.resolve_left (by assumption)) | exact absurd (by assumption) (p_y.resolve_left (by assumption)) | exact absurd (by assumption) (o_x.resolve_left (by assumption)) | exact absurd (by assumption) (o_y.resolve_left (by assumption)))
      | (exfalso; rcases o_a with w | w | w | w <;> contradiction)
      | refine ⟨by assumption, ?_⟩
      | refine s162y (by assumption) (by assumption) ?_
      | refine s162n (by assumption) ?_
      | refine s162n (Or.inl (by assumption)) ?_
      | refine s162n (Or.inr (by assumption)) ?_
      | refine s171y (by assumption) (by assumption) ?_
      | refine s171n (Or.inl (by assumption)) ?_
      | refine s171n (Or.inr (by assumption)) ?_
      | refine s170n (by assumption) ?_
      | refine s170y (by assumption) (by assumption) ?_
      | refine s162c (fun _ _ => ?_) (fun _ => ?_)
      | refine s171c (fun _ _ => ?_) (fun _ => ?_)
      | refine s147c (fun _ _ _ _ => ?_) (fun o_a => ?_)
      | refine s146y (by assumption) (by assumption) ?_
      | refine s146n (by assumption) ?_
      | refine s146c (fun _ _ => ?_) (fun _ => ?_)
      | refine s145 I.sh I.rr (by assumption) ?_
      | refine s145e I.sh I.rr (by assumption) (by assumption) ?_
      | refine s145n I.sh (by assumption) ?_
      | refine s148y (by assumption) (by assumption) ?_
      | refine s148n (by assumption) ?_
      | refine s149y (by assumption) (by assumption) ?_
      | refine s149n (by assumption) ?_
      | (refine k _ _ (by repeat (first | exact e80_I I | exact e80_S (by assumption) | exact e80_I (by assumption) | exact e80_n I.sh | refine e80_s (by omega) ?_)) fun Q2 k2 => ?_; refine ma_enter (m := 221) (Or.inl (by decide)) (by show 4 ≤ mt_n 221; decide +kernel) ?_; show At 221 Q2 0 (mt_c 221) [some (.ref 80), some (.int x), some (.int y), some (.int z)] [] _)
      | exact k2 _ I
      | (obtain ⟨w1, w2⟩ := ix1 48 (by decide) q_x (by omega); obtain ⟨w3, w4⟩ := ix2 1 48 (by decide) q_x (by omega); refine ⟨w1, w3, ?_⟩; rw [show (2 * x + 1 : Int32).toNatClampNeg = 2 * f_x + 1 from w4, w2, t_x]; exact k2 _ ⟨(sh_set (sh_set (sh_set (sh_set I.sh rfl) rfl) rfl) rfl), I.rr, I.rt, ⟨(I.nf.cong (fun a ha => by simp (disch := omega) only [ma_set_ne])), (I.ng.cong2 (Nat.le_refl _) rfl rfl (fun a ha => by simp (disch := omega) only [ma_set_ne])), I.nm, (Wa_upd I.na f_x y z), I.nl⟩, (I.rk.cong2 (Nat.le_refl _) rfl rfl (fun a ha => by simp (disch := omega) only [ma_set_ne])), I.rp, (I.rw.cong2 rfl rfl (fun a ha => by simp (disch := omega) only [ma_set_ne])), (I.rs.cong (fun a ha => by simp (disch := omega) only [ma_set_ne])), I.rv, I.ra, I.rc⟩)
      | split
      | rfl
