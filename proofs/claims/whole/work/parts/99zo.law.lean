/-! law -/
theorem fi_c {h h1 : ma_H} {a : Nat} (e : h1.2.1 a = h.2.1 a) (i : Nat) : fi h1 a i = fi h a i := congrArg (fun c => fiC c i) e
theorem Inv.law {h hh : ma_H} (I : Inv h) (S : Sh hh) (n1 : hh.1 = h.1) (e : ∀ a, a ≠ 0 → ¬ (2 ≤ a ∧ a ≤ 10) → ¬ (49 ≤ a ∧ a ≤ 52) → a ≠ 80 → a ≠ 92 → a ≠ 93 → a ≠ 96 → a ≠ 97 → a ≠ 99 → hh.2.1 a = h.2.1 a) (f2 : fi hh 0 2 = fi h 0 2) (f8 : fi hh 0 8 = fi h 0 8) (f4 : fi hh 0 4 = 0) (g9 : fi hh 80 9 = fi h 80 9) (g11 : fi hh 80 11 = fi h 80 11) (g12 : fi hh 80 12 = fi h 80 12) (g41 : fi hh 80 41 = fi h 80 41) (g53 : fi hh 80 53 = fi h 80 53) (g55 : fi hh 80 55 = fi h 80 55) (g18 : fi hh 80 18 = 0) (nl : Nl hh) : Inv hh := by
  have nm : Nm hh := by
    have x : Nm h := I.nm
    unfold Nm at x ⊢
    rw [g11, g12, fi_c (e 34 (by decide) (by decide) (by decide) (by decide) (by decide) (by decide) (by decide) (by decide) (by decide)) 6, fi_c (e 34 (by decide) (by decide) (by decide) (by decide) (by decide) (by decide) (by decide) (by decide) (by decide)) 7]
    exact x
  have rp : Rp hh := by
    obtain ⟨n, n2, e1, e2, r1, r2⟩ := I.rp
    exact ⟨0, Nat.zero_le _, f4, g18, fun i hi => absurd hi (Nat.not_lt_zero _), fun i => by rw [ai_c (e 1 (by decide) (by decide) (by decide) (by decide) (by decide) (by decide) (by decide) (by decide) (by decide))]; exact r2 i⟩
  have ra : Ra hh := by
    have x : Ra h := I.ra
    unfold Ra at x ⊢
    rw [g53, fi_c (e 27 (by decide) (by decide) (by decide) (by decide) (by decide) (by decide) (by decide) (by decide) (by decide)) 1, ai_c (e 28 (by decide) (by decide) (by decide) (by decide) (by decide) (by decide) (by decide) (by decide) (by decide)), ai_c (e 112 (by decide) (by decide) (by decide) (by decide) (by decide) (by decide) (by decide) (by decide) (by decide))]
    exact x
  exact ⟨S, I.rr.cong (fun a x => e a (by omega) (by omega) (by omega) (by omega) (by omega) (by omega) (by omega) (by omega) (by omega)), I.rt.cong (fun a x => e a (by omega) (by omega) (by omega) (by omega) (by omega) (by omega) (by omega) (by omega) (by omega)), ⟨I.nf.cong (fun a x => e a (by omega) (by omega) (by omega) (by omega) (by omega) (by omega) (by omega) (by omega) (by omega)), I.ng.cong2 (Nat.le_of_eq n1.symm) (fi_c (e 34 (by decide) (by decide) (by decide) (by decide) (by decide) (by decide) (by decide) (by decide) (by decide)) 2) g9 (fun a x => e a (by omega) (by omega) (by omega) (by omega) (by omega) (by omega) (by omega) (by omega) (by omega)), nm, I.na.cong (fun a x => e a (by omega) (by omega) (by omega) (by omega) (by omega) (by omega) (by omega) (by omega) (by omega)), nl⟩, I.rk.cong2 (Nat.le_of_eq n1.symm) f2 g55 (fun a x => e a (by omega) (by omega) (by omega) (by omega) (by omega) (by omega) (by omega) (by omega) (by omega)), rp, I.rw.cong2 f8 g41 (fun a x => e a (by omega) (by omega) (by omega) (by omega) (by omega) (by omega) (by omega) (by omega) (by omega)), I.rs.cong (fun a x => e a (by omega) (by omega) (by omega) (by omega) (by omega) (by omega) (by omega) (by omega) (by omega)), I.rv.cong (fun a x => e a (by omega) (by omega) (by omega) (by omega) (by omega) (by omega) (by omega) (by omega) (by omega)), ra, I.rc.cong (fun a x => e a (by omega) (by omega) (by omega) (by omega) (by omega) (by omega) (by omega) (by omega) (by omega))⟩
theorem s104 {h : ma_H} {Q : ma_Q} {b : Nat → Nat} {n : Nat} (H : Sh h) (e4 : fi h 0 4 = nI n) (n2 : n ≤ 200) (eb : ∀ i, ai h 1 i = sb (b i)) (b2 : ∀ i, b i < 256) (kA : ∀ h2 K, TN b n K → tq b n (LK (tq b n) (LN (tq b n))) = 256 → Sh h2 → h2.1 = h.1 → (∀ a, a ≠ 0 → ¬ (2 ≤ a ∧ a ≤ 10) → ¬ (49 ≤ a ∧ a ≤ 52) → h2.2.1 a = h.2.1 a) → fi h2 0 2 = fi h 0 2 → fi h2 0 8 = fi h 0 8 → fi h2 0 4 = 0 → fi h2 49 0 = nI (LN (tq b n)) → seg (ai h2 52) 0 ((LC (tq b n) (LN (tq b n))).map tc) → (∀ j, j < LN (tq b n) → ai h2 50 j = kd (pCl (tq b n) (LK (tq b n) j)).2 ∧ ai h2 51 j = nI (LC (tq b n) (j + 1)).length) → Q (some (.int (nI (LN (tq b n))))) h2) (kX : ∀ h2 K, TN b n K → tq b n (LK (tq b n) (LN (tq b n))) ≠ 256 → Sh h2 → h2.1 = h.1 → (∀ a, a ≠ 0 → ¬ (2 ≤ a ∧ a ≤ 10) → h2.2.1 a = h.2.1 a) → fi h2 0 2 = fi h 0 2 → fi h2 0 8 = fi h 0 8 → fi h2 0 4 = 0 → Q (some (.int (-100 - nI (Ps b n (LF (tq b n)))))) h2) : ma_X 104 [.ref 0] h Q := by
  refine ma_enter (m := 104) (Or.inl (by decide)) (by show 1 ≤ mt_n 104; decide +kernel) ?_
  show At 104 Q 0 (mt_c 104) [some (.ref 0), none] [] h
  refine go 60 (by decide) ?_
  simp only [KX, KY, KZ, KW, KV, Nat.reduceAdd, Nat.reduceSub, Nat.reduceLeDiff, true_and, and_true, true_or, or_true, or_self, reduceCtorEq, if_true, if_false, not_false_eq_true, eq_self, c104, H.e0, e4]
  refine s63 H n2 eb b2 (fun h2 K N f LA => ?_) (fun h2 K N f LX => ?_)
  · obtain ⟨S2, c1, fr, e7, sg, us⟩ := LA
    obtain ⟨n8, -, nal⟩ := LN_all (q := tq b n) 8 0 rfl
    have lk := LK_ok N.end_ (LN (tq b n))
    have K2 := N.1
    have S3 : Sh (ma_set h2 0 (.inr (11, [.ref 34, .ref 57, .int (fi h2 0 2), .ref 1, .int 0, .ref 2, .ref 7, .ref 11, .int (fi h2 0 8), .ref 18, .ref 23, .ref 24, .ref 25, .ref 26, .ref 27, .ref 29, .ref 30, .ref 31]))) := sh_set S2 rfl
    have q34 : (ma_set h2 0 (.inr (11, [.ref 34, .ref 57, .int (fi h2 0 2), .ref 1, .int 0, .ref 2, .ref 7, .ref 11, .int (fi h2 0 8), .ref 18, .ref 23, .ref 24, .ref 25, .ref 26, .ref 27, .ref 29, .ref 30, .ref 31]))).2.1 34 = h2.2.1 34 := ma_set_ne _ _ (by decide)
    refine go 60 (by decide) ?_
    simp only [KX, KY, KZ, KW, KV, Nat.reduceAdd, Nat.reduceSub, Nat.reduceLeDiff, true_and, and_true, true_or, or_true, or_self, reduceCtorEq, if_true, if_false, not_false_eq_true, eq_self, c104, S2.e0, S2.e34, q34, ma_set_at, List.set_cons_succ, List.set_cons_zero]
    refine ⟨by simp only [List.length_cons, List.length_nil]; omega, trivial, ?_⟩
    rw [if_pos (show (-1 : Int32) < 0 by decide)]
    try (refine go 60 (by decide) ?_; simp only [KX, KY, KZ, KW, KV, Nat.reduceAdd, Nat.reduceSub, Nat.reduceLeDiff, true_and, and_true, true_or, or_true, or_self, reduceCtorEq, if_true, if_false, not_false_eq_true, eq_self, c104, S2.e0, S2.e34, q34, ma_set_at, List.set_cons_succ, List.set_cons_zero])
    refine s53l S3 ?_
    have S4 := (sh_set (a := 52) (c := .inl (.int, 200, .inl (va_cpy (ai (ma_set h2 0 (.inr (11, [.ref 34, .ref 57, .int (fi h2 0 2), .ref 1, .int 0, .ref 2, .ref 7, .ref 11, .int (fi h2 0 8), .ref 18, .ref 23, .ref 24, .ref 25, .ref 26, .ref 27, .ref 29, .ref 30, .ref 31]))) 10) (ai (ma_set h2 0 (.inr (11, [.ref 34, .ref 57, .int (fi h2 0 2), .ref 1, .int 0, .ref 2, .ref 7, .ref 11, .int (fi h2 0 8), .ref 18, .ref 23, .ref 24, .ref 25, .ref 26, .ref 27, .ref 29, .ref 30, .ref 31]))) 52) 0 0 200))) (sh_set (a := 51) (c := .inl (.int, 8, .inl (va_cpy (ai (ma_set h2 0 (.inr (11, [.ref 34, .ref 57, .int (fi h2 0 2), .ref 1, .int 0, .ref 2, .ref 7, .ref 11, .int (fi h2 0 8), .ref 18, .ref 23, .ref 24, .ref 25, .ref 26, .ref 27, .ref 29, .ref 30, .ref 31]))) 9) (ai (ma_set h2 0 (.inr (11, [.ref 34, .ref 57, .int (fi h2 0 2), .ref 1, .int 0, .ref 2, .ref 7, .ref 11, .int (fi h2 0 8), .ref 18, .ref 23, .ref 24, .ref 25, .ref 26, .ref 27, .ref 29, .ref 30, .ref 31]))) 51) 0 0 8))) (sh_set (a := 50) (c := .inl (.int, 8, .inl (va_cpy (ai (ma_set h2 0 (.inr (11, [.ref 34, .ref 57, .int (fi h2 0 2), .ref 1, .int 0, .ref 2, .ref 7, .ref 11, .int (fi h2 0 8), .ref 18, .ref 23, .ref 24, .ref 25, .ref 26, .ref 27, .ref 29, .ref 30, .ref 31]))) 8) (ai (ma_set h2 0 (.inr (11, [.ref 34, .ref 57, .int (fi h2 0 2), .ref 1, .int 0, .ref 2, .ref 7, .ref 11, .int (fi h2 0 8), .ref 18, .ref 23, .ref 24, .ref 25, .ref 26, .ref 27, .ref 29, .ref 30, .ref 31]))) 50) 0 0 8))) (sh_set (a := 49) (c := .inr (4, [.int (fi (ma_set h2 0 (.inr (11, [.ref 34, .ref 57, .int (fi h2 0 2), .ref 1, .int 0, .ref 2, .ref 7, .ref 11, .int (fi h2 0 8), .ref 18, .ref 23, .ref 24, .ref 25, .ref 26, .ref 27, .ref 29, .ref 30, .ref 31]))) 7 0), .ref 50, .ref 51, .ref 52, .int (fi (ma_set h2 0 (.inr (11, [.ref 34, .ref 57, .int (fi h2 0 2), .ref 1, .int 0, .ref 2, .ref 7, .ref 11, .int (fi h2 0 8), .ref 18, .ref 23, .ref 24, .ref 25, .ref 26, .ref 27, .ref 29, .ref 30, .ref 31]))) 7 4)])) S3 rfl) rfl) rfl) rfl)
    trace_state
    sorry
  · obtain ⟨S2, c1, fr⟩ := LX
    have pl := Ps_le (b := b) (n := n) (LF (tq b n))
    refine go 60 (by decide) ?_
    simp only [KX, KY, KZ, KW, KV, Nat.reduceAdd, Nat.reduceSub, Nat.reduceLeDiff, true_and, and_true, true_or, or_true, or_self, reduceCtorEq, if_true, if_false, not_false_eq_true, eq_self, c104, S2.e0, ma_set_at, List.set_cons_succ, List.set_cons_zero]
    refine ⟨by simp only [List.length_cons, List.length_nil]; omega, trivial, ?_⟩
    rw [if_neg (nI_pos (by omega))]
    try (refine go 60 (by decide) ?_; simp only [KX, KY, KZ, KW, KV, Nat.reduceAdd, Nat.reduceSub, Nat.reduceLeDiff, true_and, and_true, true_or, or_true, or_self, reduceCtorEq, if_true, if_false, not_false_eq_true, eq_self, c104, S2.e0, ma_set_at, List.set_cons_succ, List.set_cons_zero])
    refine kX _ K N f (sh_set S2 rfl) c1 (fun a a0 a1 => (ma_set_ne _ _ a0).trans (fr a a1)) (show fi h2 0 2 = fi h 0 2 from fi_c (fr 0 (by decide)) 2) (show fi h2 0 8 = fi h 0 8 from fi_c (fr 0 (by decide)) 8) rfl
