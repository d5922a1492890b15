/-! law -/
theorem fi_c {h h1 : ma_H} {a : Nat} (e : h1.2.1 a = h.2.1 a) (i : Nat) : fi h1 a i = fi h a i := congrArg (fun c => fiC c i) e
theorem Inv.law {h hh : ma_H} (I : Inv h) (S : Sh hh) (n1 : hh.1 = h.1) (e : ∀ a, a ≠ 0 → ¬ (2 ≤ a ∧ a ≤ 10) → ¬ (49 ≤ a ∧ a ≤ 52) → a ≠ 80 → a ≠ 92 → a ≠ 93 → a ≠ 96 → a ≠ 97 → a ≠ 99 → hh.2.1 a = h.2.1 a) (f2 : fi hh 0 2 = fi h 0 2) (f8 : fi hh 0 8 = fi h 0 8) (f4 : fi hh 0 4 = 0) (g9 : fi hh 80 9 = fi h 80 9) (g11 : fi hh 80 11 = fi h 80 11) (g12 : fi hh 80 12 = fi h 80 12) (g41 : fi hh 80 41 = fi h 80 41) (g53 : fi hh 80 53 = fi h 80 53) (g55 : fi hh 80 55 = fi h 80 55) (g18 : fi hh 80 18 = 0) (nl : Nl hh) : Inv hh := by
  have nm : Nm hh := by
    have x : Nm h := I.nm
    unfold Nm at x ⊢
    rw [g11, g12, fi_c (e 34 (by decide) (by decide) (by decide) (by decide) (by decide) (by decide) (by decide) (by decide) (by decide)) 6, fi_c (e 34 (by decide) (by decide) (by decide) (by decide) (by decide) (by decide) (by decide) (by decide) (by decide)) 7]
    exact x
  have rp : Rp hh := by
    obtain ⟨n, n2, e1, e2, r1, r2⟩ := I.rp
    exact ⟨0, Nat.zero_le _, f4, g18, fun i hi => absurd hi (Nat.not_lt_zero _), fun i => by rw [ai_c (e 1 (by decide) (by decide) (by decide) (by decide) (by decide) (by decide) (by decide) (by decide) (by decide))]; exact r2 i⟩
  have ra : Ra hh := by
    have x : Ra h := I.ra
    unfold Ra at x ⊢
    rw [g53, fi_c (e 27 (by decide) (by decide) (by decide) (by decide) (by decide) (by decide) (by decide) (by decide) (by decide)) 1, ai_c (e 28 (by decide) (by decide) (by decide) (by decide) (by decide) (by decide) (by decide) (by decide) (by decide)), ai_c (e 112 (by decide) (by decide) (by decide) (by decide) (by decide) (by decide) (by decide) (by decide) (by decide))]
    exact x
  exact ⟨S, I.rr.cong (fun a x => e a (by omega) (by omega) (by omega) (by omega) (by omega) (by omega) (by omega) (by omega) (by omega)), I.rt.cong (fun a x => e a (by omega) (by omega) (by omega) (by omega) (by omega) (by omega) (by omega) (by omega) (by omega)), ⟨I.nf.cong (fun a x => e a (by omega) (by omega) (by omega) (by omega) (by omega) (by omega) (by omega) (by omega) (by omega)), I.ng.cong2 (Nat.le_of_eq n1.symm) (fi_c (e 34 (by decide) (by decide) (by decide) (by decide) (by decide) (by decide) (by decide) (by decide) (by decide)) 2) g9 (fun a x => e a (by omega) (by omega) (by omega) (by omega) (by omega) (by omega) (by omega) (by omega) (by omega)), nm, I.na.cong (fun a x => e a (by omega) (by omega) (by omega) (by omega) (by omega) (by omega) (by omega) (by omega) (by omega)), nl⟩, I.rk.cong2 (Nat.le_of_eq n1.symm) f2 g55 (fun a x => e a (by omega) (by omega) (by omega) (by omega) (by omega) (by omega) (by omega) (by omega) (by omega)), rp, I.rw.cong2 f8 g41 (fun a x => e a (by omega) (by omega) (by omega) (by omega) (by omega) (by omega) (by omega) (by omega) (by omega)), I.rs.cong (fun a x => e a (by omega) (by omega) (by omega) (by omega) (by omega) (by omega) (by omega) (by omega) (by omega)), I.rv.cong (fun a x => e a (by omega) (by omega) (by omega) (by omega) (by omega) (by omega) (by omega) (by omega) (by omega)), ra, I.rc.cong (fun a x => e a (by omega) (by omega) (by omega) (by omega) (by omega) (by omega) (by omega) (by omega) (by omega))⟩
theorem s104 {h : ma_H} {Q : ma_Q} {b : Nat → Nat} {n : Nat} (H : Sh h) (e4 : fi h 0 4 = nI n) (n2 : n ≤ 200) (eb : ∀ i, ai h 1 i = sb (b i)) (b2 : ∀ i, b i < 256) (kA : ∀ h2 K, TN b n K → tq b n (LK (tq b n) (LN (tq b n))) = 256 → Sh h2 → h2.1 = h.1 → (∀ a, a ≠ 0 → ¬ (2 ≤ a ∧ a ≤ 10) → ¬ (49 ≤ a ∧ a ≤ 52) → h2.2.1 a = h.2.1 a) → fi h2 0 2 = fi h 0 2 → fi h2 0 8 = fi h 0 8 → fi h2 0 4 = 0 → fi h2 49 0 = nI (LN (tq b n)) → seg (ai h2 52) 0 ((LC (tq b n) (LN (tq b n))).map tc) → (∀ j, j < LN (tq b n) → ai h2 50 j = kd (pCl (tq b n) (LK (tq b n) j)).2 ∧ ai h2 51 j = nI (LC (tq b n) (j + 1)).length) → Q (some (.int (nI (LN (tq b n))))) h2) (kX : ∀ h2 K, TN b n K → tq b n (LK (tq b n) (LN (tq b n))) ≠ 256 → Sh h2 → h2.1 = h.1 → (∀ a, a ≠ 0 → ¬ (2 ≤ a ∧ a ≤ 10) → h2.2.1 a = h.2.1 a) → fi h2 0 2 = fi h 0 2 → fi h2 0 8 = fi h 0 8 → fi h2 0 4 = 0 → Q (some (.int (-100 - nI (Ps b n (LF (tq b n)))))) h2) : ma_X 104 [.ref 0] h Q := by
  refine ma_enter (m := 104) (Or.inl (by decide)) (by show 1 ≤ mt_n 104; decide +kernel) ?_
  show At 104 Q 0 (mt_c 104) [some (.ref 0), none] [] h
  refine go 60 (by decide) ?_
  simp only [KX, KY, KZ, KW, KV, Nat.reduceAdd, Nat.reduceSub, Nat.reduceLeDiff, true_and, and_true, true_or, or_true, or_self, reduceCtorEq, if_true, if_false, not_false_eq_true, eq_self, c104, H.e0, H.e2, e4]
  refine s63 H n2 eb b2 (fun h2 K N f LA => ?_) (fun h2 K N f LX => ?_)
  · obtain ⟨S2, c1, fr, e7, sg, us⟩ := LA
    obtain ⟨n8, -, nal⟩ := LN_all (q := tq b n) 8 0 rfl
    have lk := LK_ok N.end_ (LN (tq b n))
    have K2 := N.1
    have S3 : Sh (ma_set h2 0 (.inr (11, [.ref 34, .ref 57, .int (fi h2 0 2), .ref 1, .int 0, .ref 2, .ref 7, .ref 11, .int (fi h2 0 8), .ref 18, .ref 23, .ref 24, .ref 25, .ref 26, .ref 27, .ref 29, .ref 30, .ref 31]))) := sh_set S2 rfl
    have q34 : (ma_set h2 0 (.inr (11, [.ref 34, .ref 57, .int (fi h2 0 2), .ref 1, .int 0, .ref 2, .ref 7, .ref 11, .int (fi h2 0 8), .ref 18, .ref 23, .ref 24, .ref 25, .ref 26, .ref 27, .ref 29, .ref 30, .ref 31]))).2.1 34 = h2.2.1 34 := ma_set_ne _ _ (by decide)
    have q49 : (ma_set h2 0 (.inr (11, [.ref 34, .ref 57, .int (fi h2 0 2), .ref 1, .int 0, .ref 2, .ref 7, .ref 11, .int (fi h2 0 8), .ref 18, .ref 23, .ref 24, .ref 25, .ref 26, .ref 27, .ref 29, .ref 30, .ref 31]))).2.1 49 = h2.2.1 49 := ma_set_ne _ _ (by decide)
    refine go 60 (by decide) ?_
    simp only [KX, KY, KZ, KW, KV, Nat.reduceAdd, Nat.reduceSub, Nat.reduceLeDiff, true_and, and_true, true_or, or_true, or_self, reduceCtorEq, if_true, if_false, not_false_eq_true, eq_self, c104, S2.e0, S2.e34, q34, q49, S2.e49, ma_set_at, List.set_cons_succ, List.set_cons_zero]
    refine ⟨by simp only [List.length_cons, List.length_nil]; omega, trivial, ?_⟩
    rw [if_pos (show (-1 : Int32) < 0 by decide)]
    try (refine go 60 (by decide) ?_; simp only [KX, KY, KZ, KW, KV, Nat.reduceAdd, Nat.reduceSub, Nat.reduceLeDiff, true_and, and_true, true_or, or_true, or_self, reduceCtorEq, if_true, if_false, not_false_eq_true, eq_self, c104, S2.e0, S2.e34, q34, q49, S2.e49, ma_set_at, List.set_cons_succ, List.set_cons_zero])
    have fin : ∀ h4, Sh h4 → fi h4 49 0 = nI (LN (tq b n)) → Q (some (.int (nI (LN (tq b n))))) h4 → At 104 Q 25 (0, 0) [some (.ref 0), some (.int (-1))] [] h4 := by
      intro h4 S4 e49 k4
      refine go 60 (by decide) ?_
      simp only [KX, KY, KZ, KW, KV, Nat.reduceAdd, Nat.reduceSub, Nat.reduceLeDiff, true_and, and_true, true_or, or_true, or_self, reduceCtorEq, if_true, if_false, not_false_eq_true, eq_self, c104, S4.e0, S4.e34, S4.e49]
      rw [e49]
      exact k4
    refine s53l S3 ?_
    refine fin _ ?_ ?_ ?_
    · exact sh_set (sh_set (sh_set (sh_set S3 rfl) rfl) rfl) rfl
    · exact congrArg (fun c => fiC c 0) e7
    · refine kA _ K N f ?_ c1 ?_ ?_ ?_ rfl ?_ ?_ ?_
      · exact sh_set (sh_set (sh_set (sh_set S3 rfl) rfl) rfl) rfl
      · exact fun a a0 a1 a2 => (ma_set_ne _ _ (by omega)).trans ((ma_set_ne _ _ (by omega)).trans ((ma_set_ne _ _ (by omega)).trans ((ma_set_ne _ _ (by omega)).trans ((ma_set_ne _ _ a0).trans (fr a a1)))))
      · exact fi_c (fr 0 (by decide)) 2
      · exact fi_c (fr 0 (by decide)) 8
      · exact congrArg (fun c => fiC c 0) e7
      · exact seg_c sg (by rw [List.length_map]; omega) (fun i hi => sb_cpy0 (n := 200) hi)
      · exact fun j hj => ⟨(sb_cpy0 (n := 8) (Nat.lt_of_lt_of_le hj n8)).trans (us j hj).1, (sb_cpy0 (n := 8) (Nat.lt_of_lt_of_le hj n8)).trans (us j hj).2⟩
  · obtain ⟨S2, c1, fr⟩ := LX
    have pl := Ps_le (b := b) (n := n) (LF (tq b n))
    refine go 60 (by decide) ?_
    simp only [KX, KY, KZ, KW, KV, Nat.reduceAdd, Nat.reduceSub, Nat.reduceLeDiff, true_and, and_true, true_or, or_true, or_self, reduceCtorEq, if_true, if_false, not_false_eq_true, eq_self, c104, S2.e0, ma_set_at, List.set_cons_succ, List.set_cons_zero]
    refine ⟨by simp only [List.length_cons, List.length_nil]; omega, trivial, ?_⟩
    rw [if_neg (nI_pos (by omega))]
    try (refine go 60 (by decide) ?_; simp only [KX, KY, KZ, KW, KV, Nat.reduceAdd, Nat.reduceSub, Nat.reduceLeDiff, true_and, and_true, true_or, or_true, or_self, reduceCtorEq, if_true, if_false, not_false_eq_true, eq_self, c104, S2.e0, ma_set_at, List.set_cons_succ, List.set_cons_zero])
    refine kX _ K N f (sh_set S2 rfl) c1 (fun a a0 a1 => (ma_set_ne _ _ a0).trans (fr a a1)) (show fi h2 0 2 = fi h 0 2 from fi_c (fr 0 (by decide)) 2) (show fi h2 0 8 = fi h 0 8 from fi_c (fr 0 (by decide)) 8) rfl
theorem p104 {h : ma_H} (I : Inv h) : Pair h 104 191 [] := by
  intro Q k
  obtain ⟨n, n2, e1, e2, r1, r2⟩ := I.rp
  have hb : ∀ i, ∃ c, c < 256 ∧ ai h 1 i = sb c ∧ ai h 1 i &&& 255 = nI c := fun i => i8_all (r2 i)
  obtain ⟨b, B⟩ : ∃ b : Nat → Nat, ∀ i, b i < 256 ∧ ai h 1 i = sb (b i) ∧ ai h 1 i &&& 255 = nI (b i) := ⟨fun i => Classical.choose (hb i), fun i => Classical.choose_spec (hb i)⟩
  have eb := fun i => (B i).2.1
  have b2 := fun i => (B i).1
  have hq : ∀ k, tq b n k < 4006 := fun k => qt_lt b2 n _
  refine s104 I.sh e1 n2 eb b2 (fun h2 K N f S2 c1 fr f02 f08 f04 e49 sg us => ?_) (fun h2 K N f S2 c1 fr f02 f08 f04 => ?_)
  · refine k _ _ (e80_S S2) fun Q2 k2 => ?_
    have X : ∀ g, MX (ma_set h2 99 (.inl (.int, 24, .inl g))) b n := fun g => ⟨sh_set S2 rfl, (fi_ne _ _ _ (by decide)).trans ((fi_c (fr 80 (by decide) (by decide) (by decide)) 18).trans e2), n2, fun i hi => by rw [ai_ne _ _ (by decide), ai_c (fr 94 (by decide) (by decide) (by decide)), r1 i hi]; exact (B i).2.2, b2⟩
    refine y191 S2 X N (fun ne => absurd f ne) (fun _ h3 M e14 e28 l2 sg2 C => ?_)
    obtain ⟨S3, c3, fr3, g9, g11, g12, g41, g53, g55, g18⟩ := M
    obtain ⟨n8, -, nal⟩ := LN_all (q := tq b n) 8 0 rfl
    have n8 : LN (tq b n) ≤ 8 := n8
    refine d191 S3 e28 l2 e14 (k2 _ ?_)
    refine I.law (hh := ma_set (ma_set h3 92 (.inl (.int, 24, .inl (upN (ai h3 92) (fun c => c) (ai h3 99) 24)))) 93 (.inl (.int, 200, .inl (upN (ai h3 93) (fun c => c) (ai h3 96) (tms (LM (tq b n) (LN (tq b n)))).length)))) (sh_set (sh_set S3 rfl) rfl) (c3.trans c1) (fun a a0 a1 a2 a3 a4 a5 a6 a7 a8 => (ma_set_ne _ _ a5).trans ((ma_set_ne _ _ a4).trans ((fr3 a a3 a6 a7 a8).trans (fr a a0 a1 a2)))) ?_ ?_ ?_ ?_ ?_ ?_ ?_ ?_ ?_ g18 ?_
    · exact (fi_c (fr3 0 (by decide) (by decide) (by decide) (by decide)) 2).trans f02
    · exact (fi_c (fr3 0 (by decide) (by decide) (by decide) (by decide)) 8).trans f08
    · exact (fi_c (fr3 0 (by decide) (by decide) (by decide) (by decide)) 4).trans f04
    · exact g9.trans (fi_c (fr 80 (by decide) (by decide) (by decide)) 9)
    · exact g11.trans (fi_c (fr 80 (by decide) (by decide) (by decide)) 11)
    · exact g12.trans (fi_c (fr 80 (by decide) (by decide) (by decide)) 12)
    · exact g41.trans (fi_c (fr 80 (by decide) (by decide) (by decide)) 41)
    · exact g53.trans (fi_c (fr 80 (by decide) (by decide) (by decide)) 53)
    · exact g55.trans (fi_c (fr 80 (by decide) (by decide) (by decide)) 55)
    · refine mkWl hq N.end_ N.1 ((fi_c (fr3 49 (by decide) (by decide) (by decide) (by decide)) 0).trans e49) e14 ?_ (fun j hj => ?_) (fun j hj => ?_) ?_ l2
      · exact seg_c sg (n := 200) (by rw [List.length_map]; have := LK_ok N.end_ (LN (tq b n)); have := N.1; omega) (fun i _ => congrFun (ai_c (fr3 52 (by decide) (by decide) (by decide) (by decide))) i)
      · exact ⟨(congrFun (ai_c (fr3 50 (by decide) (by decide) (by decide) (by decide))) j).trans (us j hj).1, (congrFun (ai_c (fr3 51 (by decide) (by decide) (by decide) (by decide))) j).trans (us j hj).2⟩
      · obtain ⟨x1, x2, x3⟩ := C j hj
        exact ⟨(upN_at (p := fun c => c) 24 (fun a b _ _ e => e) _ (by omega)).trans x1, (upN_at (p := fun c => c) 24 (fun a b _ _ e => e) _ (by omega)).trans x2, (upN_at (p := fun c => c) 24 (fun a b _ _ e => e) _ (by omega)).trans x3⟩
      · exact seg_c sg2 (Nat.le_refl _) (fun i hi => upN_at (p := fun c => c) _ (fun a b _ _ e => e) i hi)
  · refine k _ _ (e80_S S2) fun Q2 k2 => ?_
    have X : ∀ g, MX (ma_set h2 99 (.inl (.int, 24, .inl g))) b n := fun g => ⟨sh_set S2 rfl, (fi_ne _ _ _ (by decide)).trans ((fi_c (fr 80 (by decide) (by decide)) 18).trans e2), n2, fun i hi => by rw [ai_ne _ _ (by decide), ai_c (fr 94 (by decide) (by decide)), r1 i hi]; exact (B i).2.2, b2⟩
    refine y191 S2 X N (fun _ h3 M e14 => k2 _ ?_) (fun e => absurd e f)
    obtain ⟨S3, c3, fr3, g9, g11, g12, g41, g53, g55, g18⟩ := M
    refine I.law (hh := h3) S3 (c3.trans c1) (fun a a0 a1 a2 a3 a4 a5 a6 a7 a8 => (fr3 a a3 a6 a7 a8).trans (fr a a0 a1)) ?_ ?_ ?_ ?_ ?_ ?_ ?_ ?_ ?_ g18 ?_
    · exact (fi_c (fr3 0 (by decide) (by decide) (by decide) (by decide)) 2).trans f02
    · exact (fi_c (fr3 0 (by decide) (by decide) (by decide) (by decide)) 8).trans f08
    · exact (fi_c (fr3 0 (by decide) (by decide) (by decide) (by decide)) 4).trans f04
    · exact g9.trans (fi_c (fr 80 (by decide) (by decide)) 9)
    · exact g11.trans (fi_c (fr 80 (by decide) (by decide)) 11)
    · exact g12.trans (fi_c (fr 80 (by decide) (by decide)) 12)
    · exact g41.trans (fi_c (fr 80 (by decide) (by decide)) 41)
    · exact g53.trans (fi_c (fr 80 (by decide) (by decide)) 53)
    · exact g55.trans (fi_c (fr 80 (by decide) (by decide)) 55)
    · have x : Nl h := I.nl
      unfold Nl at x ⊢
      rw [(fi_c (fr3 49 (by decide) (by decide) (by decide) (by decide)) 0).trans (fi_c (fr 49 (by decide) (by decide)) 0), (ai_c (fr3 50 (by decide) (by decide) (by decide) (by decide))).trans (ai_c (fr 50 (by decide) (by decide))), (ai_c (fr3 51 (by decide) (by decide) (by decide) (by decide))).trans (ai_c (fr 51 (by decide) (by decide))), (ai_c (fr3 52 (by decide) (by decide) (by decide) (by decide))).trans (ai_c (fr 52 (by decide) (by decide))), (ai_c (fr3 92 (by decide) (by decide) (by decide) (by decide))).trans (ai_c (fr 92 (by decide) (by decide))), (ai_c (fr3 93 (by decide) (by decide) (by decide) (by decide))).trans (ai_c (fr 93 (by decide) (by decide))), e14.trans (fi_c (fr 80 (by decide) (by decide)) 14)]
      exact x
