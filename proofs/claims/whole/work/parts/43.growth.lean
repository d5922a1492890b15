/-! growth answers alike -/
theorem s116n {h : ma_H} {Q : ma_Q} {x y : Int32} (o : (x < 0 ∨ ¬ x ≤ 5) ∨ (y < 0 ∨ ¬ y ≤ 63)) (k : Q (some (.int (-1))) h) : ma_X 116 [.ref 0, .int x, .int y] h Q := by
  refine ma_enter (m := 116) (Or.inl (by decide)) (by show 3 ≤ mt_n 116; decide +kernel) ?_
  show At 116 Q 0 (6, 24) [some (.ref 0), some (.int x), some (.int y), none] [] h
  refine go 60 (by decide) ?_
  simp only [KX, KY, KZ, KW, KV, Nat.reduceAdd, Nat.reduceSub, Nat.reduceLeDiff, true_and, and_true, true_or, or_true, or_self, reduceCtorEq, if_true, if_false, not_false_eq_true, eq_self, c116]
  repeat' split
  all_goals first
    | exact k
    | (exfalso; rcases o with (o | o) | (o | o) <;> contradiction)
theorem s211n {h : ma_H} {Q : ma_Q} {x y : Int32} (o : (x < 0 ∨ ¬ x ≤ 5) ∨ (y < 0 ∨ ¬ y ≤ 63)) (k : Q (some (.int (-1))) h) : ma_X 211 [.ref 80, .int x, .int y] h Q := by
  refine ma_enter (m := 211) (Or.inl (by decide)) (by show 3 ≤ mt_n 211; decide +kernel) ?_
  show At 211 Q 0 (mt_c 211) [some (.ref 80), some (.int x), some (.int y)] [] h
  refine go 60 (by decide) ?_
  simp only [KX, KY, KZ, KW, KV, Nat.reduceAdd, Nat.reduceSub, Nat.reduceLeDiff, true_and, and_true, true_or, or_true, or_self, reduceCtorEq, if_true, if_false, not_false_eq_true, eq_self, c211]
  by_cases ox : x < 0 ∨ ¬ x ≤ 5
  · refine s162n ox ?_
    refine go 60 (by decide) ?_
    simp only [KX, KY, KZ, KW, KV, Nat.reduceAdd, Nat.reduceSub, Nat.reduceLeDiff, true_and, and_true, true_or, or_true, or_self, reduceCtorEq, if_true, if_false, not_false_eq_true, eq_self, c211]
    exact k
  · refine s162y (fun w => ox (Or.inl w)) (Decidable.byContradiction fun w => ox (Or.inr w)) ?_
    refine go 60 (by decide) ?_
    simp only [KX, KY, KZ, KW, KV, Nat.reduceAdd, Nat.reduceSub, Nat.reduceLeDiff, true_and, and_true, true_or, or_true, or_self, reduceCtorEq, if_true, if_false, not_false_eq_true, eq_self, c211]
    refine s162n (o.resolve_left ox) ?_
    refine go 60 (by decide) ?_
    simp only [KX, KY, KZ, KW, KV, Nat.reduceAdd, Nat.reduceSub, Nat.reduceLeDiff, true_and, and_true, true_or, or_true, or_self, reduceCtorEq, if_true, if_false, not_false_eq_true, eq_self, c211]
    exact k
theorem s116f {h : ma_H} {Q : ma_Q} {x y : Int32} {kk a : Nat} (hk : kk < 6) (ha : a < 64) (q : x = nI kk) (q2 : y = nI a) (H : Sh h) (e : fi h 34 2 = nI 6) (k : Q (some (.int (-2))) h) : ma_X 116 [.ref 0, .int x, .int y] h Q := by
  have x1 : ¬ x < 0 := by subst q; exact nI_pos (by omega)
  have x2 : x ≤ 5 := by subst q; exact nI_le (a := kk) (b := 5) (by omega) (by decide)
  have y1 : ¬ y < 0 := by subst q2; exact nI_pos (by omega)
  have y2 : y ≤ 63 := by subst q2; exact nI_le (a := a) (b := 63) (by omega) (by decide)
  refine ma_enter (m := 116) (Or.inl (by decide)) (by show 3 ≤ mt_n 116; decide +kernel) ?_
  show At 116 Q 0 (6, 24) [some (.ref 0), some (.int x), some (.int y), none] [] h
  refine go 60 (by decide) ?_
  simp only [KX, KY, KZ, KW, KV, Nat.reduceAdd, Nat.reduceSub, Nat.reduceLeDiff, true_and, and_true, true_or, or_true, or_self, reduceCtorEq, if_true, if_false, not_false_eq_true, eq_self, c116, H.e0, H.e34, H.e48, e]
  rw [if_neg x1, if_pos x2, if_neg y1, if_pos y2]
  first
    | exact k
    | (rw [if_neg (show ¬ nI 6 < nI 6 from nI_nlt (Nat.le_refl _) (by decide))]; exact k)
theorem s211f {h : ma_H} {Q : ma_Q} {x y : Int32} {kk a : Nat} (hk : kk < 6) (ha : a < 64) (q : x = nI kk) (q2 : y = nI a) (H : Sh h) (e : fi h 80 9 = nI 6) (k : Q (some (.int (-2))) h) : ma_X 211 [.ref 80, .int x, .int y] h Q := by
  have x1 : ¬ x < 0 := by subst q; exact nI_pos (by omega)
  have x2 : x ≤ 5 := by subst q; exact nI_le (a := kk) (b := 5) (by omega) (by decide)
  have y1 : ¬ y < 0 := by subst q2; exact nI_pos (by omega)
  have y2 : y ≤ 63 := by subst q2; exact nI_le (a := a) (b := 63) (by omega) (by decide)
  refine ma_enter (m := 211) (Or.inl (by decide)) (by show 3 ≤ mt_n 211; decide +kernel) ?_
  show At 211 Q 0 (mt_c 211) [some (.ref 80), some (.int x), some (.int y)] [] h
  refine go 60 (by decide) ?_
  simp only [KX, KY, KZ, KW, KV, Nat.reduceAdd, Nat.reduceSub, Nat.reduceLeDiff, true_and, and_true, true_or, or_true, or_self, reduceCtorEq, if_true, if_false, not_false_eq_true, eq_self, c211]
  refine s162y x1 x2 ?_
  refine go 60 (by decide) ?_
  simp only [KX, KY, KZ, KW, KV, Nat.reduceAdd, Nat.reduceSub, Nat.reduceLeDiff, true_and, and_true, true_or, or_true, or_self, reduceCtorEq, if_true, if_false, not_false_eq_true, eq_self, c211]
  refine s162y y1 y2 ?_
  refine go 60 (by decide) ?_
  simp only [KX, KY, KZ, KW, KV, Nat.reduceAdd, Nat.reduceSub, Nat.reduceLeDiff, true_and, and_true, true_or, or_true, or_self, reduceCtorEq, if_true, if_false, not_false_eq_true, eq_self, c211, H.e80, e]
  first
    | exact k
    | (rw [if_pos (show nI 6 = 6 from rfl)]; exact k)
theorem s116 {h : ma_H} {Q : ma_Q} {x y : Int32} {kk a : Nat} (hk : kk < 6) (ha : a < 64) (q : x = nI kk) (q2 : y = nI a) {n : Nat} (H : Sh h) (hn : n < 6) (e : fi h 34 2 = nI n) (k : Q (some (.int (nI n))) (ma_set (ma_set (ma_new h (.inr (g_cls kk, [.int (nI kk), .int (nI n), .int (nI a), .ref 27]))) 48 (.inl (.object "FlakeArms$Growth", 6, .inr (.inr (.inr (.inr (va_up (ar h 48) n (some h.1)))))))) 34 (.inr (10, [.ref 35, .ref 48, .int (nI (n + 1)), .ref 49, .ref 53, .ref 54, .int (fi h 34 6), .int (fi h 34 7), .ref 55, .ref 56])))) : ma_X 116 [.ref 0, .int x, .int y] h Q := by
  have x1 : ¬ x < 0 := by subst q; exact nI_pos (by omega)
  have x2 : x ≤ 5 := by subst q; exact nI_le (a := kk) (b := 5) (by omega) (by decide)
  have y1 : ¬ y < 0 := by subst q2; exact nI_pos (by omega)
  have y2 : y ≤ 63 := by subst q2; exact nI_le (a := a) (b := 63) (by omega) (by decide)
  have h115 := H.1
  have N : ∀ (c : ma_C) {b : Nat}, b < 115 → (ma_new h c).2.1 b = h.2.1 b := fun c b hb => ma_new_ne _ _ (by omega)
  refine ma_enter (m := 116) (Or.inl (by decide)) (by show 3 ≤ mt_n 116; decide +kernel) ?_
  show At 116 Q 0 (6, 24) [some (.ref 0), some (.int x), some (.int y), none] [] h
  refine go 60 (by decide) ?_
  simp only [KX, KY, KZ, KW, KV, Nat.reduceAdd, Nat.reduceSub, Nat.reduceLeDiff, true_and, and_true, true_or, or_true, or_self, reduceCtorEq, if_true, if_false, not_false_eq_true, eq_self, c116, H.e0, H.e34, H.e48, H.e27, e]
  rw [if_neg x1, if_pos x2, if_neg y1, if_pos y2, if_pos (nI_lt hn (by decide))]
  refine s39 hk q ?_
  have n0 : ∀ c, (ma_new h c).2.1 0 = _ := fun c => (N c (by decide)).trans H.e0
  have n34 : ∀ c, (ma_new h c).2.1 34 = _ := fun c => (N c (by decide)).trans H.e34
  have n48 : ∀ c, (ma_new h c).2.1 48 = _ := fun c => (N c (by decide)).trans H.e48
  subst q2
  refine go 60 (by decide) ?_
  simp only [KX, KY, KZ, KW, KV, Nat.reduceAdd, Nat.reduceSub, Nat.reduceLeDiff, true_and, and_true, true_or, or_true, or_self, reduceCtorEq, if_true, if_false, not_false_eq_true, eq_self, c116, n0, n34, n48, ma_new_at, e, ma_get, Nat.reduceEqDiff, ↓reduceIte, Int32.reduceLT, Int32.reduceLE]
  rw [nI_clamp (by omega), nI_1]
  simp only [List.set_cons_succ, List.set_cons_zero]
  exact ⟨Or.inr (g_gk kk hk), nI_in hn (by decide), by simp only [List.length_cons, List.length_nil]; omega, trivial, k⟩
/-- the Model's fields -/
def mO (h : ma_H) : List Value := [.ref 81, .ref 82, .ref 83, .ref 84, .ref 85, .ref 86, .ref 87, .ref 88, .ref 89, .int (fi h 80 9), .ref 90, .int (fi h 80 11), .int (fi h 80 12), .ref 91, .int (fi h 80 14), .ref 92, .ref 93, .ref 94, .int (fi h 80 18), .int (fi h 80 19), .int (fi h 80 20), .int (fi h 80 21), .long (fj h 80 22), .int (fi h 80 23), .int (fi h 80 24), .ref 95, .ref 96, .ref 97, .int (fi h 80 28), .int (fi h 80 29), .int (fi h 80 30), .ref 98, .ref 99, .ref 100, .ref 101, .long (fj h 80 35), .long (fj h 80 36), .ref 102, .ref 103, .ref 104, .ref 105, .int (fi h 80 41), .int (fi h 80 42), .ref 106, .ref 107, .ref 108, .ref 109, .ref 110, .ref 111, .int (fi h 80 49), .int (fi h 80 50), .int (fi h 80 51), .ref 112, .int (fi h 80 53), .int (fi h 80 54), .int (fi h 80 55), .ref 113, .int (fi h 80 57), .ref 114]
theorem s211 {h : ma_H} {Q : ma_Q} {x y : Int32} {kk a : Nat} (hk : kk < 6) (ha : a < 64) (q : x = nI kk) (q2 : y = nI a) {n : Nat} (H : Sh h) (hn : n < 6) (e : fi h 80 9 = nI n) (k : Q (some (.int (nI n))) (ma_set (ma_set h 90 (.inl (.int, 12, .inl (upd (upd (ai h 90) (2 * n) (nI kk)) (2 * n + 1) (nI a))))) 80 (.inr (12, (mO h).set 9 (.int (nI (n + 1))))))) : ma_X 211 [.ref 80, .int x, .int y] h Q := by
  have x1 : ¬ x < 0 := by subst q; exact nI_pos (by omega)
  have x2 : x ≤ 5 := by subst q; exact nI_le (a := kk) (b := 5) (by omega) (by decide)
  have y1 : ¬ y < 0 := by subst q2; exact nI_pos (by omega)
  have y2 : y ≤ 63 := by subst q2; exact nI_le (a := a) (b := 63) (by omega) (by decide)
  subst q q2
  have i1 := ix1 12 (by decide) (show nI n = nI n from rfl) (by omega)
  have i2 := ix2 1 12 (by decide) (show nI n = nI n from rfl) (by omega)
  refine ma_enter (m := 211) (Or.inl (by decide)) (by show 3 ≤ mt_n 211; decide +kernel) ?_
  show At 211 Q 0 (mt_c 211) [some (.ref 80), some (.int (nI kk)), some (.int (nI a))] [] h
  refine go 60 (by decide) ?_
  simp only [KX, KY, KZ, KW, KV, Nat.reduceAdd, Nat.reduceSub, Nat.reduceLeDiff, true_and, and_true, true_or, or_true, or_self, reduceCtorEq, if_true, if_false, not_false_eq_true, eq_self, c211]
  refine s162y x1 x2 ?_
  refine go 60 (by decide) ?_
  simp only [KX, KY, KZ, KW, KV, Nat.reduceAdd, Nat.reduceSub, Nat.reduceLeDiff, true_and, and_true, true_or, or_true, or_self, reduceCtorEq, if_true, if_false, not_false_eq_true, eq_self, c211]
  refine s162y y1 y2 ?_
  refine go 60 (by decide) ?_
  simp only [KX, KY, KZ, KW, KV, Nat.reduceAdd, Nat.reduceSub, Nat.reduceLeDiff, true_and, and_true, true_or, or_true, or_self, reduceCtorEq, if_true, if_false, not_false_eq_true, eq_self, c211, H.e80, H.e90, e, List.set_cons_succ, List.set_cons_zero, ma_get, Nat.reduceEqDiff, ↓reduceIte, Int32.reduceLT, Int32.reduceLE]
  rw [if_neg (show ¬ nI n = 6 from fun w => absurd ((nI_eq (by omega) (by decide)).mp (show nI n = nI 6 from w)) (by omega))]
  rw [nI_1, nI_pred]
  rw [show (2 * nI n + 1 : Int32).toNatClampNeg = 2 * n + 1 from i2.2, i1.2, ma_set_set]
  exact ⟨i1.1, i2.1, by simp only [List.length_cons, List.length_nil]; omega, trivial, k⟩
theorem Ng.push {h : ma_H} (N : Ng h) {n kk a : Nat} (hn : n < 6) (e : fi h 34 2 = nI n) (hk : kk < 6) (ha : a < 64) {h1 : ma_H} (h1n : h1.1 = h.1 + 1) (e1 : ∀ r, 115 ≤ r → r < h.1 → h1.2.1 r = h.2.1 r) (e2 : h1.2.1 h.1 = g_obj kk n a) (e3 : ar h1 48 = va_up (ar h 48) n (some h.1)) (e4 : fi h1 34 2 = nI (n + 1)) (e5 : fi h1 80 9 = nI (n + 1)) (e6 : ai h1 90 = upd (upd (ai h 90) (2 * n) (nI kk)) (2 * n + 1) (nI a)) (h115 : 115 ≤ h.1) : Ng h1 := by
  obtain ⟨⟨m, m6, b1, b2, b3⟩, b4⟩ := N
  have em : m = n := (nI_eq (by omega) (by omega)).mp (b1.symm.trans e)
  subst em
  refine ⟨⟨m + 1, by omega, e4, e5, fun i hi => ?_⟩, fun i hi => ?_⟩
  · by_cases c : i = m
    · subst c
      refine ⟨h.1, kk, a, ?_, h115, by omega, hk, ha, e2, ?_, ?_⟩
      · rw [e3]; exact if_pos rfl
      · rw [e6]; unfold upd; rw [if_neg (by omega), if_pos rfl]
      · rw [e6]; exact if_pos rfl
    · obtain ⟨r, k, a', x1, x2, x3, x4, x5, x6, x7, x8⟩ := b3 i (by omega)
      refine ⟨r, k, a', ?_, x2, by omega, x4, x5, (e1 r x2 x3).trans x6, ?_, ?_⟩
      · rw [e3]; exact (if_neg c).trans x1
      · rw [e6]; unfold upd; rw [if_neg (by omega), if_neg (by omega)]; exact x7
      · rw [e6]; unfold upd; rw [if_neg (by omega), if_neg (by omega)]; exact x8
  · by_cases c : i = m
    · subst c
      exact Or.inr ⟨h.1, kk, i, a, by rw [e3]; exact if_pos rfl, h115, by omega, hk, e2⟩
    · rcases b4 i hi with x | ⟨r, k, j, a', x1, x2, x3, x4, x5⟩
      · exact Or.inl (by rw [e3]; exact (if_neg c).trans x)
      · exact Or.inr ⟨r, k, j, a', by rw [e3]; exact (if_neg c).trans x1, x2, by omega, x4, (e1 r x2 x3).trans x5⟩
theorem Inv.new {h : ma_H} (I : Inv h) (c : ma_C) : Inv (ma_new h c) := by
  have h115 := I.sh.1
  exact ⟨sh_new I.sh c, (I.rr.cong (fun a ha => by simp (disch := omega) only [ma_new_ne])), (I.rt.cong (fun a ha => by simp (disch := omega) only [ma_new_ne])), ⟨(I.nf.cong (fun a ha => by simp (disch := omega) only [ma_new_ne])), (I.ng.cong (Nat.le_succ _) (fun a ha => by simp (disch := omega) only [ma_new_ne])), (I.nm.cong (fun a ha => by simp (disch := omega) only [ma_new_ne])), (I.na.cong (fun a ha => by simp (disch := omega) only [ma_new_ne])), (I.nl.cong (fun a ha => by simp (disch := omega) only [ma_new_ne]))⟩, (I.rk.cong (Nat.le_succ _) (fun a ha => by simp (disch := omega) only [ma_new_ne])), (I.rp.cong (fun a ha => by simp (disch := omega) only [ma_new_ne])), (I.rw.cong (fun a ha => by simp (disch := omega) only [ma_new_ne])), (I.rs.cong (fun a ha => by simp (disch := omega) only [ma_new_ne])), (I.rv.cong (fun a ha => by simp (disch := omega) only [ma_new_ne])), (I.ra.cong (fun a ha => by simp (disch := omega) only [ma_new_ne])), (I.rc.cong (fun a ha => by simp (disch := omega) only [ma_new_ne]))⟩
theorem p116 {h : ma_H} {x y : Int32} (I : Inv h) : Pair h 116 211 [.int x, .int y] := by
  intro Q k
  have bad : ((x < 0 ∨ ¬ x ≤ 5) ∨ (y < 0 ∨ ¬ y ≤ 63)) → ma_X 116 [.ref 0, .int x, .int y] h Q := fun o => s116n o (k _ _ (by repeat (first | exact e80_I I | exact e80_S (by assumption) | exact e80_I (by assumption) | exact e80_n I.sh | refine e80_s (by omega) ?_)) fun Q2 k2 => s211n o (k2 _ I))
  obtain ⟨n, n6, e1, e2, -⟩ := I.ng.at
  rcases icasB x 5 (by decide) with ⟨kk, hk, q, -⟩ | ⟨o1, -⟩
  · rcases icasB y 63 (by decide) with ⟨a, ha, q2, -⟩ | ⟨o1, -⟩
    · by_cases c : n = 6
      · subst c
        exact s116f hk ha q q2 I.sh e1 (k _ _ (by repeat (first | exact e80_I I | exact e80_S (by assumption) | exact e80_I (by assumption) | exact e80_n I.sh | refine e80_s (by omega) ?_)) fun Q2 k2 => s211f hk ha q q2 I.sh e2 (k2 _ I))
      · have h115 := I.sh.1
        refine s116 hk ha q q2 I.sh (by omega) e1 (k _ _ (by repeat (first | exact e80_I I | exact e80_S (by assumption) | exact e80_I (by assumption) | exact e80_n I.sh | refine e80_s (by omega) ?_)) fun Q2 k2 => ?_)
        have H1 := sh_set (sh_set (sh_new I.sh (.inr (g_cls kk, [.int (nI kk), .int (nI n), .int (nI a), .ref 27]))) (a := 48) (c := .inl (.object "FlakeArms$Growth", 6, .inr (.inr (.inr (.inr (va_up (ar h 48) n (some h.1))))))) rfl) (a := 34) (c := .inr (10, [.ref 35, .ref 48, .int (nI (n + 1)), .ref 49, .ref 53, .ref 54, .int (fi h 34 6), .int (fi h 34 7), .ref 55, .ref 56])) rfl
        have N : ∀ (c : ma_C) {b : Nat}, b < 115 → (ma_new h c).2.1 b = h.2.1 b := fun c b hb => ma_new_ne _ _ (by omega)
        refine s211 (n := n) hk ha q q2 H1 (by omega) (by rw [fi_ne _ _ _ (by decide), fi_ne _ _ _ (by decide)]; show fiC ((ma_new h _).2.1 80) 9 = _; rw [N _ (by decide)]; exact e2) ?_
        have In := I.new (.inr (g_cls kk, [.int (nI kk), .int (nI n), .int (nI a), .ref 27]))
        have f1 : ∀ i, fi (ma_new h (.inr (g_cls kk, [.int (nI kk), .int (nI n), .int (nI a), .ref 27]))) 34 i = fi h 34 i := fun i => by show fiC ((ma_new h _).2.1 34) i = _; rw [N _ (by decide)]
        refine k2 _ ⟨(sh_set (sh_set (sh_set (sh_set In.sh rfl) rfl) rfl) rfl), In.rr, In.rt, ⟨(In.nf.cong (fun a ha => by simp (disch := omega) only [ma_set_ne])), ?_, ?_, In.na, In.nl⟩, (In.rk.cong2 (Nat.le_refl _) rfl rfl (fun a ha => by simp (disch := omega) only [ma_set_ne])), In.rp, (In.rw.cong2 rfl rfl (fun a ha => by simp (disch := omega) only [ma_set_ne])), (In.rs.cong (fun a ha => by simp (disch := omega) only [ma_set_ne])), In.rv, In.ra, In.rc⟩
        · refine Ng.push (n := n) I.ng (by omega) e1 hk ha rfl (fun r r1 r2 => by simp (disch := omega) only [ma_set_ne, ma_new_ne]) (by simp (disch := omega) only [ma_set_ne]; exact ma_new_at _ _) ?_ rfl rfl ?_ h115
          · rfl
          · show upd (upd (aiC ((ma_new h _).2.1 90)) _ _) _ _ = _
            rw [N _ (by decide)]
        · have nm := In.nm
          unfold Nm at nm ⊢
          rw [f1, f1] at nm
          exact nm
    · exact bad (Or.inr o1)
  · exact bad (Or.inl o1)
