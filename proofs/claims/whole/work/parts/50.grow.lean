/-! grow answers alike -/
theorem garr_eq {K : Nat → Int32} {ms z mn : Int32} {g m : Nat → Int32} {A : Nat} (e : ∀ i, i < 91 → g (ma_cell i) = m (A + i)) : ∀ n, n ≤ 91 → ∀ i, i < 91 → garr K ms z mn ma_cell g n (ma_cell i) = garr K ms z mn (fun c => A + c) m n (A + i)
  | 0, _, i, hi => e i hi
  | n + 1, hn, i, hi => by
    have ih := garr_eq (K := K) (ms := ms) (z := z) (mn := mn) e n (by omega) i hi
    show (if gfl K ms z n = 0 then garr K ms z mn ma_cell g n else upd (garr K ms z mn ma_cell g n) (ma_cell n) mn) (ma_cell i) = (if gfl K ms z n = 0 then garr K ms z mn (fun c => A + c) m n else upd (garr K ms z mn (fun c => A + c) m n) (A + n) mn) (A + i)
    split
    · exact ih
    · unfold upd
      by_cases c : i = n
      · subst c
        rw [if_pos rfl, if_pos rfl]
      · rw [if_neg (fun x => c (cell_inj i hi n (by omega) x)), if_neg (by omega)]
        exact ih
theorem garr_ok {K : Nat → Int32} {ms z mn : Int32} {g : Nat → Int32} (hm : mn ≠ -2) (ok : fl_ok g) : ∀ n, n ≤ 91 → fl_ok (garr K ms z mn ma_cell g n)
  | 0, _ => ok
  | n + 1, hn => by
    have ih := garr_ok (K := K) (ms := ms) (z := z) hm ok n (by omega)
    show fl_ok (if gfl K ms z n = 0 then garr K ms z mn ma_cell g n else upd (garr K ms z mn ma_cell g n) (ma_cell n) mn)
    split
    · exact ih
    · exact fl_upd_ok ih (by omega) hm
theorem garr_b {K : Nat → Int32} {ms z mn : Int32} {p : Nat → Nat} {m : Nat → Int32} (hm : ¬ mn < 0) {j : Nat} (b : m j = -1 ∨ ¬ m j < 0) : ∀ n, garr K ms z mn p m n j = -1 ∨ ¬ garr K ms z mn p m n j < 0
  | 0 => b
  | n + 1 => by
    have ih := garr_b (K := K) (ms := ms) (z := z) (p := p) hm b n
    show (if gfl K ms z n = 0 then garr K ms z mn p m n else upd (garr K ms z mn p m n) (p n) mn) j = -1 ∨ ¬ (if gfl K ms z n = 0 then garr K ms z mn p m n else upd (garr K ms z mn p m n) (p n) mn) j < 0
    split
    · exact ih
    · unfold upd
      split
      · exact Or.inr hm
      · exact ih
theorem garr_out {K : Nat → Int32} {ms z mn : Int32} {A : Nat} {m : Nat → Int32} {j : Nat} (w : ∀ i, i < 91 → j ≠ A + i) : ∀ n, n ≤ 91 → garr K ms z mn (fun c => A + c) m n j = m j
  | 0, _ => rfl
  | n + 1, hn => by
    have ih := garr_out (K := K) (ms := ms) (z := z) (mn := mn) (m := m) w n (by omega)
    show (if gfl K ms z n = 0 then garr K ms z mn (fun c => A + c) m n else upd (garr K ms z mn (fun c => A + c) m n) (A + n) mn) j = m j
    split
    · exact ih
    · unfold upd
      rw [if_neg (w n (by omega))]
      exact ih
theorem s119 {h : ma_H} {Q : ma_Q} {x y : Int32} {f n i r kk a : Nat} (H : Sh h) (R : Rr h) (hf : f < 4) (q : x = nI f) (e : fi h 34 2 = nI n) (n6 : n ≤ 6) (hi : i < n) (q2 : y = nI i) (er : ar h 48 i = some r) (r115 : 115 ≤ r) (hk : kk < 6) (eo : h.2.1 r = .inr (g_cls kk, [.int (nI kk), .int (nI i), .int (nI a), .ref 27])) (ok : fl_ok (ai h (37 + 3 * f))) (hmn : fi h (36 + 3 * f) 0 + 1 ≠ -2) (m60 : fi h (36 + 3 * f) 0 < 60) (k : Q (some (.int (su (gfl (fz (ai h (37 + 3 * f)) kk (nI a)) (fi h 34 6) (fi h 34 7)) 91))) (ma_set (ma_set (ma_set (ma_set h 55 (.inl (.int, 91, .inl (lf (fz (ai h (37 + 3 * f)) kk (nI a)) (ai h 55) 91).2))) (36 + 3 * f) (.inr (2, [.int (fi h (36 + 3 * f) 0 + 1), .ref (37 + 3 * f), .ref (38 + 3 * f)]))) 34 (.inr (10, [.ref 35, .ref 48, .int (fi h 34 2), .ref 49, .ref 53, .ref 54, .int (fi h 34 6), .int (gzz (fz (ai h (37 + 3 * f)) kk (nI a)) (fi h 34 6) (fi h 34 7) 91), .ref 55, .ref 56]))) (37 + 3 * f) (.inl (.int, 169, .inl (garr (fz (ai h (37 + 3 * f)) kk (nI a)) (fi h 34 6) (fi h 34 7) (fi h (36 + 3 * f) 0 + 1) ma_cell (ai h (37 + 3 * f)) 91))))) : ma_X 119 [.ref 0, .int x, .int y] h Q := by
  refine ma_enter (m := 119) (Or.inl (by decide)) (by show 3 ≤ mt_n 119; decide +kernel) ?_
  show At 119 Q 0 (mt_c 119) [some (.ref 0), some (.int x), some (.int y), none, none] [] h
  refine go 60 (by decide) ?_
  simp only [KX, KY, KZ, KW, KV, Nat.reduceAdd, Nat.reduceSub, Nat.reduceLeDiff, true_and, and_true, true_or, or_true, or_self, reduceCtorEq, if_true, if_false, not_false_eq_true, eq_self, c119, H.e0]
  refine s145e H R hf q ?_
  refine go 60 (by decide) ?_
  simp only [KX, KY, KZ, KW, KV, Nat.reduceAdd, Nat.reduceSub, Nat.reduceLeDiff, true_and, and_true, true_or, or_true, or_self, reduceCtorEq, if_true, if_false, not_false_eq_true, eq_self, c119, H.e0, H.e34]
  refine s95 H e n6 hi q2 er ?_
  refine go 60 (by decide) ?_
  simp only [KX, KY, KZ, KW, KV, Nat.reduceAdd, Nat.reduceSub, Nat.reduceLeDiff, true_and, and_true, true_or, or_true, or_self, reduceCtorEq, if_true, if_false, not_false_eq_true, eq_self, c119, H.e0, H.e34, (H.fn hf).1]
  rw [if_pos m60]
  refine s96 H hf ok hmn r115 hk eo ?_
  refine go 60 (by decide) ?_
  simp only [KX, KY, KZ, KW, KV, Nat.reduceAdd, Nat.reduceSub, Nat.reduceLeDiff, true_and, and_true, true_or, or_true, or_self, reduceCtorEq, if_true, if_false, not_false_eq_true, eq_self, c119]
  exact k
theorem s119m {h : ma_H} {Q : ma_Q} {x y : Int32} {f n i r kk a : Nat} (H : Sh h) (R : Rr h) (hf : f < 4) (q : x = nI f) (e : fi h 34 2 = nI n) (n6 : n ≤ 6) (hi : i < n) (q2 : y = nI i) (er : ar h 48 i = some r) (r115 : 115 ≤ r) (hk : kk < 6) (eo : h.2.1 r = .inr (g_cls kk, [.int (nI kk), .int (nI i), .int (nI a), .ref 27])) (m60 : ¬ fi h (36 + 3 * f) 0 < 60) (k : Q (some (.int (-4))) h) : ma_X 119 [.ref 0, .int x, .int y] h Q := by
  refine ma_enter (m := 119) (Or.inl (by decide)) (by show 3 ≤ mt_n 119; decide +kernel) ?_
  show At 119 Q 0 (mt_c 119) [some (.ref 0), some (.int x), some (.int y), none, none] [] h
  refine go 60 (by decide) ?_
  simp only [KX, KY, KZ, KW, KV, Nat.reduceAdd, Nat.reduceSub, Nat.reduceLeDiff, true_and, and_true, true_or, or_true, or_self, reduceCtorEq, if_true, if_false, not_false_eq_true, eq_self, c119, H.e0]
  refine s145e H R hf q ?_
  refine go 60 (by decide) ?_
  simp only [KX, KY, KZ, KW, KV, Nat.reduceAdd, Nat.reduceSub, Nat.reduceLeDiff, true_and, and_true, true_or, or_true, or_self, reduceCtorEq, if_true, if_false, not_false_eq_true, eq_self, c119, H.e0, H.e34]
  refine s95 H e n6 hi q2 er ?_
  refine go 60 (by decide) ?_
  simp only [KX, KY, KZ, KW, KV, Nat.reduceAdd, Nat.reduceSub, Nat.reduceLeDiff, true_and, and_true, true_or, or_true, or_self, reduceCtorEq, if_true, if_false, not_false_eq_true, eq_self, c119, H.e0, H.e34, (H.fn hf).1]
  rw [if_neg m60]
  exact k
theorem s119n {h : ma_H} {Q : ma_Q} {x y : Int32} {n : Nat} (H : Sh h) (R : Rr h) (e : fi h 34 2 = nI n) (n6 : n ≤ 6) (G : ∀ i, i < n → ∃ r, ar h 48 i = some r) (o : (x < 0 ∨ ¬ x < 4) ∨ (y < 0 ∨ ¬ y < nI n)) (k : Q (some (.int (-1))) h) : ma_X 119 [.ref 0, .int x, .int y] h Q := by
  refine ma_enter (m := 119) (Or.inl (by decide)) (by show 3 ≤ mt_n 119; decide +kernel) ?_
  show At 119 Q 0 (mt_c 119) [some (.ref 0), some (.int x), some (.int y), none, none] [] h
  refine go 60 (by decide) ?_
  simp only [KX, KY, KZ, KW, KV, Nat.reduceAdd, Nat.reduceSub, Nat.reduceLeDiff, true_and, and_true, true_or, or_true, or_self, reduceCtorEq, if_true, if_false, not_false_eq_true, eq_self, c119, H.e0]
  rcases icasB x 3 (by decide) with ⟨f, l, q, x1, x2, -⟩ | ⟨-, ox⟩
  · refine s145e H R l q ?_
    refine go 60 (by decide) ?_
    simp only [KX, KY, KZ, KW, KV, Nat.reduceAdd, Nat.reduceSub, Nat.reduceLeDiff, true_and, and_true, true_or, or_true, or_self, reduceCtorEq, if_true, if_false, not_false_eq_true, eq_self, c119, H.e0, H.e34]
    have oy := o.resolve_left (by rintro (w | w); exact x1 w; exact w x2)
    refine s95n H e oy ?_
    refine go 60 (by decide) ?_
    simp only [KX, KY, KZ, KW, KV, Nat.reduceAdd, Nat.reduceSub, Nat.reduceLeDiff, true_and, and_true, true_or, or_true, or_self, reduceCtorEq, if_true, if_false, not_false_eq_true, eq_self, c119]
    exact k
  · refine s145n H ox ?_
    refine go 60 (by decide) ?_
    simp only [KX, KY, KZ, KW, KV, Nat.reduceAdd, Nat.reduceSub, Nat.reduceLeDiff, true_and, and_true, true_or, or_true, or_self, reduceCtorEq, if_true, if_false, not_false_eq_true, eq_self, c119, H.e0, H.e34]
    rcases icasN y n (by omega) with ⟨i, hi, q, -⟩ | ⟨oy, -⟩
    · obtain ⟨r, er⟩ := G i hi
      refine s95 H e n6 hi q er ?_
      refine go 60 (by decide) ?_
      simp only [KX, KY, KZ, KW, KV, Nat.reduceAdd, Nat.reduceSub, Nat.reduceLeDiff, true_and, and_true, true_or, or_true, or_self, reduceCtorEq, if_true, if_false, not_false_eq_true, eq_self, c119]
      exact k
    · refine s95n H e oy ?_
      refine go 60 (by decide) ?_
      simp only [KX, KY, KZ, KW, KV, Nat.reduceAdd, Nat.reduceSub, Nat.reduceLeDiff, true_and, and_true, true_or, or_true, or_self, reduceCtorEq, if_true, if_false, not_false_eq_true, eq_self, c119]
      exact k
theorem s218 {h : ma_H} {Q : ma_Q} {f n gi kk a m : Nat} {x y : Int32} {g : Nat → Int32} (H : Sh h) (R : Rt h) (ok : fl_ok g) (eg : ∀ i, i < 91 → g (ma_cell i) = ai h 88 (91 * f + i)) (ha : a < 64) (hf : f < 4) (q : x = nI f) (q2 : y = nI gi) (e9 : fi h 80 9 = nI n) (n6 : n ≤ 6) (hg : gi < n) (hk : kk < 6) (ek : ai h 90 (2 * gi) = nI kk) (ea : ai h 90 (2 * gi + 1) = nI a) (hm : fi h 80 11 = nI m) (hm4 : m ≤ 4) (m60 : ¬ ai h 89 f = 60) (k : Q (some (.int (su (gfl (fz g kk (nI a)) (fi h 80 11) (fi h 80 12)) 91))) (ma_set (ma_set (ma_set (ma_set h 101 (.inl (.boolean, 91, .inl (upN (ai h 101) (fun c => c) (fz g kk (nI a)) 91)))) 89 (.inl (.int, 4, .inl (upd (ai h 89) f (ai h 89 f + 1))))) 80 (.inr (12, (mO h).set 12 (.int (gzz (fz g kk (nI a)) (fi h 80 11) (fi h 80 12) 91))))) 88 (.inl (.int, 910, .inl (garr (fz g kk (nI a)) (fi h 80 11) (fi h 80 12) (ai h 89 f + 1) (fun c => 91 * f + c) (ai h 88) 91))))) : ma_X 218 [.ref 80, .int x, .int y] h Q := by
  have y1 : ¬ y < 0 := by subst q2; exact nI_pos (by omega)
  have y2 : y ≤ nI n - 1 := by subst q2; obtain ⟨m, rfl⟩ : ∃ m, n = m + 1 := ⟨n - 1, by omega⟩; rw [nI_pred]; exact nI_le (by omega) (by omega)
  have tx : x.toNatClampNeg = f := by subst q; exact nI_clamp (by omega)
  have vx : vp_in x 4 := by subst q; exact nI_in hf (by decide)
  refine ma_enter (m := 218) (Or.inl (by decide)) (by show 3 ≤ mt_n 218; decide +kernel) ?_
  show At 218 Q 0 (mt_c 218) [some (.ref 80), some (.int x), some (.int y)] [] h
  refine go 60 (by decide) ?_
  simp only [KX, KY, KZ, KW, KV, Nat.reduceAdd, Nat.reduceSub, Nat.reduceLeDiff, true_and, and_true, true_or, or_true, or_self, reduceCtorEq, if_true, if_false, not_false_eq_true, eq_self, c218]
  refine s170y (by subst q; exact nI_pos (by omega)) (by subst q; exact nI_le (a := f) (b := 3) (by omega) (by decide)) ?_
  refine go 60 (by decide) ?_
  simp only [KX, KY, KZ, KW, KV, Nat.reduceAdd, Nat.reduceSub, Nat.reduceLeDiff, true_and, and_true, true_or, or_true, or_self, reduceCtorEq, if_true, if_false, not_false_eq_true, eq_self, c218, H.e80]
  refine s210y H e9 y1 y2 ?_
  refine go 60 (by decide) ?_
  simp only [KX, KY, KZ, KW, KV, Nat.reduceAdd, Nat.reduceSub, Nat.reduceLeDiff, true_and, and_true, true_or, or_true, or_self, reduceCtorEq, if_true, if_false, not_false_eq_true, eq_self, c218, H.e80, H.e89, tx]
  rw [if_neg m60]
  refine ⟨vx, ?_⟩
  refine s217 H R ok eg ha hf q q2 (by omega) hk ek ea hm hm4 ?_
  refine go 60 (by decide) ?_
  simp only [KX, KY, KZ, KW, KV, Nat.reduceAdd, Nat.reduceSub, Nat.reduceLeDiff, true_and, and_true, true_or, or_true, or_self, reduceCtorEq, if_true, if_false, not_false_eq_true, eq_self, c218]
  exact k
theorem s218m {h : ma_H} {Q : ma_Q} {f n gi : Nat} {x y : Int32} (H : Sh h) (hf : f < 4) (q : x = nI f) (q2 : y = nI gi) (e9 : fi h 80 9 = nI n) (n6 : n ≤ 6) (hg : gi < n) (m60 : ai h 89 f = 60) (k : Q (some (.int (-4))) h) : ma_X 218 [.ref 80, .int x, .int y] h Q := by
  have y1 : ¬ y < 0 := by subst q2; exact nI_pos (by omega)
  have y2 : y ≤ nI n - 1 := by subst q2; obtain ⟨m, rfl⟩ : ∃ m, n = m + 1 := ⟨n - 1, by omega⟩; rw [nI_pred]; exact nI_le (by omega) (by omega)
  have tx : x.toNatClampNeg = f := by subst q; exact nI_clamp (by omega)
  have vx : vp_in x 4 := by subst q; exact nI_in hf (by decide)
  refine ma_enter (m := 218) (Or.inl (by decide)) (by show 3 ≤ mt_n 218; decide +kernel) ?_
  show At 218 Q 0 (mt_c 218) [some (.ref 80), some (.int x), some (.int y)] [] h
  refine go 60 (by decide) ?_
  simp only [KX, KY, KZ, KW, KV, Nat.reduceAdd, Nat.reduceSub, Nat.reduceLeDiff, true_and, and_true, true_or, or_true, or_self, reduceCtorEq, if_true, if_false, not_false_eq_true, eq_self, c218]
  refine s170y (by subst q; exact nI_pos (by omega)) (by subst q; exact nI_le (a := f) (b := 3) (by omega) (by decide)) ?_
  refine go 60 (by decide) ?_
  simp only [KX, KY, KZ, KW, KV, Nat.reduceAdd, Nat.reduceSub, Nat.reduceLeDiff, true_and, and_true, true_or, or_true, or_self, reduceCtorEq, if_true, if_false, not_false_eq_true, eq_self, c218, H.e80]
  refine s210y H e9 y1 y2 ?_
  refine go 60 (by decide) ?_
  simp only [KX, KY, KZ, KW, KV, Nat.reduceAdd, Nat.reduceSub, Nat.reduceLeDiff, true_and, and_true, true_or, or_true, or_self, reduceCtorEq, if_true, if_false, not_false_eq_true, eq_self, c218, H.e80, H.e89, tx]
  rw [if_pos m60]
  exact ⟨vx, k⟩
theorem s218n {h : ma_H} {Q : ma_Q} {x y : Int32} {n : Nat} (H : Sh h) (e : fi h 80 9 = nI n) (o : (x < 0 ∨ ¬ x ≤ 3) ∨ (y < 0 ∨ ¬ y ≤ nI n - 1)) (k : Q (some (.int (-1))) h) : ma_X 218 [.ref 80, .int x, .int y] h Q := by
  refine ma_enter (m := 218) (Or.inl (by decide)) (by show 3 ≤ mt_n 218; decide +kernel) ?_
  show At 218 Q 0 (mt_c 218) [some (.ref 80), some (.int x), some (.int y)] [] h
  refine go 60 (by decide) ?_
  simp only [KX, KY, KZ, KW, KV, Nat.reduceAdd, Nat.reduceSub, Nat.reduceLeDiff, true_and, and_true, true_or, or_true, or_self, reduceCtorEq, if_true, if_false, not_false_eq_true, eq_self, c218]
  by_cases e1 : i_in x 0 3 = 0
  · refine s170 ?_
    rw [e1]
    refine go 60 (by decide) ?_
    simp only [KX, KY, KZ, KW, KV, Nat.reduceAdd, Nat.reduceSub, Nat.reduceLeDiff, true_and, and_true, true_or, or_true, or_self, reduceCtorEq, if_true, if_false, not_false_eq_true, eq_self, c218]
    exact k
  · refine s170 ?_
    rw [(i_in01n x 0 3).resolve_left e1]
    refine go 60 (by decide) ?_
    simp only [KX, KY, KZ, KW, KV, Nat.reduceAdd, Nat.reduceSub, Nat.reduceLeDiff, true_and, and_true, true_or, or_true, or_self, reduceCtorEq, if_true, if_false, not_false_eq_true, eq_self, c218, H.e80]
    refine s210n H e (o.resolve_left (fun z => e1 (i_in_no z))) ?_
    refine go 60 (by decide) ?_
    simp only [KX, KY, KZ, KW, KV, Nat.reduceAdd, Nat.reduceSub, Nat.reduceLeDiff, true_and, and_true, true_or, or_true, or_self, reduceCtorEq, if_true, if_false, not_false_eq_true, eq_self, c218]
    exact k
theorem mO_congr {h h1 : ma_H} (e : h1.2.1 80 = h.2.1 80) : mO h1 = mO h := by
  unfold mO fi fj
  rw [e]
theorem p119 {h : ma_H} {x y : Int32} (I : Inv h) : Pair h 119 218 [.int x, .int y] := by
  intro Q k
  obtain ⟨n, n6, e1, e2, g⟩ := I.ng.at
  have G : ∀ i, i < n → ∃ r, ar h 48 i = some r := fun i hi => by obtain ⟨r, -, -, er, -⟩ := g i hi; exact ⟨r, er⟩
  have bad : ((x < 0 ∨ ¬ x < 4) ∨ (y < 0 ∨ ¬ y < nI n)) → ((x < 0 ∨ ¬ x ≤ 3) ∨ (y < 0 ∨ ¬ y ≤ nI n - 1)) → ma_X 119 [.ref 0, .int x, .int y] h Q := fun o1 o2 => s119n I.sh I.rr e1 n6 G o1 (k _ _ (by repeat (first | exact e80_I I | exact e80_S (by assumption) | exact e80_I (by assumption) | exact e80_n I.sh | refine e80_s (by omega) ?_)) fun Q2 k2 => s218n I.sh e2 o2 (k2 _ I))
  rcases icasB x 3 (by decide) with ⟨f, l, q, -⟩ | ⟨o1, o2⟩
  · rcases icasN y n (by omega) with ⟨i, hi, q2, -⟩ | ⟨o1, o2⟩
    · obtain ⟨r, kk, a, er, r115, -, hk, ha, eo, f1, f2⟩ := g i hi
      obtain ⟨mi, mi6, mm1, mm2⟩ := I.nf.mf l
      by_cases m60 : mi = 60
      · subst m60
        exact s119m I.sh I.rr l q e1 n6 hi q2 er r115 hk eo (by rw [mm1]; decide) (k _ _ (by repeat (first | exact e80_I I | exact e80_S (by assumption) | exact e80_I (by assumption) | exact e80_n I.sh | refine e80_s (by omega) ?_)) fun Q2 k2 => s218m I.sh l q q2 e2 n6 hi (by rw [mm2]; rfl) (k2 _ I))
      · have hmn : fi h (36 + 3 * f) 0 + 1 = nI (mi + 1) := by rw [mm1, nI_1]
        obtain ⟨⟨m, m4, s1, s2⟩, sz⟩ := I.nm
        have hne : fi h (36 + 3 * f) 0 + 1 ≠ -2 := by rw [hmn]; exact ne2 (Or.inr (nI_pos (by omega)))
        refine s119 I.sh I.rr l q e1 n6 hi q2 er r115 hk eo (I.nf.ok l) hne (by rw [mm1]; exact nI_lt (b := 60) (by omega) (by decide)) (k _ _ (by repeat (first | exact e80_I I | exact e80_S (by assumption) | exact e80_I (by assumption) | exact e80_n I.sh | refine e80_s (by omega) ?_)) fun Q2 k2 => ?_)
        have H1 : Sh (ma_set (ma_set (ma_set (ma_set h 55 (.inl (.int, 91, .inl (lf (fz (ai h (37 + 3 * f)) kk (nI a)) (ai h 55) 91).2))) (36 + 3 * f) (.inr (2, [.int (fi h (36 + 3 * f) 0 + 1), .ref (37 + 3 * f), .ref (38 + 3 * f)]))) 34 (.inr (10, [.ref 35, .ref 48, .int (fi h 34 2), .ref 49, .ref 53, .ref 54, .int (fi h 34 6), .int (gzz (fz (ai h (37 + 3 * f)) kk (nI a)) (fi h 34 6) (fi h 34 7) 91), .ref 55, .ref 56]))) (37 + 3 * f) (.inl (.int, 169, .inl (garr (fz (ai h (37 + 3 * f)) kk (nI a)) (fi h 34 6) (fi h 34 7) (fi h (36 + 3 * f) 0 + 1) ma_cell (ai h (37 + 3 * f)) 91)))) := sh_set (sh_set (sh_set (sh_set I.sh rfl) (nf_o l _)) rfl) (nf_s l _)
        have R1 : Rt (ma_set (ma_set (ma_set (ma_set h 55 (.inl (.int, 91, .inl (lf (fz (ai h (37 + 3 * f)) kk (nI a)) (ai h 55) 91).2))) (36 + 3 * f) (.inr (2, [.int (fi h (36 + 3 * f) 0 + 1), .ref (37 + 3 * f), .ref (38 + 3 * f)]))) 34 (.inr (10, [.ref 35, .ref 48, .int (fi h 34 2), .ref 49, .ref 53, .ref 54, .int (fi h 34 6), .int (gzz (fz (ai h (37 + 3 * f)) kk (nI a)) (fi h 34 6) (fi h 34 7) 91), .ref 55, .ref 56]))) (37 + 3 * f) (.inl (.int, 169, .inl (garr (fz (ai h (37 + 3 * f)) kk (nI a)) (fi h 34 6) (fi h 34 7) (fi h (36 + 3 * f) 0 + 1) ma_cell (ai h (37 + 3 * f)) 91)))) := I.rt.cong (fun a ha => by simp (disch := omega) only [ma_set_ne])
        have c80 : (ma_set (ma_set (ma_set (ma_set h 55 (.inl (.int, 91, .inl (lf (fz (ai h (37 + 3 * f)) kk (nI a)) (ai h 55) 91).2))) (36 + 3 * f) (.inr (2, [.int (fi h (36 + 3 * f) 0 + 1), .ref (37 + 3 * f), .ref (38 + 3 * f)]))) 34 (.inr (10, [.ref 35, .ref 48, .int (fi h 34 2), .ref 49, .ref 53, .ref 54, .int (fi h 34 6), .int (gzz (fz (ai h (37 + 3 * f)) kk (nI a)) (fi h 34 6) (fi h 34 7) 91), .ref 55, .ref 56]))) (37 + 3 * f) (.inl (.int, 169, .inl (garr (fz (ai h (37 + 3 * f)) kk (nI a)) (fi h 34 6) (fi h 34 7) (fi h (36 + 3 * f) 0 + 1) ma_cell (ai h (37 + 3 * f)) 91)))).2.1 80 = h.2.1 80 := by simp (disch := omega) only [ma_set_ne]
        have c88 : ai (ma_set (ma_set (ma_set (ma_set h 55 (.inl (.int, 91, .inl (lf (fz (ai h (37 + 3 * f)) kk (nI a)) (ai h 55) 91).2))) (36 + 3 * f) (.inr (2, [.int (fi h (36 + 3 * f) 0 + 1), .ref (37 + 3 * f), .ref (38 + 3 * f)]))) 34 (.inr (10, [.ref 35, .ref 48, .int (fi h 34 2), .ref 49, .ref 53, .ref 54, .int (fi h 34 6), .int (gzz (fz (ai h (37 + 3 * f)) kk (nI a)) (fi h 34 6) (fi h 34 7) 91), .ref 55, .ref 56]))) (37 + 3 * f) (.inl (.int, 169, .inl (garr (fz (ai h (37 + 3 * f)) kk (nI a)) (fi h 34 6) (fi h 34 7) (fi h (36 + 3 * f) 0 + 1) ma_cell (ai h (37 + 3 * f)) 91)))) 88 = ai h 88 := by simp (disch := omega) only [ai_ne]
        have c89 : ai (ma_set (ma_set (ma_set (ma_set h 55 (.inl (.int, 91, .inl (lf (fz (ai h (37 + 3 * f)) kk (nI a)) (ai h 55) 91).2))) (36 + 3 * f) (.inr (2, [.int (fi h (36 + 3 * f) 0 + 1), .ref (37 + 3 * f), .ref (38 + 3 * f)]))) 34 (.inr (10, [.ref 35, .ref 48, .int (fi h 34 2), .ref 49, .ref 53, .ref 54, .int (fi h 34 6), .int (gzz (fz (ai h (37 + 3 * f)) kk (nI a)) (fi h 34 6) (fi h 34 7) 91), .ref 55, .ref 56]))) (37 + 3 * f) (.inl (.int, 169, .inl (garr (fz (ai h (37 + 3 * f)) kk (nI a)) (fi h 34 6) (fi h 34 7) (fi h (36 + 3 * f) 0 + 1) ma_cell (ai h (37 + 3 * f)) 91)))) 89 = ai h 89 := by simp (disch := omega) only [ai_ne]
        have c90 : ai (ma_set (ma_set (ma_set (ma_set h 55 (.inl (.int, 91, .inl (lf (fz (ai h (37 + 3 * f)) kk (nI a)) (ai h 55) 91).2))) (36 + 3 * f) (.inr (2, [.int (fi h (36 + 3 * f) 0 + 1), .ref (37 + 3 * f), .ref (38 + 3 * f)]))) 34 (.inr (10, [.ref 35, .ref 48, .int (fi h 34 2), .ref 49, .ref 53, .ref 54, .int (fi h 34 6), .int (gzz (fz (ai h (37 + 3 * f)) kk (nI a)) (fi h 34 6) (fi h 34 7) 91), .ref 55, .ref 56]))) (37 + 3 * f) (.inl (.int, 169, .inl (garr (fz (ai h (37 + 3 * f)) kk (nI a)) (fi h 34 6) (fi h 34 7) (fi h (36 + 3 * f) 0 + 1) ma_cell (ai h (37 + 3 * f)) 91)))) 90 = ai h 90 := by simp (disch := omega) only [ai_ne]
        have c101 : ai (ma_set (ma_set (ma_set (ma_set h 55 (.inl (.int, 91, .inl (lf (fz (ai h (37 + 3 * f)) kk (nI a)) (ai h 55) 91).2))) (36 + 3 * f) (.inr (2, [.int (fi h (36 + 3 * f) 0 + 1), .ref (37 + 3 * f), .ref (38 + 3 * f)]))) 34 (.inr (10, [.ref 35, .ref 48, .int (fi h 34 2), .ref 49, .ref 53, .ref 54, .int (fi h 34 6), .int (gzz (fz (ai h (37 + 3 * f)) kk (nI a)) (fi h 34 6) (fi h 34 7) 91), .ref 55, .ref 56]))) (37 + 3 * f) (.inl (.int, 169, .inl (garr (fz (ai h (37 + 3 * f)) kk (nI a)) (fi h 34 6) (fi h 34 7) (fi h (36 + 3 * f) 0 + 1) ma_cell (ai h (37 + 3 * f)) 91)))) 101 = ai h 101 := by simp (disch := omega) only [ai_ne]
        have cf : ∀ i, fi (ma_set (ma_set (ma_set (ma_set h 55 (.inl (.int, 91, .inl (lf (fz (ai h (37 + 3 * f)) kk (nI a)) (ai h 55) 91).2))) (36 + 3 * f) (.inr (2, [.int (fi h (36 + 3 * f) 0 + 1), .ref (37 + 3 * f), .ref (38 + 3 * f)]))) 34 (.inr (10, [.ref 35, .ref 48, .int (fi h 34 2), .ref 49, .ref 53, .ref 54, .int (fi h 34 6), .int (gzz (fz (ai h (37 + 3 * f)) kk (nI a)) (fi h 34 6) (fi h 34 7) 91), .ref 55, .ref 56]))) (37 + 3 * f) (.inl (.int, 169, .inl (garr (fz (ai h (37 + 3 * f)) kk (nI a)) (fi h 34 6) (fi h 34 7) (fi h (36 + 3 * f) 0 + 1) ma_cell (ai h (37 + 3 * f)) 91)))) 80 i = fi h 80 i := fun i => by show fiC _ i = fiC _ i; rw [c80]
        refine s218 (g := ai h (37 + 3 * f)) H1 R1 (I.nf.ok l) (fun j hj => by rw [c88]; exact I.nf.eq l hj) ha l q q2 (by rw [cf]; exact e2) n6 hi hk (by rw [c90]; exact f1) (by rw [c90]; exact f2) (by rw [cf]; exact s2) m4 (by rw [c89, mm2]; exact fun w => m60 ((nI_eq (by omega) (by decide)).mp (show nI mi = nI 60 from w))) ?_
        rw [c88, c89, c101, cf, cf, mO_congr c80, s2, ← s1, ← sz]
        have IA : Inv (ma_set (ma_set h 34 (.inr (10, [.ref 35, .ref 48, .int (fi h 34 2), .ref 49, .ref 53, .ref 54, .int (fi h 34 6), .int (gzz (fz (ai h (37 + 3 * f)) kk (nI a)) (fi h 34 6) (fi h 34 7) 91), .ref 55, .ref 56]))) 80 (.inr (12, (mO h).set 12 (.int (gzz (fz (ai h (37 + 3 * f)) kk (nI a)) (fi h 34 6) (fi h 34 7) 91))))) := ⟨(sh_set (sh_set I.sh rfl) rfl), I.rr, I.rt, ⟨(I.nf.cong (fun a ha => by simp (disch := omega) only [ma_set_ne])), (I.ng.cong2 (Nat.le_refl _) rfl rfl (fun a ha => by simp (disch := omega) only [ma_set_ne])), ⟨⟨m, m4, s1, s2⟩, rfl⟩, I.na, I.nl⟩, (I.rk.cong2 (Nat.le_refl _) rfl rfl (fun a ha => by simp (disch := omega) only [ma_set_ne])), I.rp, (I.rw.cong2 rfl rfl (fun a ha => by simp (disch := omega) only [ma_set_ne])), (I.rs.cong (fun a ha => by simp (disch := omega) only [ma_set_ne])), I.rv, I.ra, I.rc⟩
        have hneg : ¬ ai h 89 f + 1 < 0 := by rw [mm2, nI_1]; exact nI_pos (by omega)
        refine k2 _ (IA.flk l (sh_set (sh_set (sh_set (sh_set H1 rfl) rfl) rfl) rfl) rfl (fun a a1 a2 a3 a4 => ?_) ?_ (fun i hi => ?_) (fun i hi => ?_) (fun j hj w => ?_) ⟨mi + 1, by omega, ?_, ?_⟩ (fun j hj w => ?_)) <;> (try simp (disch := omega) only [ai_ne, ai_at, fi_ne, fi_at0])
        · unfold exf at a4
          by_cases b1 : a = 34
          · subst b1
            simp (disch := omega) only [ma_set_ne, ma_set_at]
          · by_cases b2 : a = 80
            · subst b2
              simp (disch := omega) only [ma_set_ne, ma_set_at]
            · simp (disch := omega) only [ma_set_ne]
        · exact garr_ok hne (I.nf.ok l) 91 (by omega)
        · rw [I.nf.m l]
          exact garr_eq (fun i hi => I.nf.eq l hi) 91 (by omega) i hi
        · exact garr_b hneg (I.nf.b l hi) 91
        · exact garr_out w 91 (by omega)
        · rw [mm1, nI_1]
        · rw [show upd (ai h 89) f (ai h 89 f + 1) f = ai h 89 f + 1 from if_pos rfl, mm2, nI_1]
        · exact if_neg w
    · exact bad (Or.inr o1) (Or.inr o2)
  · exact bad (Or.inl o2) (Or.inl o1)
