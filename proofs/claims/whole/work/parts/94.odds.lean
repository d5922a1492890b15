/-! odds -/
def mfs (c : Nat) : Nat → Bool
  | 0 => decide (c ≠ 45)
  | k + 1 => mfs c k && decide (c < m_imN c (k + 1))
theorem mfs_om : ∀ c, c < 91 → mfs c 5 = decide (om c < 15) := by decide +kernel
theorem q45 : (0 : Int32) = m_q 45 ∧ (0 : Int32) = m_r 45 := by decide +kernel
theorem s127 {h : ma_H} {Q : ma_Q} {x y z : Int32} {f n i r kk a : Nat} (H : Sh h) (R : Rr h) (hf : f < 4) (q : x = nI f) (e : fi h 34 2 = nI n) (n6 : n ≤ 6) (hi : i < n) (q2 : y = nI i) (er : ar h 48 i = some r) (r115 : 115 ≤ r) (hk : kk < 6) (eo : h.2.1 r = .inr (g_cls kk, [.int (nI kk), .int (nI i), .int (nI a), .ref 27])) (z0 : ¬ z < 0) (z1 : z ≤ 1) {ms : Nat} (em : fi h 34 6 = nI ms) (m4 : ms ≤ 4) (m30 : su (fz (ai h (37 + 3 * f)) kk (nI a)) 91 ≤ 30) (ha : pn (fun i => if oc i < 15 then Ao (ai h (37 + 3 * f)) (fz (ai h (37 + 3 * f)) kk (nI a)) ms i else 1) 91 < 2 ^ 63) (hb : pn (fun i => if oc i < 15 then 4 ^ sx (kbn (fz (ai h (37 + 3 * f)) kk (nI a))) i else 1) 91 < 2 ^ 63) (k : Q (some (.long (if z = 0 then lN (hlv 62 (pn (fun i => if oc i < 15 then Ao (ai h (37 + 3 * f)) (fz (ai h (37 + 3 * f)) kk (nI a)) ms i else 1) 91) (pn (fun i => if oc i < 15 then 4 ^ sx (kbn (fz (ai h (37 + 3 * f)) kk (nI a))) i else 1) 91)).1 else lN (hlv 62 (pn (fun i => if oc i < 15 then Ao (ai h (37 + 3 * f)) (fz (ai h (37 + 3 * f)) kk (nI a)) ms i else 1) 91) (pn (fun i => if oc i < 15 then 4 ^ sx (kbn (fz (ai h (37 + 3 * f)) kk (nI a))) i else 1) 91)).2))) (ma_set h 55 (.inl (.int, 91, .inl (lf (fz (ai h (37 + 3 * f)) kk (nI a)) (ai h 55) 91).2)))) : ma_X 127 [.ref 0, .int x, .int y, .int z] h Q := by
  have e0 : ∀ c, (ma_set h 55 c).2.1 0 = _ := fun c => (ma_set_ne h c (by decide)).trans H.e0
  refine ma_enter (m := 127) (Or.inl (by decide)) (by show 4 ≤ mt_n 127; decide +kernel) ?_
  show At 127 Q 0 (mt_c 127) [some (.ref 0), some (.int x), some (.int y), some (.int z), none, none] [] h
  refine go 60 (by decide) ?_
  simp only [KX, KY, KZ, KW, KV, Nat.reduceAdd, Nat.reduceSub, Nat.reduceLeDiff, true_and, and_true, true_or, or_true, or_self, reduceCtorEq, if_true, if_false, not_false_eq_true, eq_self, c127, H.e0]
  refine s145e H R hf q ?_
  refine go 60 (by decide) ?_
  simp only [KX, KY, KZ, KW, KV, Nat.reduceAdd, Nat.reduceSub, Nat.reduceLeDiff, true_and, and_true, true_or, or_true, or_self, reduceCtorEq, if_true, if_false, not_false_eq_true, eq_self, c127, H.e0, H.e34]
  refine s95 H e n6 hi q2 er ?_
  refine go 60 (by decide) ?_
  simp only [KX, KY, KZ, KW, KV, Nat.reduceAdd, Nat.reduceSub, Nat.reduceLeDiff, true_and, and_true, true_or, or_true, or_self, reduceCtorEq, if_true, if_false, not_false_eq_true, eq_self, c127, H.e0, H.e34, eo, (vt289 kk hk).2.1, show mt_c 42 = (0, 0) from rfl]
  rw [if_neg z0, if_pos z1]
  refine s42 (c := 0) (H.fn hf).1 (H.fn hf).2.1 hk eo H.e55 (by omega) (by omega) (by omega) ?_
  refine go 60 (by decide) ?_
  simp only [KX, KY, KZ, KW, KV, Nat.reduceAdd, Nat.reduceSub, Nat.reduceLeDiff, true_and, and_true, true_or, or_true, or_self, reduceCtorEq, if_true, if_false, not_false_eq_true, eq_self, c127, e0]
  rw [lf_su (fz01 _ kk (nI a)) 91, if_pos m30]
  refine s153 (kk := kk) (sh_set H rfl) ((ma_set_ne _ _ (by omega)).trans (H.fn hf).1) ((ma_set_ne _ _ (by omega)).trans (H.fn hf).2.1) hk ((ma_set_ne _ _ (by omega)).trans eo) ((fi_ne _ _ _ (by decide)).trans em) m4 ha hb ?_
  refine go 60 (by decide) ?_
  simp only [KX, KY, KZ, KW, KV, Nat.reduceAdd, Nat.reduceSub, Nat.reduceLeDiff, true_and, and_true, true_or, or_true, or_self, reduceCtorEq, if_true, if_false, not_false_eq_true, eq_self, c127]
  exact k
theorem s127s {h : ma_H} {Q : ma_Q} {x y z : Int32} {f n i r kk a : Nat} (H : Sh h) (R : Rr h) (hf : f < 4) (q : x = nI f) (e : fi h 34 2 = nI n) (n6 : n ≤ 6) (hi : i < n) (q2 : y = nI i) (er : ar h 48 i = some r) (r115 : 115 ≤ r) (hk : kk < 6) (eo : h.2.1 r = .inr (g_cls kk, [.int (nI kk), .int (nI i), .int (nI a), .ref 27])) (z0 : ¬ z < 0) (z1 : z ≤ 1) (m30 : ¬ su (fz (ai h (37 + 3 * f)) kk (nI a)) 91 ≤ 30) (k : Q (some (.long (ma_kL (.negSucc 3)))) (ma_set h 55 (.inl (.int, 91, .inl (lf (fz (ai h (37 + 3 * f)) kk (nI a)) (ai h 55) 91).2)))) : ma_X 127 [.ref 0, .int x, .int y, .int z] h Q := by
  refine ma_enter (m := 127) (Or.inl (by decide)) (by show 4 ≤ mt_n 127; decide +kernel) ?_
  show At 127 Q 0 (mt_c 127) [some (.ref 0), some (.int x), some (.int y), some (.int z), none, none] [] h
  refine go 60 (by decide) ?_
  simp only [KX, KY, KZ, KW, KV, Nat.reduceAdd, Nat.reduceSub, Nat.reduceLeDiff, true_and, and_true, true_or, or_true, or_self, reduceCtorEq, if_true, if_false, not_false_eq_true, eq_self, c127, H.e0]
  refine s145e H R hf q ?_
  refine go 60 (by decide) ?_
  simp only [KX, KY, KZ, KW, KV, Nat.reduceAdd, Nat.reduceSub, Nat.reduceLeDiff, true_and, and_true, true_or, or_true, or_self, reduceCtorEq, if_true, if_false, not_false_eq_true, eq_self, c127, H.e0, H.e34]
  refine s95 H e n6 hi q2 er ?_
  refine go 60 (by decide) ?_
  simp only [KX, KY, KZ, KW, KV, Nat.reduceAdd, Nat.reduceSub, Nat.reduceLeDiff, true_and, and_true, true_or, or_true, or_self, reduceCtorEq, if_true, if_false, not_false_eq_true, eq_self, c127, H.e0, H.e34, eo, (vt289 kk hk).2.1, show mt_c 42 = (0, 0) from rfl]
  rw [if_neg z0, if_pos z1]
  refine s42 (c := 0) (H.fn hf).1 (H.fn hf).2.1 hk eo H.e55 (by omega) (by omega) (by omega) ?_
  refine go 60 (by decide) ?_
  simp only [KX, KY, KZ, KW, KV, Nat.reduceAdd, Nat.reduceSub, Nat.reduceLeDiff, true_and, and_true, true_or, or_true, or_self, reduceCtorEq, if_true, if_false, not_false_eq_true, eq_self, c127]
  rw [lf_su (fz01 _ kk (nI a)) 91, if_neg m30]
  exact k
theorem s127n {h : ma_H} {Q : ma_Q} {x y z : Int32} {n : Nat} (H : Sh h) (R : Rr h) (e : fi h 34 2 = nI n) (n6 : n ≤ 6) (G : ∀ i, i < n → ∃ r, ar h 48 i = some r) (o : (x < 0 ∨ ¬ x < 4) ∨ (y < 0 ∨ ¬ y < nI n) ∨ (z < 0 ∨ ¬ z ≤ 1)) (k : Q (some (.long (ma_kL (.negSucc 0)))) h) : ma_X 127 [.ref 0, .int x, .int y, .int z] h Q := by
  refine ma_enter (m := 127) (Or.inl (by decide)) (by show 4 ≤ mt_n 127; decide +kernel) ?_
  show At 127 Q 0 (mt_c 127) [some (.ref 0), some (.int x), some (.int y), some (.int z), none, none] [] h
  refine go 60 (by decide) ?_
  simp only [KX, KY, KZ, KW, KV, Nat.reduceAdd, Nat.reduceSub, Nat.reduceLeDiff, true_and, and_true, true_or, or_true, or_self, reduceCtorEq, if_true, if_false, not_false_eq_true, eq_self, c127, H.e0]
  rcases icasB x 3 (by decide) with ⟨f, l, q, x1, x2, -⟩ | ⟨-, ox⟩
  · refine s145e H R l q ?_
    refine go 60 (by decide) ?_
    simp only [KX, KY, KZ, KW, KV, Nat.reduceAdd, Nat.reduceSub, Nat.reduceLeDiff, true_and, and_true, true_or, or_true, or_self, reduceCtorEq, if_true, if_false, not_false_eq_true, eq_self, c127, H.e0, H.e34]
    rcases icasN y n (by omega) with ⟨i, hi, q2, y1, y2, -⟩ | ⟨oy, -⟩
    · obtain ⟨r, er⟩ := G i hi
      refine s95 H e n6 hi q2 er ?_
      refine go 60 (by decide) ?_
      simp only [KX, KY, KZ, KW, KV, Nat.reduceAdd, Nat.reduceSub, Nat.reduceLeDiff, true_and, and_true, true_or, or_true, or_self, reduceCtorEq, if_true, if_false, not_false_eq_true, eq_self, c127]
      have oz := (o.resolve_left (by rintro (w | w); exact x1 w; exact w x2)).resolve_left (by rintro (w | w); exact y1 w; exact w y2)
      by_cases z0 : z < 0
      · rw [if_pos z0]
        exact k
      · rw [if_neg z0, if_neg (oz.resolve_left z0)]
        exact k
    · refine s95n H e oy ?_
      refine go 60 (by decide) ?_
      simp only [KX, KY, KZ, KW, KV, Nat.reduceAdd, Nat.reduceSub, Nat.reduceLeDiff, true_and, and_true, true_or, or_true, or_self, reduceCtorEq, if_true, if_false, not_false_eq_true, eq_self, c127]
      exact k
  · refine s145n H ox ?_
    refine go 60 (by decide) ?_
    simp only [KX, KY, KZ, KW, KV, Nat.reduceAdd, Nat.reduceSub, Nat.reduceLeDiff, true_and, and_true, true_or, or_true, or_self, reduceCtorEq, if_true, if_false, not_false_eq_true, eq_self, c127, H.e0, H.e34]
    rcases icasN y n (by omega) with ⟨i, hi, q, -⟩ | ⟨oy, -⟩
    · obtain ⟨r, er⟩ := G i hi
      refine s95 H e n6 hi q er ?_
      refine go 60 (by decide) ?_
      simp only [KX, KY, KZ, KW, KV, Nat.reduceAdd, Nat.reduceSub, Nat.reduceLeDiff, true_and, and_true, true_or, or_true, or_self, reduceCtorEq, if_true, if_false, not_false_eq_true, eq_self, c127]
      exact k
    · refine s95n H e oy ?_
      refine go 60 (by decide) ?_
      simp only [KX, KY, KZ, KW, KV, Nat.reduceAdd, Nat.reduceSub, Nat.reduceLeDiff, true_and, and_true, true_or, or_true, or_self, reduceCtorEq, if_true, if_false, not_false_eq_true, eq_self, c127]
      exact k
theorem s231s {h : ma_H} {Q : ma_Q} {f n gi kk a : Nat} {x y z : Int32} {g : Nat → Int32} (H : Sh h) (R : Rt h) (ok : fl_ok g) (eg : ∀ i, i < 91 → g (ma_cell i) = ai h 88 (91 * f + i)) (ha : a < 64) (hf : f < 4) (q : x = nI f) (q2 : y = nI gi) (e9 : fi h 80 9 = nI n) (n6 : n ≤ 6) (hg : gi < n) (hk : kk < 6) (ek : ai h 90 (2 * gi) = nI kk) (ea : ai h 90 (2 * gi + 1) = nI a) (z0 : ¬ z < 0) (z1 : z ≤ 1) (m30 : ¬ (sn (kbn (fz g kk (nI a))) 91) ≤ 30) (k : Q (some (.long (ma_kL (.negSucc 3)))) (ma_set h 101 (.inl (.boolean, 91, .inl (upN (ai h 101) (fun c => c) (fz g kk (nI a)) 91))))) : ma_X 231 [.ref 80, .int x, .int y, .int z] h Q := by
  have x1 : ¬ x < 0 := by subst q; exact nI_pos (by omega)
  have x3 : x ≤ 3 := by subst q; exact nI_le (a := f) (b := 3) (by omega) (by decide)
  have e91 := ix91n q
  have y1 : ¬ y < 0 := by subst q2; exact nI_pos (by omega)
  have y2 : y ≤ nI n - 1 := by subst q2; obtain ⟨m, rfl⟩ : ∃ m, n = m + 1 := ⟨n - 1, by omega⟩; rw [nI_pred]; exact nI_le (by omega) (by omega)
  have esu : su (fz g kk (nI a)) 91 = nI (sn (kbn (fz g kk (nI a))) 91) := su_sn 91 (fun i _ => by
    unfold kbn
    rcases fz01 g kk (nI a) i with w | w
    · rw [w, if_pos rfl]
      rfl
    · rw [w, if_neg (by decide)]
      rfl)
  refine ma_enter (m := 231) (Or.inl (by decide)) (by show 4 ≤ mt_n 231; decide +kernel) ?_
  show At 231 Q 0 (mt_c 231) [some (.ref 80), some (.int x), some (.int y), some (.int z), none, none, none, none, none, none, none, none, none] [] h
  refine go 60 (by decide) ?_
  simp only [KX, KY, KZ, KW, KV, Nat.reduceAdd, Nat.reduceSub, Nat.reduceLeDiff, true_and, and_true, true_or, or_true, or_self, reduceCtorEq, if_true, if_false, not_false_eq_true, eq_self, c231]
  refine s170y x1 x3 ?_
  refine go 60 (by decide) ?_
  simp only [KX, KY, KZ, KW, KV, Nat.reduceAdd, Nat.reduceSub, Nat.reduceLeDiff, true_and, and_true, true_or, or_true, or_self, reduceCtorEq, if_true, if_false, not_false_eq_true, eq_self, c231, H.e80]
  refine s210y H e9 y1 y2 ?_
  refine go 60 (by decide) ?_
  simp only [KX, KY, KZ, KW, KV, Nat.reduceAdd, Nat.reduceSub, Nat.reduceLeDiff, true_and, and_true, true_or, or_true, or_self, reduceCtorEq, if_true, if_false, not_false_eq_true, eq_self, c231]
  refine s171y z0 z1 ?_
  refine go 60 (by decide) ?_
  simp only [KX, KY, KZ, KW, KV, Nat.reduceAdd, Nat.reduceSub, Nat.reduceLeDiff, true_and, and_true, true_or, or_true, or_self, reduceCtorEq, if_true, if_false, not_false_eq_true, eq_self, c231, H.e80]
  rw [e91]
  refine s215 (A := 91 * f) H R (by omega) ok eg ha q2 (by omega) hk ek ea ?_
  rw [esu]
  refine go 60 (by decide) ?_
  simp only [KX, KY, KZ, KW, KV, Nat.reduceAdd, Nat.reduceSub, Nat.reduceLeDiff, true_and, and_true, true_or, or_true, or_self, reduceCtorEq, if_true, if_false, not_false_eq_true, eq_self, c231]
  have m91 : (sn (kbn (fz g kk (nI a))) 91) ≤ 91 := sn_1 (kbn1 _) 91
  rw [if_neg (show ¬ nI (sn (kbn (fz g kk (nI a))) 91) ≤ (30 : Int32) from nI_ge (a := 30) (by omega) (by omega))]
  exact k
theorem s231 {h : ma_H} {Q : ma_Q} {f n gi kk a : Nat} {x y z : Int32} {g : Nat → Int32} (H : Sh h) (R : Rt h) (ok : fl_ok g) (eg : ∀ i, i < 91 → g (ma_cell i) = ai h 88 (91 * f + i)) (ha : a < 64) (hf : f < 4) (q : x = nI f) (q2 : y = nI gi) (e9 : fi h 80 9 = nI n) (n6 : n ≤ 6) (hg : gi < n) (hk : kk < 6) (ek : ai h 90 (2 * gi) = nI kk) (ea : ai h 90 (2 * gi + 1) = nI a) (z0 : ¬ z < 0) (z1 : z ≤ 1) {ms : Nat} (em : fi h 80 11 = nI ms) (m4 : ms ≤ 4) (m30 : (sn (kbn (fz g kk (nI a))) 91) ≤ 30) (hA63 : (4 ^ kbn (fz g kk (nI a)) 45 * pn (fun i => if om i < 15 then Ao g (fz g kk (nI a)) ms i else 1) 91) < 2 ^ 63) (hB63 : 4 ^ (sn (kbn (fz g kk (nI a))) 91) < 2 ^ 63) (k : Q (some (.long (if z = 0 then lN ((4 ^ kbn (fz g kk (nI a)) 45 * pn (fun i => if om i < 15 then Ao g (fz g kk (nI a)) ms i else 1) 91) / (Nat.gcd (4 ^ kbn (fz g kk (nI a)) 45 * pn (fun i => if om i < 15 then Ao g (fz g kk (nI a)) ms i else 1) 91) (4 ^ (sn (kbn (fz g kk (nI a))) 91)))) else lN (4 ^ (sn (kbn (fz g kk (nI a))) 91) / (Nat.gcd (4 ^ kbn (fz g kk (nI a)) 45 * pn (fun i => if om i < 15 then Ao g (fz g kk (nI a)) ms i else 1) 91) (4 ^ (sn (kbn (fz g kk (nI a))) 91))))))) (ma_set (ma_set h 101 (.inl (.boolean, 91, .inl (upN (ai h 101) (fun c => c) (fz g kk (nI a)) 91)))) 80 (.inr (12, [.ref 81, .ref 82, .ref 83, .ref 84, .ref 85, .ref 86, .ref 87, .ref 88, .ref 89, .int (fi h 80 9), .ref 90, .int (fi h 80 11), .int (fi h 80 12), .ref 91, .int (fi h 80 14), .ref 92, .ref 93, .ref 94, .int (fi h 80 18), .int (fi h 80 19), .int (fi h 80 20), .int (fi h 80 21), .long (fj h 80 22), .int (fi h 80 23), .int (fi h 80 24), .ref 95, .ref 96, .ref 97, .int (fi h 80 28), .int (fi h 80 29), .int (fi h 80 30), .ref 98, .ref 99, .ref 100, .ref 101, .long (lN ((4 ^ kbn (fz g kk (nI a)) 45 * pn (fun i => if om i < 15 then Ao g (fz g kk (nI a)) ms i else 1) 91) / (Nat.gcd (4 ^ kbn (fz g kk (nI a)) 45 * pn (fun i => if om i < 15 then Ao g (fz g kk (nI a)) ms i else 1) 91) (4 ^ (sn (kbn (fz g kk (nI a))) 91))))), .long (lN (4 ^ (sn (kbn (fz g kk (nI a))) 91) / (Nat.gcd (4 ^ kbn (fz g kk (nI a)) 45 * pn (fun i => if om i < 15 then Ao g (fz g kk (nI a)) ms i else 1) 91) (4 ^ (sn (kbn (fz g kk (nI a))) 91))))), .ref 102, .ref 103, .ref 104, .ref 105, .int (fi h 80 41), .int (fi h 80 42), .ref 106, .ref 107, .ref 108, .ref 109, .ref 110, .ref 111, .int (fi h 80 49), .int (fi h 80 50), .int (fi h 80 51), .ref 112, .int (fi h 80 53), .int (fi h 80 54), .int (fi h 80 55), .ref 113, .int (fi h 80 57), .ref 114])))) : ma_X 231 [.ref 80, .int x, .int y, .int z] h Q := by
  have x1 : ¬ x < 0 := by subst q; exact nI_pos (by omega)
  have x3 : x ≤ 3 := by subst q; exact nI_le (a := f) (b := 3) (by omega) (by decide)
  have e91 := ix91n q
  have y1 : ¬ y < 0 := by subst q2; exact nI_pos (by omega)
  have y2 : y ≤ nI n - 1 := by subst q2; obtain ⟨m, rfl⟩ : ∃ m, n = m + 1 := ⟨n - 1, by omega⟩; rw [nI_pred]; exact nI_le (by omega) (by omega)
  have esu : su (fz g kk (nI a)) 91 = nI (sn (kbn (fz g kk (nI a))) 91) := su_sn 91 (fun i _ => by
    unfold kbn
    rcases fz01 g kk (nI a) i with w | w
    · rw [w, if_pos rfl]
      rfl
    · rw [w, if_neg (by decide)]
      rfl)
  have hs : ∀ g, Sh (ma_set h 101 (.inl (.boolean, 91, .inl g))) := fun g => sh_set H rfl
  have hR : ∀ g, Rt (ma_set h 101 (.inl (.boolean, 91, .inl g))) := fun g => R.cong (fun a ha => by simp (disch := omega) only [ma_set_ne])
  have em1 : fi (ma_set h 101 (.inl (.boolean, 91, .inl (upN (ai h 101) (fun c => c) (fz g kk (nI a)) 91)))) 80 11 = nI ms := (fi_ne _ _ _ (by decide)).trans em
  have kw : ∀ i, i < 91 → ai (ma_set h 101 (.inl (.boolean, 91, .inl (upN (ai h 101) (fun c => c) (fz g kk (nI a)) 91)))) 101 i = (fz g kk (nI a)) i := fun i hi => by
    rw [ai_at]
    exact upN_at (p := fun c => c) 91 (fun i j _ _ e => e) i hi
  have lp : ∀ n c, c + n = 91 → At 231 Q 42 (0, 0) [some (.ref 80), some (.int x), some (.int y), some (.int z), some (.int (nI (91 * f))), some (.int (nI (sn (kbn (fz g kk (nI a))) 91))), some (.int (nI 45)), some (.long (lN (4 ^ kbn (fz g kk (nI a)) 45 * pn (fun i => if om i < 15 then Ao g (fz g kk (nI a)) ms i else 1) c))), none, some (.int (nI c)), none, none, none] [] (ma_set h 101 (.inl (.boolean, 91, .inl (upN (ai h 101) (fun c => c) (fz g kk (nI a)) 91)))) := by
    intro n
    induction n with
    | zero =>
      intro c ec
      obtain rfl : c = 91 := by omega
      refine go 60 (by decide) ?_
      simp only [KX, KY, KZ, KW, KV, Nat.reduceAdd, Nat.reduceSub, Nat.reduceLeDiff, true_and, and_true, true_or, or_true, or_self, reduceCtorEq, if_true, if_false, not_false_eq_true, eq_self, c231, (hs _).e80, (hs _).e84, (hs _).e101, ai_at, show lN ((1 : Fin 2).val) = lN 1 from rfl, show lN ((0 : Fin 2).val) = lN 0 from rfl]
      rw [if_neg (show ¬ nI 91 < (91 : Int32) from nI_nlt (Nat.le_refl _) (by decide))]
      refine s229 (b := 4) (e := (sn (kbn (fz g kk (nI a))) 91)) (by omega) ?_
      refine go 60 (by decide) ?_
      simp only [KX, KY, KZ, KW, KV, Nat.reduceAdd, Nat.reduceSub, Nat.reduceLeDiff, true_and, and_true, true_or, or_true, or_self, reduceCtorEq, if_true, if_false, not_false_eq_true, eq_self, c231, (hs _).e80, (hs _).e84, (hs _).e101, ai_at, show lN ((1 : Fin 2).val) = lN 1 from rfl, show lN ((0 : Fin 2).val) = lN 0 from rfl]
      refine s228 (hs _) hA63 hB63 (Nat.pow_pos (by decide)) ?_
      refine go 60 (by decide) ?_
      simp only [KX, KY, KZ, KW, KV, Nat.reduceAdd, Nat.reduceSub, Nat.reduceLeDiff, true_and, and_true, true_or, or_true, or_self, reduceCtorEq, if_true, if_false, not_false_eq_true, eq_self, c231, ma_set_at]
      by_cases w : z = 0
      · rw [if_pos w] at k ⊢
        exact k
      · rw [if_neg w] at k ⊢
        exact k
    | succ n ih =>
      intro c ec
      have hc : c < 91 := by omega
      have lq : ∀ n t, t + n = 5 → At 231 Q 56 (0, 0) [some (.ref 80), some (.int x), some (.int y), some (.int z), some (.int (nI (91 * f))), some (.int (nI (sn (kbn (fz g kk (nI a))) 91))), some (.int (nI 45)), some (.long (lN (4 ^ kbn (fz g kk (nI a)) 45 * pn (fun i => if om i < 15 then Ao g (fz g kk (nI a)) ms i else 1) c))), none, some (.int (nI c)), some (.int (bI (mfs c t))), some (.int (nI (m_imN c t))), some (.int (nI t))] [] (ma_set h 101 (.inl (.boolean, 91, .inl (upN (ai h 101) (fun c => c) (fz g kk (nI a)) 91)))) := by
        intro n
        induction n with
        | zero =>
          intro t et
          obtain rfl : t = 5 := by omega
          refine go 60 (by decide) ?_
          simp only [KX, KY, KZ, KW, KV, Nat.reduceAdd, Nat.reduceSub, Nat.reduceLeDiff, true_and, and_true, true_or, or_true, or_self, reduceCtorEq, if_true, if_false, not_false_eq_true, eq_self, c231, (hs _).e80, (hs _).e84, (hs _).e101, ai_at, show lN ((1 : Fin 2).val) = lN 1 from rfl, show lN ((0 : Fin 2).val) = lN 0 from rfl]
          rw [if_neg (show ¬ nI 5 < (5 : Int32) from nI_nlt (Nat.le_refl _) (by decide)), mfs_om c hc]
          by_cases w : om c < 15
          · rw [show bI (decide (om c < 15)) = 1 by rw [decide_eq_true w]; rfl]
            simp only [KX, KY, KZ, KW, KV, Nat.reduceAdd, Nat.reduceSub, Nat.reduceLeDiff, true_and, and_true, true_or, or_true, or_self, reduceCtorEq, if_true, if_false, not_false_eq_true, eq_self, show ((1 : Int32) = 0) = False from by decide]
            refine s230 (c := c) (A := 91 * f) (hs _) (hR _) (by omega) hc (fun i hi => by rw [ai_ne _ _ (by decide)]; exact eg i hi) kw (fz01 g kk (nI a)) em1 m4 ?_
            first
              | (with_reducible show At 231 _ 42 _ _ _ _)
              | (refine go 60 (by decide) ?_; simp only [KX, KY, KZ, KW, KV, Nat.reduceAdd, Nat.reduceSub, Nat.reduceLeDiff, true_and, and_true, true_or, or_true, or_self, reduceCtorEq, if_true, if_false, not_false_eq_true, eq_self, c231, (hs _).e80, (hs _).e84, (hs _).e101, ai_at, show lN ((1 : Fin 2).val) = lN 1 from rfl, show lN ((0 : Fin 2).val) = lN 0 from rfl])
            first
              | (with_reducible show At 231 _ 42 _ _ _ _)
              | (refine go 60 (by decide) ?_; simp only [KX, KY, KZ, KW, KV, Nat.reduceAdd, Nat.reduceSub, Nat.reduceLeDiff, true_and, and_true, true_or, or_true, or_self, reduceCtorEq, if_true, if_false, not_false_eq_true, eq_self, c231, (hs _).e80, (hs _).e84, (hs _).e101, ai_at, show lN ((1 : Fin 2).val) = lN 1 from rfl, show lN ((0 : Fin 2).val) = lN 0 from rfl])
            first
              | (with_reducible show At 231 _ 42 _ _ _ _)
              | (refine go 60 (by decide) ?_; simp only [KX, KY, KZ, KW, KV, Nat.reduceAdd, Nat.reduceSub, Nat.reduceLeDiff, true_and, and_true, true_or, or_true, or_self, reduceCtorEq, if_true, if_false, not_false_eq_true, eq_self, c231, (hs _).e80, (hs _).e84, (hs _).e101, ai_at, show lN ((1 : Fin 2).val) = lN 1 from rfl, show lN ((0 : Fin 2).val) = lN 0 from rfl])
            rw [lN_mul, nI_1 c, Nat.mul_assoc]
            have ih2 := ih (c + 1) (by omega)
            rw [show pn (fun i => if om i < 15 then Ao g (fz g kk (nI a)) ms i else 1) (c + 1) = pn (fun i => if om i < 15 then Ao g (fz g kk (nI a)) ms i else 1) c * Ao g (fz g kk (nI a)) ms c from congrArg (fun z => pn (fun i => if om i < 15 then Ao g (fz g kk (nI a)) ms i else 1) c * z) (if_pos w)] at ih2
            exact At_le ih2 ⟨rfl, rfl, rfl, rfl, rfl, rfl, rfl, rfl, rfl, trivial⟩
          · rw [show bI (decide (om c < 15)) = 0 by rw [decide_eq_false w]; rfl]
            simp only [KX, KY, KZ, KW, KV, Nat.reduceAdd, Nat.reduceSub, Nat.reduceLeDiff, true_and, and_true, true_or, or_true, or_self, reduceCtorEq, if_true, if_false, not_false_eq_true, eq_self]
            first
              | (with_reducible show At 231 _ 42 _ _ _ _)
              | (refine go 60 (by decide) ?_; simp only [KX, KY, KZ, KW, KV, Nat.reduceAdd, Nat.reduceSub, Nat.reduceLeDiff, true_and, and_true, true_or, or_true, or_self, reduceCtorEq, if_true, if_false, not_false_eq_true, eq_self, c231, (hs _).e80, (hs _).e84, (hs _).e101, ai_at, show lN ((1 : Fin 2).val) = lN 1 from rfl, show lN ((0 : Fin 2).val) = lN 0 from rfl])
            first
              | (with_reducible show At 231 _ 42 _ _ _ _)
              | (refine go 60 (by decide) ?_; simp only [KX, KY, KZ, KW, KV, Nat.reduceAdd, Nat.reduceSub, Nat.reduceLeDiff, true_and, and_true, true_or, or_true, or_self, reduceCtorEq, if_true, if_false, not_false_eq_true, eq_self, c231, (hs _).e80, (hs _).e84, (hs _).e101, ai_at, show lN ((1 : Fin 2).val) = lN 1 from rfl, show lN ((0 : Fin 2).val) = lN 0 from rfl])
            first
              | (with_reducible show At 231 _ 42 _ _ _ _)
              | (refine go 60 (by decide) ?_; simp only [KX, KY, KZ, KW, KV, Nat.reduceAdd, Nat.reduceSub, Nat.reduceLeDiff, true_and, and_true, true_or, or_true, or_self, reduceCtorEq, if_true, if_false, not_false_eq_true, eq_self, c231, (hs _).e80, (hs _).e84, (hs _).e101, ai_at, show lN ((1 : Fin 2).val) = lN 1 from rfl, show lN ((0 : Fin 2).val) = lN 0 from rfl])
            rw [lN_mul, nI_1 c, Nat.mul_one]
            have ih2 := ih (c + 1) (by omega)
            rw [show pn (fun i => if om i < 15 then Ao g (fz g kk (nI a)) ms i else 1) (c + 1) = pn (fun i => if om i < 15 then Ao g (fz g kk (nI a)) ms i else 1) c from (congrArg (fun z => pn (fun i => if om i < 15 then Ao g (fz g kk (nI a)) ms i else 1) c * z) (if_neg w)).trans (Nat.mul_one _)] at ih2
            exact At_le ih2 ⟨rfl, rfl, rfl, rfl, rfl, rfl, rfl, rfl, rfl, trivial⟩
        | succ n jh =>
          intro t et
          have ht : t < 5 := by omega
          have hm : m_imN c t < 91 := m_imN_lt hc t
          have hm2 : m_imN c (t + 1) < 91 := m_imN_lt hc (t + 1)
          have e84 : ai (ma_set h 101 (.inl (.boolean, 91, .inl (upN (ai h 101) (fun c => c) (fz g kk (nI a)) 91)))) 84 (m_imN c t) = nI (m_imN c (t + 1)) := ((hR _).1 _ hm).2.2.2.1
          refine go 60 (by decide) ?_
          simp only [KX, KY, KZ, KW, KV, Nat.reduceAdd, Nat.reduceSub, Nat.reduceLeDiff, true_and, and_true, true_or, or_true, or_self, reduceCtorEq, if_true, if_false, not_false_eq_true, eq_self, c231, (hs _).e80, (hs _).e84, (hs _).e101, ai_at, show lN ((1 : Fin 2).val) = lN 1 from rfl, show lN ((0 : Fin 2).val) = lN 0 from rfl]
          rw [if_pos (show nI t < (5 : Int32) from nI_lt ht (by decide)), nI_clamp (show m_imN c t < 2 ^ 31 by omega), e84]
          refine ⟨nI_in hm (by decide), ?_⟩
          have jh2 := jh (t + 1) (by omega)
          cases b : mfs c t
          · rw [show mfs c (t + 1) = false by show (mfs c t && decide (c < m_imN c (t + 1))) = false; rw [b]; rfl] at jh2
            rw [if_pos (show bI false = 0 from rfl)]
            first
              | (with_reducible show At 231 _ 56 _ _ _ _)
              | (refine go 60 (by decide) ?_; simp only [KX, KY, KZ, KW, KV, Nat.reduceAdd, Nat.reduceSub, Nat.reduceLeDiff, true_and, and_true, true_or, or_true, or_self, reduceCtorEq, if_true, if_false, not_false_eq_true, eq_self, c231, (hs _).e80, (hs _).e84, (hs _).e101, ai_at, show lN ((1 : Fin 2).val) = lN 1 from rfl, show lN ((0 : Fin 2).val) = lN 0 from rfl])
            first
              | (with_reducible show At 231 _ 56 _ _ _ _)
              | (refine go 60 (by decide) ?_; simp only [KX, KY, KZ, KW, KV, Nat.reduceAdd, Nat.reduceSub, Nat.reduceLeDiff, true_and, and_true, true_or, or_true, or_self, reduceCtorEq, if_true, if_false, not_false_eq_true, eq_self, c231, (hs _).e80, (hs _).e84, (hs _).e101, ai_at, show lN ((1 : Fin 2).val) = lN 1 from rfl, show lN ((0 : Fin 2).val) = lN 0 from rfl])
            first
              | (with_reducible show At 231 _ 56 _ _ _ _)
              | (refine go 60 (by decide) ?_; simp only [KX, KY, KZ, KW, KV, Nat.reduceAdd, Nat.reduceSub, Nat.reduceLeDiff, true_and, and_true, true_or, or_true, or_self, reduceCtorEq, if_true, if_false, not_false_eq_true, eq_self, c231, (hs _).e80, (hs _).e84, (hs _).e101, ai_at, show lN ((1 : Fin 2).val) = lN 1 from rfl, show lN ((0 : Fin 2).val) = lN 0 from rfl])
            rw [nI_1 t]
            exact At_le jh2 ⟨rfl, rfl, rfl, rfl, rfl, rfl, rfl, rfl, rfl, rfl, rfl, rfl, trivial⟩
          · rw [if_neg (show ¬ bI true = 0 by decide)]
            by_cases d : c < m_imN c (t + 1)
            · rw [show mfs c (t + 1) = true by show (mfs c t && decide (c < m_imN c (t + 1))) = true; rw [b, decide_eq_true d]; rfl] at jh2
              rw [if_pos (nI_lt d (by omega))]
              first
                | (with_reducible show At 231 _ 56 _ _ _ _)
                | (refine go 60 (by decide) ?_; simp only [KX, KY, KZ, KW, KV, Nat.reduceAdd, Nat.reduceSub, Nat.reduceLeDiff, true_and, and_true, true_or, or_true, or_self, reduceCtorEq, if_true, if_false, not_false_eq_true, eq_self, c231, (hs _).e80, (hs _).e84, (hs _).e101, ai_at, show lN ((1 : Fin 2).val) = lN 1 from rfl, show lN ((0 : Fin 2).val) = lN 0 from rfl])
              first
                | (with_reducible show At 231 _ 56 _ _ _ _)
                | (refine go 60 (by decide) ?_; simp only [KX, KY, KZ, KW, KV, Nat.reduceAdd, Nat.reduceSub, Nat.reduceLeDiff, true_and, and_true, true_or, or_true, or_self, reduceCtorEq, if_true, if_false, not_false_eq_true, eq_self, c231, (hs _).e80, (hs _).e84, (hs _).e101, ai_at, show lN ((1 : Fin 2).val) = lN 1 from rfl, show lN ((0 : Fin 2).val) = lN 0 from rfl])
              first
                | (with_reducible show At 231 _ 56 _ _ _ _)
                | (refine go 60 (by decide) ?_; simp only [KX, KY, KZ, KW, KV, Nat.reduceAdd, Nat.reduceSub, Nat.reduceLeDiff, true_and, and_true, true_or, or_true, or_self, reduceCtorEq, if_true, if_false, not_false_eq_true, eq_self, c231, (hs _).e80, (hs _).e84, (hs _).e101, ai_at, show lN ((1 : Fin 2).val) = lN 1 from rfl, show lN ((0 : Fin 2).val) = lN 0 from rfl])
              rw [nI_1 t]
              exact At_le jh2 ⟨rfl, rfl, rfl, rfl, rfl, rfl, rfl, rfl, rfl, rfl, rfl, rfl, trivial⟩
            · rw [show mfs c (t + 1) = false by show (mfs c t && decide (c < m_imN c (t + 1))) = false; rw [b, decide_eq_false d]; rfl] at jh2
              rw [if_neg (nI_nlt (by omega) (by omega))]
              first
                | (with_reducible show At 231 _ 56 _ _ _ _)
                | (refine go 60 (by decide) ?_; simp only [KX, KY, KZ, KW, KV, Nat.reduceAdd, Nat.reduceSub, Nat.reduceLeDiff, true_and, and_true, true_or, or_true, or_self, reduceCtorEq, if_true, if_false, not_false_eq_true, eq_self, c231, (hs _).e80, (hs _).e84, (hs _).e101, ai_at, show lN ((1 : Fin 2).val) = lN 1 from rfl, show lN ((0 : Fin 2).val) = lN 0 from rfl])
              first
                | (with_reducible show At 231 _ 56 _ _ _ _)
                | (refine go 60 (by decide) ?_; simp only [KX, KY, KZ, KW, KV, Nat.reduceAdd, Nat.reduceSub, Nat.reduceLeDiff, true_and, and_true, true_or, or_true, or_self, reduceCtorEq, if_true, if_false, not_false_eq_true, eq_self, c231, (hs _).e80, (hs _).e84, (hs _).e101, ai_at, show lN ((1 : Fin 2).val) = lN 1 from rfl, show lN ((0 : Fin 2).val) = lN 0 from rfl])
              first
                | (with_reducible show At 231 _ 56 _ _ _ _)
                | (refine go 60 (by decide) ?_; simp only [KX, KY, KZ, KW, KV, Nat.reduceAdd, Nat.reduceSub, Nat.reduceLeDiff, true_and, and_true, true_or, or_true, or_self, reduceCtorEq, if_true, if_false, not_false_eq_true, eq_self, c231, (hs _).e80, (hs _).e84, (hs _).e101, ai_at, show lN ((1 : Fin 2).val) = lN 1 from rfl, show lN ((0 : Fin 2).val) = lN 0 from rfl])
              rw [nI_1 t]
              exact At_le jh2 ⟨rfl, rfl, rfl, rfl, rfl, rfl, rfl, rfl, rfl, rfl, rfl, rfl, trivial⟩
      refine go 60 (by decide) ?_
      simp only [KX, KY, KZ, KW, KV, Nat.reduceAdd, Nat.reduceSub, Nat.reduceLeDiff, true_and, and_true, true_or, or_true, or_self, reduceCtorEq, if_true, if_false, not_false_eq_true, eq_self, c231, (hs _).e80, (hs _).e84, (hs _).e101, ai_at, show lN ((1 : Fin 2).val) = lN 1 from rfl, show lN ((0 : Fin 2).val) = lN 0 from rfl]
      rw [if_pos (show nI c < (91 : Int32) from nI_lt hc (by decide))]
      have l0 := lq 5 0 rfl
      by_cases w : c = 45
      · rw [if_pos (show nI c = nI 45 by rw [w])]
        rw [show mfs c 0 = false from decide_eq_false (fun z => z w)] at l0
        first
          | (with_reducible show At 231 _ 56 _ _ _ _)
          | (refine go 60 (by decide) ?_; simp only [KX, KY, KZ, KW, KV, Nat.reduceAdd, Nat.reduceSub, Nat.reduceLeDiff, true_and, and_true, true_or, or_true, or_self, reduceCtorEq, if_true, if_false, not_false_eq_true, eq_self, c231, (hs _).e80, (hs _).e84, (hs _).e101, ai_at, show lN ((1 : Fin 2).val) = lN 1 from rfl, show lN ((0 : Fin 2).val) = lN 0 from rfl])
        first
          | (with_reducible show At 231 _ 56 _ _ _ _)
          | (refine go 60 (by decide) ?_; simp only [KX, KY, KZ, KW, KV, Nat.reduceAdd, Nat.reduceSub, Nat.reduceLeDiff, true_and, and_true, true_or, or_true, or_self, reduceCtorEq, if_true, if_false, not_false_eq_true, eq_self, c231, (hs _).e80, (hs _).e84, (hs _).e101, ai_at, show lN ((1 : Fin 2).val) = lN 1 from rfl, show lN ((0 : Fin 2).val) = lN 0 from rfl])
        first
          | (with_reducible show At 231 _ 56 _ _ _ _)
          | (refine go 60 (by decide) ?_; simp only [KX, KY, KZ, KW, KV, Nat.reduceAdd, Nat.reduceSub, Nat.reduceLeDiff, true_and, and_true, true_or, or_true, or_self, reduceCtorEq, if_true, if_false, not_false_eq_true, eq_self, c231, (hs _).e80, (hs _).e84, (hs _).e101, ai_at, show lN ((1 : Fin 2).val) = lN 1 from rfl, show lN ((0 : Fin 2).val) = lN 0 from rfl])
        exact At_le l0 ⟨rfl, rfl, rfl, rfl, rfl, rfl, rfl, rfl, rfl, rfl, rfl, rfl, trivial⟩
      · rw [if_neg (fun z => w ((nI_eq (by omega) (by decide)).mp z))]
        rw [show mfs c 0 = true from decide_eq_true w] at l0
        first
          | (with_reducible show At 231 _ 56 _ _ _ _)
          | (refine go 60 (by decide) ?_; simp only [KX, KY, KZ, KW, KV, Nat.reduceAdd, Nat.reduceSub, Nat.reduceLeDiff, true_and, and_true, true_or, or_true, or_self, reduceCtorEq, if_true, if_false, not_false_eq_true, eq_self, c231, (hs _).e80, (hs _).e84, (hs _).e101, ai_at, show lN ((1 : Fin 2).val) = lN 1 from rfl, show lN ((0 : Fin 2).val) = lN 0 from rfl])
        first
          | (with_reducible show At 231 _ 56 _ _ _ _)
          | (refine go 60 (by decide) ?_; simp only [KX, KY, KZ, KW, KV, Nat.reduceAdd, Nat.reduceSub, Nat.reduceLeDiff, true_and, and_true, true_or, or_true, or_self, reduceCtorEq, if_true, if_false, not_false_eq_true, eq_self, c231, (hs _).e80, (hs _).e84, (hs _).e101, ai_at, show lN ((1 : Fin 2).val) = lN 1 from rfl, show lN ((0 : Fin 2).val) = lN 0 from rfl])
        first
          | (with_reducible show At 231 _ 56 _ _ _ _)
          | (refine go 60 (by decide) ?_; simp only [KX, KY, KZ, KW, KV, Nat.reduceAdd, Nat.reduceSub, Nat.reduceLeDiff, true_and, and_true, true_or, or_true, or_self, reduceCtorEq, if_true, if_false, not_false_eq_true, eq_self, c231, (hs _).e80, (hs _).e84, (hs _).e101, ai_at, show lN ((1 : Fin 2).val) = lN 1 from rfl, show lN ((0 : Fin 2).val) = lN 0 from rfl])
        exact At_le l0 ⟨rfl, rfl, rfl, rfl, rfl, rfl, rfl, rfl, rfl, rfl, rfl, rfl, trivial⟩
  refine ma_enter (m := 231) (Or.inl (by decide)) (by show 4 ≤ mt_n 231; decide +kernel) ?_
  show At 231 Q 0 (mt_c 231) [some (.ref 80), some (.int x), some (.int y), some (.int z), none, none, none, none, none, none, none, none, none] [] h
  refine go 60 (by decide) ?_
  simp only [KX, KY, KZ, KW, KV, Nat.reduceAdd, Nat.reduceSub, Nat.reduceLeDiff, true_and, and_true, true_or, or_true, or_self, reduceCtorEq, if_true, if_false, not_false_eq_true, eq_self, c231]
  refine s170y x1 x3 ?_
  refine go 60 (by decide) ?_
  simp only [KX, KY, KZ, KW, KV, Nat.reduceAdd, Nat.reduceSub, Nat.reduceLeDiff, true_and, and_true, true_or, or_true, or_self, reduceCtorEq, if_true, if_false, not_false_eq_true, eq_self, c231, H.e80]
  refine s210y H e9 y1 y2 ?_
  refine go 60 (by decide) ?_
  simp only [KX, KY, KZ, KW, KV, Nat.reduceAdd, Nat.reduceSub, Nat.reduceLeDiff, true_and, and_true, true_or, or_true, or_self, reduceCtorEq, if_true, if_false, not_false_eq_true, eq_self, c231]
  refine s171y z0 z1 ?_
  refine go 60 (by decide) ?_
  simp only [KX, KY, KZ, KW, KV, Nat.reduceAdd, Nat.reduceSub, Nat.reduceLeDiff, true_and, and_true, true_or, or_true, or_self, reduceCtorEq, if_true, if_false, not_false_eq_true, eq_self, c231, H.e80]
  rw [e91]
  refine s215 (A := 91 * f) H R (by omega) ok eg ha q2 (by omega) hk ek ea ?_
  rw [esu]
  refine go 60 (by decide) ?_
  simp only [KX, KY, KZ, KW, KV, Nat.reduceAdd, Nat.reduceSub, Nat.reduceLeDiff, true_and, and_true, true_or, or_true, or_self, reduceCtorEq, if_true, if_false, not_false_eq_true, eq_self, c231, (hs _).e80]
  rw [if_pos (show nI (sn (kbn (fz g kk (nI a))) 91) ≤ (30 : Int32) from nI_le (b := 30) m30 (by decide))]
  refine s168v (c := 45) (hs _) (hR _) (by decide) q45.1 q45.2 ?_
  refine go 60 (by decide) ?_
  simp only [KX, KY, KZ, KW, KV, Nat.reduceAdd, Nat.reduceSub, Nat.reduceLeDiff, true_and, and_true, true_or, or_true, or_self, reduceCtorEq, if_true, if_false, not_false_eq_true, eq_self, c231, (hs _).e80, (hs _).e84, (hs _).e101, ai_at, show lN ((1 : Fin 2).val) = lN 1 from rfl, show lN ((0 : Fin 2).val) = lN 0 from rfl]
  rw [nI_clamp (show 45 < 2 ^ 31 by decide), show upN (ai h 101) (fun c => c) (fz g kk (nI a)) 91 45 = (fz g kk (nI a)) 45 from upN_at (p := fun c => c) 91 (fun i j _ _ e => e) 45 (by decide)]
  refine ⟨nI_in (show 45 < 91 by decide) (by decide), ?_⟩
  have l0 := lp 91 0 rfl
  rcases fz01 g kk (nI a) 45 with w | w
  · rw [if_pos w]
    rw [show kbn (fz g kk (nI a)) 45 = 0 from if_pos w] at l0
    first
      | (with_reducible show At 231 _ 42 _ _ _ _)
      | (refine go 60 (by decide) ?_; simp only [KX, KY, KZ, KW, KV, Nat.reduceAdd, Nat.reduceSub, Nat.reduceLeDiff, true_and, and_true, true_or, or_true, or_self, reduceCtorEq, if_true, if_false, not_false_eq_true, eq_self, c231, (hs _).e80, (hs _).e84, (hs _).e101, ai_at, show lN ((1 : Fin 2).val) = lN 1 from rfl, show lN ((0 : Fin 2).val) = lN 0 from rfl])
    first
      | (with_reducible show At 231 _ 42 _ _ _ _)
      | (refine go 60 (by decide) ?_; simp only [KX, KY, KZ, KW, KV, Nat.reduceAdd, Nat.reduceSub, Nat.reduceLeDiff, true_and, and_true, true_or, or_true, or_self, reduceCtorEq, if_true, if_false, not_false_eq_true, eq_self, c231, (hs _).e80, (hs _).e84, (hs _).e101, ai_at, show lN ((1 : Fin 2).val) = lN 1 from rfl, show lN ((0 : Fin 2).val) = lN 0 from rfl])
    first
      | (with_reducible show At 231 _ 42 _ _ _ _)
      | (refine go 60 (by decide) ?_; simp only [KX, KY, KZ, KW, KV, Nat.reduceAdd, Nat.reduceSub, Nat.reduceLeDiff, true_and, and_true, true_or, or_true, or_self, reduceCtorEq, if_true, if_false, not_false_eq_true, eq_self, c231, (hs _).e80, (hs _).e84, (hs _).e101, ai_at, show lN ((1 : Fin 2).val) = lN 1 from rfl, show lN ((0 : Fin 2).val) = lN 0 from rfl])
    exact At_le l0 ⟨rfl, rfl, rfl, rfl, rfl, rfl, rfl, rfl, rfl, trivial⟩
  · rw [if_neg (show ¬ (fz g kk (nI a)) 45 = 0 by rw [w]; decide)]
    rw [show kbn (fz g kk (nI a)) 45 = 1 from if_neg (by rw [w]; decide)] at l0
    first
      | (with_reducible show At 231 _ 42 _ _ _ _)
      | (refine go 60 (by decide) ?_; simp only [KX, KY, KZ, KW, KV, Nat.reduceAdd, Nat.reduceSub, Nat.reduceLeDiff, true_and, and_true, true_or, or_true, or_self, reduceCtorEq, if_true, if_false, not_false_eq_true, eq_self, c231, (hs _).e80, (hs _).e84, (hs _).e101, ai_at, show lN ((1 : Fin 2).val) = lN 1 from rfl, show lN ((0 : Fin 2).val) = lN 0 from rfl])
    first
      | (with_reducible show At 231 _ 42 _ _ _ _)
      | (refine go 60 (by decide) ?_; simp only [KX, KY, KZ, KW, KV, Nat.reduceAdd, Nat.reduceSub, Nat.reduceLeDiff, true_and, and_true, true_or, or_true, or_self, reduceCtorEq, if_true, if_false, not_false_eq_true, eq_self, c231, (hs _).e80, (hs _).e84, (hs _).e101, ai_at, show lN ((1 : Fin 2).val) = lN 1 from rfl, show lN ((0 : Fin 2).val) = lN 0 from rfl])
    first
      | (with_reducible show At 231 _ 42 _ _ _ _)
      | (refine go 60 (by decide) ?_; simp only [KX, KY, KZ, KW, KV, Nat.reduceAdd, Nat.reduceSub, Nat.reduceLeDiff, true_and, and_true, true_or, or_true, or_self, reduceCtorEq, if_true, if_false, not_false_eq_true, eq_self, c231, (hs _).e80, (hs _).e84, (hs _).e101, ai_at, show lN ((1 : Fin 2).val) = lN 1 from rfl, show lN ((0 : Fin 2).val) = lN 0 from rfl])
    exact At_le l0 ⟨rfl, rfl, rfl, rfl, rfl, rfl, rfl, rfl, rfl, trivial⟩
theorem s231n {h : ma_H} {Q : ma_Q} {x y z : Int32} {n : Nat} (H : Sh h) (e : fi h 80 9 = nI n) (o : (x < 0 ∨ ¬ x ≤ 3) ∨ (y < 0 ∨ ¬ y ≤ nI n - 1) ∨ (z < 0 ∨ ¬ z ≤ 1)) (k : Q (some (.long (ma_kL (.negSucc 0)))) h) : ma_X 231 [.ref 80, .int x, .int y, .int z] h Q := by
  refine ma_enter (m := 231) (Or.inl (by decide)) (by show 4 ≤ mt_n 231; decide +kernel) ?_
  show At 231 Q 0 (mt_c 231) [some (.ref 80), some (.int x), some (.int y), some (.int z), none, none, none, none, none, none, none, none, none] [] h
  refine go 60 (by decide) ?_
  simp only [KX, KY, KZ, KW, KV, Nat.reduceAdd, Nat.reduceSub, Nat.reduceLeDiff, true_and, and_true, true_or, or_true, or_self, reduceCtorEq, if_true, if_false, not_false_eq_true, eq_self, c231]
  by_cases e1 : i_in x 0 3 = 0
  · refine s170 ?_
    rw [e1]
    refine go 60 (by decide) ?_
    simp only [KX, KY, KZ, KW, KV, Nat.reduceAdd, Nat.reduceSub, Nat.reduceLeDiff, true_and, and_true, true_or, or_true, or_self, reduceCtorEq, if_true, if_false, not_false_eq_true, eq_self, c231]
    exact k
  · refine s170 ?_
    rw [(i_in01n x 0 3).resolve_left e1]
    refine go 60 (by decide) ?_
    simp only [KX, KY, KZ, KW, KV, Nat.reduceAdd, Nat.reduceSub, Nat.reduceLeDiff, true_and, and_true, true_or, or_true, or_self, reduceCtorEq, if_true, if_false, not_false_eq_true, eq_self, c231, H.e80]
    have o2 := o.resolve_left (fun z => e1 (i_in_no z))
    by_cases oy : y < 0 ∨ ¬ y ≤ nI n - 1
    · refine s210n H e oy ?_
      refine go 60 (by decide) ?_
      simp only [KX, KY, KZ, KW, KV, Nat.reduceAdd, Nat.reduceSub, Nat.reduceLeDiff, true_and, and_true, true_or, or_true, or_self, reduceCtorEq, if_true, if_false, not_false_eq_true, eq_self, c231]
      exact k
    · refine s210y H e (fun w => oy (Or.inl w)) (Decidable.byContradiction fun w => oy (Or.inr w)) ?_
      refine go 60 (by decide) ?_
      simp only [KX, KY, KZ, KW, KV, Nat.reduceAdd, Nat.reduceSub, Nat.reduceLeDiff, true_and, and_true, true_or, or_true, or_self, reduceCtorEq, if_true, if_false, not_false_eq_true, eq_self, c231]
      refine s171n (o2.resolve_left oy) ?_
      refine go 60 (by decide) ?_
      simp only [KX, KY, KZ, KW, KV, Nat.reduceAdd, Nat.reduceSub, Nat.reduceLeDiff, true_and, and_true, true_or, or_true, or_self, reduceCtorEq, if_true, if_false, not_false_eq_true, eq_self, c231]
      exact k
