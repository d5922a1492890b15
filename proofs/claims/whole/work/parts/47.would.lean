/-! wouldBe answers alike -/
theorem nz0 : vp_nar .boolean 0 = 0 := rfl
theorem nz1 : vp_nar .boolean 1 = 1 := rfl
theorem lf_su {K l : Nat → Int32} (w : ∀ i, K i = 0 ∨ K i = 1) : ∀ n, nI (lf K l n).1 = su K n
  | 0 => rfl
  | n + 1 => by
    have ih := lf_su (l := l) w n
    show nI (if K n = 0 then lf K l n else ((lf K l n).1 + 1, upd (lf K l n).2 (lf K l n).1 (nI (ma_cell n)))).1 = su K n + K n
    rcases w n with z | z
    · rw [if_pos z, ih, z, Int32.add_zero]
    · rw [if_neg (by rw [z]; decide), z, ← ih, nI_1]
theorem s215 {h : ma_H} {Q : ma_Q} {A gi kk a : Nat} {x : Int32} {g : Nat → Int32} (H : Sh h) (R : Rt h) (hA : A + 91 ≤ 910) (ok : fl_ok g) (eg : ∀ i, i < 91 → g (ma_cell i) = ai h 88 (A + i)) (ha : a < 64) (q : x = nI gi) (hg6 : gi < 6) (hk : kk < 6) (ek : ai h 90 (2 * gi) = nI kk) (ea : ai h 90 (2 * gi + 1) = nI a) (k : Q (some (.int (su (fz g kk (nI a)) 91))) (ma_set h 101 (.inl (.boolean, 91, .inl (upN (ai h 101) (fun c => c) (fz g kk (nI a)) 91))))) : ma_X 215 [.ref 80, .int (nI A), .int x] h Q := by
  have hs : ∀ g, Sh (ma_set h 101 (.inl (.boolean, 91, .inl g))) := fun g => sh_set H rfl
  have hR : ∀ g, Rt (ma_set h 101 (.inl (.boolean, 91, .inl g))) := fun g => R
  have lp : ∀ ni i, i + ni = 91 → At 215 Q 4 (0, 0) [some (.ref 80), some (.int (nI A)), some (.int x), some (.int (su (fz g kk (nI a)) i)), some (.int (nI i))] [] (ma_set h 101 (.inl (.boolean, 91, .inl (upN (ai h 101) (fun c => c) (fz g kk (nI a)) i)))) := by
    intro ni
    induction ni with
    | zero =>
      intro i e
      obtain rfl : i = 91 := by omega
      refine go 60 (by decide) ?_
      simp only [KX, KY, KZ, KW, KV, Nat.reduceAdd, Nat.reduceSub, Nat.reduceLeDiff, true_and, and_true, true_or, or_true, or_self, reduceCtorEq, if_true, if_false, not_false_eq_true, eq_self, c215, (hs _).e80, (hs _).e101]
      rw [if_neg (show ¬ nI 91 < (91 : Int32) from nI_nlt (Nat.le_refl _) (by decide))]
      exact k
    | succ ni ih =>
      intro i e
      have hi : i < 91 := by omega
      have e1i := nI_1 i
      refine go 60 (by decide) ?_
      simp only [KX, KY, KZ, KW, KV, Nat.reduceAdd, Nat.reduceSub, Nat.reduceLeDiff, true_and, and_true, true_or, or_true, or_self, reduceCtorEq, if_true, if_false, not_false_eq_true, eq_self, c215, (hs _).e80, (hs _).e101]
      rw [if_pos (show nI i < (91 : Int32) from nI_lt hi (by decide))]
      refine s214 (hs _) (hR _) hA hi ok eg ha q hg6 hk ek ea ?_
      have d1 : su (fz g kk (nI a)) (i + 1) = su (fz g kk (nI a)) i + fz g kk (nI a) i := rfl
      have d2 : upN (ai h 101) (fun c => c) (fz g kk (nI a)) (i + 1) = upd (upN (ai h 101) (fun c => c) (fz g kk (nI a)) i) i (fz g kk (nI a) i) := rfl
      have ih2 := ih (i + 1) (by omega)
      rcases fz01 g kk (nI a) i with z | z
      · rw [z] at d1 d2 ⊢
        refine go 60 (by decide) ?_
        simp only [KX, KY, KZ, KW, KV, Nat.reduceAdd, Nat.reduceSub, Nat.reduceLeDiff, true_and, and_true, true_or, or_true, or_self, reduceCtorEq, if_true, if_false, not_false_eq_true, eq_self, c215, H.e80, ma_set_at, nz0, ma_get, Nat.reduceEqDiff, ↓reduceIte, Int32.reduceLT, Int32.reduceLE]
        rw [nI_clamp (show i < 2 ^ 31 by omega)]
        rw [show upd (upN (ai h 101) (fun c => c) (fz g kk (nI a)) i) i 0 i = 0 from if_pos rfl]
        refine ⟨nI_in hi (by decide), nI_in hi (by decide), ?_⟩
        first
          | rw [if_pos rfl]
          | rw [if_neg (show ¬ (1 : Int32) = 0 by decide)]
        refine go 60 (by decide) ?_
        simp only [KX, KY, KZ, KW, KV, Nat.reduceAdd, Nat.reduceSub, Nat.reduceLeDiff, true_and, and_true, true_or, or_true, or_self, reduceCtorEq, if_true, if_false, not_false_eq_true, eq_self, c215]
        rw [ma_set_set, e1i, ← d1]
        rw [d2] at ih2
        exact ih2
      · rw [z] at d1 d2 ⊢
        refine go 60 (by decide) ?_
        simp only [KX, KY, KZ, KW, KV, Nat.reduceAdd, Nat.reduceSub, Nat.reduceLeDiff, true_and, and_true, true_or, or_true, or_self, reduceCtorEq, if_true, if_false, not_false_eq_true, eq_self, c215, H.e80, ma_set_at, nz1, ma_get, Nat.reduceEqDiff, ↓reduceIte, Int32.reduceLT, Int32.reduceLE]
        rw [nI_clamp (show i < 2 ^ 31 by omega)]
        rw [show upd (upN (ai h 101) (fun c => c) (fz g kk (nI a)) i) i 1 i = 1 from if_pos rfl]
        refine ⟨nI_in hi (by decide), nI_in hi (by decide), ?_⟩
        first
          | rw [if_pos rfl]
          | rw [if_neg (show ¬ (1 : Int32) = 0 by decide)]
        refine go 60 (by decide) ?_
        simp only [KX, KY, KZ, KW, KV, Nat.reduceAdd, Nat.reduceSub, Nat.reduceLeDiff, true_and, and_true, true_or, or_true, or_self, reduceCtorEq, if_true, if_false, not_false_eq_true, eq_self, c215]
        rw [ma_set_set, e1i, ← d1]
        rw [d2] at ih2
        exact ih2
  refine ma_enter (m := 215) (Or.inl (by decide)) (by show 3 ≤ mt_n 215; decide +kernel) ?_
  show At 215 Q 0 (mt_c 215) [some (.ref 80), some (.int (nI A)), some (.int x), none, none] [] h
  refine go 60 (by decide) ?_
  simp only [KX, KY, KZ, KW, KV, Nat.reduceAdd, Nat.reduceSub, Nat.reduceLeDiff, true_and, and_true, true_or, or_true, or_self, reduceCtorEq, if_true, if_false, not_false_eq_true, eq_self, c215]
  have l9 := lp 91 0 rfl
  rw [show (ma_set h 101 (.inl (.boolean, 91, .inl (upN (ai h 101) (fun c => c) (fz g kk (nI a)) 0)))) = h from ma_set_id H.e101] at l9
  exact l9
theorem s118 {h : ma_H} {Q : ma_Q} {x y : Int32} {f n i r kk a : Nat} (H : Sh h) (R : Rr h) (hf : f < 4) (q : x = nI f) (e : fi h 34 2 = nI n) (n6 : n ≤ 6) (hi : i < n) (q2 : y = nI i) (er : ar h 48 i = some r) (r115 : 115 ≤ r) (hk : kk < 6) (eo : h.2.1 r = .inr (g_cls kk, [.int (nI kk), .int (nI i), .int (nI a), .ref 27])) (k : Q (some (.int (nI (lf (fz (ai h (37 + 3 * f)) kk (nI a)) (ai h 55) 91).1))) (ma_set h 55 (.inl (.int, 91, .inl (lf (fz (ai h (37 + 3 * f)) kk (nI a)) (ai h 55) 91).2)))) : ma_X 118 [.ref 0, .int x, .int y] h Q := by
  refine ma_enter (m := 118) (Or.inl (by decide)) (by show 3 ≤ mt_n 118; decide +kernel) ?_
  show At 118 Q 0 (mt_c 118) [some (.ref 0), some (.int x), some (.int y), none, none] [] h
  refine go 60 (by decide) ?_
  simp only [KX, KY, KZ, KW, KV, Nat.reduceAdd, Nat.reduceSub, Nat.reduceLeDiff, true_and, and_true, true_or, or_true, or_self, reduceCtorEq, if_true, if_false, not_false_eq_true, eq_self, c118, H.e0]
  refine s145e H R hf q ?_
  refine go 60 (by decide) ?_
  simp only [KX, KY, KZ, KW, KV, Nat.reduceAdd, Nat.reduceSub, Nat.reduceLeDiff, true_and, and_true, true_or, or_true, or_self, reduceCtorEq, if_true, if_false, not_false_eq_true, eq_self, c118, H.e0, H.e34]
  refine s95 H e n6 hi q2 er ?_
  refine go 60 (by decide) ?_
  simp only [KX, KY, KZ, KW, KV, Nat.reduceAdd, Nat.reduceSub, Nat.reduceLeDiff, true_and, and_true, true_or, or_true, or_self, reduceCtorEq, if_true, if_false, not_false_eq_true, eq_self, c118, H.e0, H.e34, eo, (vt289 kk hk).2.1, show mt_c 42 = (0, 0) from rfl]
  refine s42 (c := 0) (H.fn hf).1 (H.fn hf).2.1 hk eo H.e55 (by omega) (by omega) (by omega) ?_
  refine go 60 (by decide) ?_
  simp only [KX, KY, KZ, KW, KV, Nat.reduceAdd, Nat.reduceSub, Nat.reduceLeDiff, true_and, and_true, true_or, or_true, or_self, reduceCtorEq, if_true, if_false, not_false_eq_true, eq_self, c118]
  exact k
theorem s118n {h : ma_H} {Q : ma_Q} {x y : Int32} {n : Nat} (H : Sh h) (R : Rr h) (e : fi h 34 2 = nI n) (n6 : n ≤ 6) (G : ∀ i, i < n → ∃ r, ar h 48 i = some r) (o : (x < 0 ∨ ¬ x < 4) ∨ (y < 0 ∨ ¬ y < nI n)) (k : Q (some (.int (-1))) h) : ma_X 118 [.ref 0, .int x, .int y] h Q := by
  refine ma_enter (m := 118) (Or.inl (by decide)) (by show 3 ≤ mt_n 118; decide +kernel) ?_
  show At 118 Q 0 (mt_c 118) [some (.ref 0), some (.int x), some (.int y), none, none] [] h
  refine go 60 (by decide) ?_
  simp only [KX, KY, KZ, KW, KV, Nat.reduceAdd, Nat.reduceSub, Nat.reduceLeDiff, true_and, and_true, true_or, or_true, or_self, reduceCtorEq, if_true, if_false, not_false_eq_true, eq_self, c118, H.e0]
  rcases icasB x 3 (by decide) with ⟨f, l, q, x1, x2, -⟩ | ⟨-, ox⟩
  · refine s145e H R l q ?_
    refine go 60 (by decide) ?_
    simp only [KX, KY, KZ, KW, KV, Nat.reduceAdd, Nat.reduceSub, Nat.reduceLeDiff, true_and, and_true, true_or, or_true, or_self, reduceCtorEq, if_true, if_false, not_false_eq_true, eq_self, c118, H.e0, H.e34]
    have oy := o.resolve_left (by rintro (w | w); exact x1 w; exact w x2)
    refine s95n H e oy ?_
    refine go 60 (by decide) ?_
    simp only [KX, KY, KZ, KW, KV, Nat.reduceAdd, Nat.reduceSub, Nat.reduceLeDiff, true_and, and_true, true_or, or_true, or_self, reduceCtorEq, if_true, if_false, not_false_eq_true, eq_self, c118]
    exact k
  · refine s145n H ox ?_
    refine go 60 (by decide) ?_
    simp only [KX, KY, KZ, KW, KV, Nat.reduceAdd, Nat.reduceSub, Nat.reduceLeDiff, true_and, and_true, true_or, or_true, or_self, reduceCtorEq, if_true, if_false, not_false_eq_true, eq_self, c118, H.e0, H.e34]
    rcases icasN y n (by omega) with ⟨i, hi, q, -⟩ | ⟨oy, -⟩
    · obtain ⟨r, er⟩ := G i hi
      refine s95 H e n6 hi q er ?_
      refine go 60 (by decide) ?_
      simp only [KX, KY, KZ, KW, KV, Nat.reduceAdd, Nat.reduceSub, Nat.reduceLeDiff, true_and, and_true, true_or, or_true, or_self, reduceCtorEq, if_true, if_false, not_false_eq_true, eq_self, c118]
      exact k
    · refine s95n H e oy ?_
      refine go 60 (by decide) ?_
      simp only [KX, KY, KZ, KW, KV, Nat.reduceAdd, Nat.reduceSub, Nat.reduceLeDiff, true_and, and_true, true_or, or_true, or_self, reduceCtorEq, if_true, if_false, not_false_eq_true, eq_self, c118]
      exact k
theorem s216 {h : ma_H} {Q : ma_Q} {f n gi kk a : Nat} {x y : Int32} {g : Nat → Int32} (H : Sh h) (R : Rt h) (ok : fl_ok g) (eg : ∀ i, i < 91 → g (ma_cell i) = ai h 88 (91 * f + i)) (ha : a < 64) (hf : f < 4) (q : x = nI f) (q2 : y = nI gi) (e9 : fi h 80 9 = nI n) (n6 : n ≤ 6) (hg : gi < n) (hk : kk < 6) (ek : ai h 90 (2 * gi) = nI kk) (ea : ai h 90 (2 * gi + 1) = nI a) (k : Q (some (.int (su (fz g kk (nI a)) 91))) (ma_set h 101 (.inl (.boolean, 91, .inl (upN (ai h 101) (fun c => c) (fz g kk (nI a)) 91))))) : ma_X 216 [.ref 80, .int x, .int y] h Q := by
  have y1 : ¬ y < 0 := by subst q2; exact nI_pos (by omega)
  have y2 : y ≤ nI n - 1 := by subst q2; obtain ⟨m, rfl⟩ : ∃ m, n = m + 1 := ⟨n - 1, by omega⟩; rw [nI_pred]; exact nI_le (by omega) (by omega)
  refine ma_enter (m := 216) (Or.inl (by decide)) (by show 3 ≤ mt_n 216; decide +kernel) ?_
  show At 216 Q 0 (mt_c 216) [some (.ref 80), some (.int x), some (.int y)] [] h
  refine go 60 (by decide) ?_
  simp only [KX, KY, KZ, KW, KV, Nat.reduceAdd, Nat.reduceSub, Nat.reduceLeDiff, true_and, and_true, true_or, or_true, or_self, reduceCtorEq, if_true, if_false, not_false_eq_true, eq_self, c216]
  refine s170y (by subst q; exact nI_pos (by omega)) (by subst q; exact nI_le (a := f) (b := 3) (by omega) (by decide)) ?_
  refine go 60 (by decide) ?_
  simp only [KX, KY, KZ, KW, KV, Nat.reduceAdd, Nat.reduceSub, Nat.reduceLeDiff, true_and, and_true, true_or, or_true, or_self, reduceCtorEq, if_true, if_false, not_false_eq_true, eq_self, c216, H.e80]
  refine s210y H e9 y1 y2 ?_
  refine go 60 (by decide) ?_
  simp only [KX, KY, KZ, KW, KV, Nat.reduceAdd, Nat.reduceSub, Nat.reduceLeDiff, true_and, and_true, true_or, or_true, or_self, reduceCtorEq, if_true, if_false, not_false_eq_true, eq_self, c216, H.e80]
  rw [ix91n q]
  refine s215 (A := 91 * f) H R (by omega) ok eg ha q2 (by omega) hk ek ea ?_
  refine go 60 (by decide) ?_
  simp only [KX, KY, KZ, KW, KV, Nat.reduceAdd, Nat.reduceSub, Nat.reduceLeDiff, true_and, and_true, true_or, or_true, or_self, reduceCtorEq, if_true, if_false, not_false_eq_true, eq_self, c216]
  exact k
theorem s216n {h : ma_H} {Q : ma_Q} {x y : Int32} {n : Nat} (H : Sh h) (e : fi h 80 9 = nI n) (o : (x < 0 ∨ ¬ x ≤ 3) ∨ (y < 0 ∨ ¬ y ≤ nI n - 1)) (k : Q (some (.int (-1))) h) : ma_X 216 [.ref 80, .int x, .int y] h Q := by
  refine ma_enter (m := 216) (Or.inl (by decide)) (by show 3 ≤ mt_n 216; decide +kernel) ?_
  show At 216 Q 0 (mt_c 216) [some (.ref 80), some (.int x), some (.int y)] [] h
  refine go 60 (by decide) ?_
  simp only [KX, KY, KZ, KW, KV, Nat.reduceAdd, Nat.reduceSub, Nat.reduceLeDiff, true_and, and_true, true_or, or_true, or_self, reduceCtorEq, if_true, if_false, not_false_eq_true, eq_self, c216]
  by_cases e1 : i_in x 0 3 = 0
  · refine s170 ?_
    rw [e1]
    refine go 60 (by decide) ?_
    simp only [KX, KY, KZ, KW, KV, Nat.reduceAdd, Nat.reduceSub, Nat.reduceLeDiff, true_and, and_true, true_or, or_true, or_self, reduceCtorEq, if_true, if_false, not_false_eq_true, eq_self, c216]
    exact k
  · refine s170 ?_
    rw [(i_in01n x 0 3).resolve_left e1]
    refine go 60 (by decide) ?_
    simp only [KX, KY, KZ, KW, KV, Nat.reduceAdd, Nat.reduceSub, Nat.reduceLeDiff, true_and, and_true, true_or, or_true, or_self, reduceCtorEq, if_true, if_false, not_false_eq_true, eq_self, c216, H.e80]
    refine s210n H e (o.resolve_left (fun z => e1 (i_in_no z))) ?_
    refine go 60 (by decide) ?_
    simp only [KX, KY, KZ, KW, KV, Nat.reduceAdd, Nat.reduceSub, Nat.reduceLeDiff, true_and, and_true, true_or, or_true, or_self, reduceCtorEq, if_true, if_false, not_false_eq_true, eq_self, c216]
    exact k
theorem p118 {h : ma_H} {x y : Int32} (I : Inv h) : Pair h 118 216 [.int x, .int y] := by
  intro Q k
  obtain ⟨n, n6, e1, e2, g⟩ := I.ng.at
  have G : ∀ i, i < n → ∃ r, ar h 48 i = some r := fun i hi => by obtain ⟨r, -, -, er, -⟩ := g i hi; exact ⟨r, er⟩
  have bad : ((x < 0 ∨ ¬ x < 4) ∨ (y < 0 ∨ ¬ y < nI n)) → ((x < 0 ∨ ¬ x ≤ 3) ∨ (y < 0 ∨ ¬ y ≤ nI n - 1)) → ma_X 118 [.ref 0, .int x, .int y] h Q := fun o1 o2 => s118n I.sh I.rr e1 n6 G o1 (k _ _ (by repeat (first | exact e80_I I | exact e80_S (by assumption) | exact e80_I (by assumption) | exact e80_n I.sh | refine e80_s (by omega) ?_)) fun Q2 k2 => s216n I.sh e2 o2 (k2 _ I))
  rcases icasB x 3 (by decide) with ⟨f, l, q, -⟩ | ⟨o1, o2⟩
  · rcases icasN y n (by omega) with ⟨i, hi, q2, -⟩ | ⟨o1, o2⟩
    · obtain ⟨r, kk, a, er, r115, -, hk, ha, eo, f1, f2⟩ := g i hi
      refine s118 I.sh I.rr l q e1 n6 hi q2 er r115 hk eo (k _ _ (by repeat (first | exact e80_I I | exact e80_S (by assumption) | exact e80_I (by assumption) | exact e80_n I.sh | refine e80_s (by omega) ?_)) fun Q2 k2 => ?_)
      rw [lf_su (fz01 _ kk (nI a)) 91] at k2
      refine s216 (g := ai h (37 + 3 * f)) (sh_set I.sh rfl) I.rt (I.nf.ok l) (fun j hj => I.nf.eq l hj) ha l q q2 e2 n6 hi hk f1 f2 ?_
      exact k2 _ ⟨(sh_set (sh_set I.sh rfl) rfl), I.rr, I.rt, ⟨(I.nf.cong (fun a ha => by simp (disch := omega) only [ma_set_ne])), (I.ng.cong2 (Nat.le_refl _) rfl rfl (fun a ha => by simp (disch := omega) only [ma_set_ne])), I.nm, I.na, I.nl⟩, (I.rk.cong2 (Nat.le_refl _) rfl rfl (fun a ha => by simp (disch := omega) only [ma_set_ne])), I.rp, (I.rw.cong2 rfl rfl (fun a ha => by simp (disch := omega) only [ma_set_ne])), (I.rs.cong (fun a ha => by simp (disch := omega) only [ma_set_ne])), I.rv, I.ra, I.rc⟩
    · exact bad (Or.inr o1) (Or.inr o2)
  · exact bad (Or.inl o2) (Or.inl o1)
