/-! prove answers alike -/
/-- rows alone changed -/
theorem Inv.rows {h h' : ma_H} (I : Inv h) (S : Sh h') (n : h'.1 = h.1) (e : ∀ a, a ≠ 0 → a ≠ 80 → ¬ (12 ≤ a ∧ a ≤ 17) → a ≠ 104 → a ≠ 105 → h'.2.1 a = h.2.1 a) (f0 : ∀ i, i ≠ 8 → fi h' 0 i = fi h 0 i) (f80 : ∀ i, i ≠ 41 → i ≠ 42 → fi h' 80 i = fi h 80 i) (w : Rw h') : Inv h' := by
  have c : ∀ a, a ≠ 0 → a ≠ 80 → ¬ (12 ≤ a ∧ a ≤ 17) → a ≠ 104 → a ≠ 105 → ai h' a = ai h a := fun a a1 a2 a3 a4 a5 => by show aiC _ = aiC _; rw [e a a1 a2 a3 a4 a5]
  have c34 : ∀ i, fi h' 34 i = fi h 34 i := fun i => by show fiC _ i = fiC _ i; rw [e 34 (by decide) (by decide) (by decide) (by decide) (by decide)]
  have c27 : ∀ i, fi h' 27 i = fi h 27 i := fun i => by show fiC _ i = fiC _ i; rw [e 27 (by decide) (by decide) (by decide) (by decide) (by decide)]
  have c49 : ∀ i, fi h' 49 i = fi h 49 i := fun i => by show fiC _ i = fiC _ i; rw [e 49 (by decide) (by decide) (by decide) (by decide) (by decide)]
  refine ⟨S, I.rr.cong fun a x => e a (by omega) (by omega) (by omega) (by omega) (by omega), I.rt.cong fun a x => e a (by omega) (by omega) (by omega) (by omega) (by omega), ⟨I.nf.cong fun a x => e a (by omega) (by omega) (by omega) (by omega) (by omega), I.ng.cong2 (by omega) (c34 2) (f80 9 (by decide) (by decide)) fun a x => e a (by omega) (by omega) (by omega) (by omega) (by omega), ?_, I.na.cong fun a x => e a (by omega) (by omega) (by omega) (by omega) (by omega), ?_⟩, I.rk.cong2 (by omega) (f0 2 (by decide)) (f80 55 (by decide) (by decide)) fun a x => e a (by omega) (by omega) (by omega) (by omega) (by omega), ?_, w, I.rs.cong fun a x => e a (by omega) (by omega) (by omega) (by omega) (by omega), I.rv.cong fun a x => e a (by omega) (by omega) (by omega) (by omega) (by omega), ?_, I.rc.cong fun a x => e a (by omega) (by omega) (by omega) (by omega) (by omega)⟩
  · have nm := I.nm
    unfold Nm at nm ⊢
    rw [c34, c34, f80 11 (by decide) (by decide), f80 12 (by decide) (by decide)]
    exact nm
  · have nl := I.nl
    unfold Nl at nl ⊢
    rw [c49, f80 14 (by decide) (by decide), c 50 (by decide) (by decide) (by decide) (by decide) (by decide), c 51 (by decide) (by decide) (by decide) (by decide) (by decide), c 52 (by decide) (by decide) (by decide) (by decide) (by decide), c 92 (by decide) (by decide) (by decide) (by decide) (by decide), c 93 (by decide) (by decide) (by decide) (by decide) (by decide)]
    exact nl
  · have rp := I.rp
    unfold Rp at rp ⊢
    rw [f0 4 (by decide), f80 18 (by decide) (by decide), c 94 (by decide) (by decide) (by decide) (by decide) (by decide), c 1 (by decide) (by decide) (by decide) (by decide) (by decide)]
    exact rp
  · have ra := I.ra
    unfold Ra at ra ⊢
    rw [c27, f80 53 (by decide) (by decide), c 28 (by decide) (by decide) (by decide) (by decide) (by decide), c 112 (by decide) (by decide) (by decide) (by decide) (by decide)]
    exact ra
theorem su_ring {h : ma_H} (N : Nf h) {f : Nat} (l : f < 4) (w : Int32) : su (ml_ringIce (ai h 88) w (91 * f)) 91 = su (fl_ringIce (ai h (37 + 3 * f)) w) 91 := su_congr 91 fun i hi => by
  unfold ml_ringIce fl_ringIce fl_has
  rw [N.eq l hi]
theorem s242 {h : ma_H} {Q : ma_Q} {x : Int32} {f : Nat} {K : Nat → Int32} (H : Sh h) (R : Rt h) (l : f < 4) (q : x = nI f) (hK : ∀ i, i < 6 → su (ml_ringIce (ai h 88) (nI i) (91 * f)) 91 = K i) (k : ∀ h1, PM h K 6 h1 → Q (some (.int (nI (cnt K 6)))) (ma_set (ma_set h1 80 (.inr (12, [.ref 81, .ref 82, .ref 83, .ref 84, .ref 85, .ref 86, .ref 87, .ref 88, .ref 89, .int (fi h 80 9), .ref 90, .int (fi h 80 11), .int (fi h 80 12), .ref 91, .int (fi h 80 14), .ref 92, .ref 93, .ref 94, .int (fi h 80 18), .int (fi h 80 19), .int (fi h 80 20), .int (fi h 80 21), .long (fj h 80 22), .int (fi h 80 23), .int (fi h 80 24), .ref 95, .ref 96, .ref 97, .int (fi h 80 28), .int (fi h 80 29), .int (fi h 80 30), .ref 98, .ref 99, .ref 100, .ref 101, .long (fj h 80 35), .long (fj h 80 36), .ref 102, .ref 103, .ref 104, .ref 105, .int (nI (cnt K 6)), .int (nI (cnt K 6)), .ref 106, .ref 107, .ref 108, .ref 109, .ref 110, .ref 111, .int (fi h 80 49), .int (fi h 80 50), .int (fi h 80 51), .ref 112, .int (fi h 80 53), .int (fi h 80 54), .int (fi h 80 55), .ref 113, .int (fi h 80 57), .ref 114]))) 104 (.inl (.int, 12, .inl (upN (ai h1 104) (fun c => c) (ai h1 105) (2 * cnt K 6)))))) : ma_X 242 [.ref 80, .int x] h Q := by
  have hc := cnt_le K 6
  have lp : ∀ h1, PM h K 6 h1 → ∀ n i, i + n = 2 * cnt K 6 → At 242 Q 14 (0, 0) [some (.ref 80), some (.int x), some (.int (nI i))] [] (ma_set (ma_set h1 80 (.inr (12, [.ref 81, .ref 82, .ref 83, .ref 84, .ref 85, .ref 86, .ref 87, .ref 88, .ref 89, .int (fi h 80 9), .ref 90, .int (fi h 80 11), .int (fi h 80 12), .ref 91, .int (fi h 80 14), .ref 92, .ref 93, .ref 94, .int (fi h 80 18), .int (fi h 80 19), .int (fi h 80 20), .int (fi h 80 21), .long (fj h 80 22), .int (fi h 80 23), .int (fi h 80 24), .ref 95, .ref 96, .ref 97, .int (fi h 80 28), .int (fi h 80 29), .int (fi h 80 30), .ref 98, .ref 99, .ref 100, .ref 101, .long (fj h 80 35), .long (fj h 80 36), .ref 102, .ref 103, .ref 104, .ref 105, .int (nI (cnt K 6)), .int (nI (cnt K 6)), .ref 106, .ref 107, .ref 108, .ref 109, .ref 110, .ref 111, .int (fi h 80 49), .int (fi h 80 50), .int (fi h 80 51), .ref 112, .int (fi h 80 53), .int (fi h 80 54), .int (fi h 80 55), .ref 113, .int (fi h 80 57), .ref 114]))) 104 (.inl (.int, 12, .inl (upN (ai h1 104) (fun c => c) (ai h1 105) i)))) := by
    intro h1 P n
    have P1 := P.1
    have e80 : ∀ c, (ma_set (ma_set h1 80 (.inr (12, [.ref 81, .ref 82, .ref 83, .ref 84, .ref 85, .ref 86, .ref 87, .ref 88, .ref 89, .int (fi h 80 9), .ref 90, .int (fi h 80 11), .int (fi h 80 12), .ref 91, .int (fi h 80 14), .ref 92, .ref 93, .ref 94, .int (fi h 80 18), .int (fi h 80 19), .int (fi h 80 20), .int (fi h 80 21), .long (fj h 80 22), .int (fi h 80 23), .int (fi h 80 24), .ref 95, .ref 96, .ref 97, .int (fi h 80 28), .int (fi h 80 29), .int (fi h 80 30), .ref 98, .ref 99, .ref 100, .ref 101, .long (fj h 80 35), .long (fj h 80 36), .ref 102, .ref 103, .ref 104, .ref 105, .int (nI (cnt K 6)), .int (nI (cnt K 6)), .ref 106, .ref 107, .ref 108, .ref 109, .ref 110, .ref 111, .int (fi h 80 49), .int (fi h 80 50), .int (fi h 80 51), .ref 112, .int (fi h 80 53), .int (fi h 80 54), .int (fi h 80 55), .ref 113, .int (fi h 80 57), .ref 114]))) 104 c).2.1 80 = .inr (12, [.ref 81, .ref 82, .ref 83, .ref 84, .ref 85, .ref 86, .ref 87, .ref 88, .ref 89, .int (fi h 80 9), .ref 90, .int (fi h 80 11), .int (fi h 80 12), .ref 91, .int (fi h 80 14), .ref 92, .ref 93, .ref 94, .int (fi h 80 18), .int (fi h 80 19), .int (fi h 80 20), .int (fi h 80 21), .long (fj h 80 22), .int (fi h 80 23), .int (fi h 80 24), .ref 95, .ref 96, .ref 97, .int (fi h 80 28), .int (fi h 80 29), .int (fi h 80 30), .ref 98, .ref 99, .ref 100, .ref 101, .long (fj h 80 35), .long (fj h 80 36), .ref 102, .ref 103, .ref 104, .ref 105, .int (nI (cnt K 6)), .int (nI (cnt K 6)), .ref 106, .ref 107, .ref 108, .ref 109, .ref 110, .ref 111, .int (fi h 80 49), .int (fi h 80 50), .int (fi h 80 51), .ref 112, .int (fi h 80 53), .int (fi h 80 54), .int (fi h 80 55), .ref 113, .int (fi h 80 57), .ref 114]) := fun c => (ma_set_ne _ _ (by decide)).trans (ma_set_at _ _ _)
    have e104 : ∀ c, (ma_set (ma_set h1 80 (.inr (12, [.ref 81, .ref 82, .ref 83, .ref 84, .ref 85, .ref 86, .ref 87, .ref 88, .ref 89, .int (fi h 80 9), .ref 90, .int (fi h 80 11), .int (fi h 80 12), .ref 91, .int (fi h 80 14), .ref 92, .ref 93, .ref 94, .int (fi h 80 18), .int (fi h 80 19), .int (fi h 80 20), .int (fi h 80 21), .long (fj h 80 22), .int (fi h 80 23), .int (fi h 80 24), .ref 95, .ref 96, .ref 97, .int (fi h 80 28), .int (fi h 80 29), .int (fi h 80 30), .ref 98, .ref 99, .ref 100, .ref 101, .long (fj h 80 35), .long (fj h 80 36), .ref 102, .ref 103, .ref 104, .ref 105, .int (nI (cnt K 6)), .int (nI (cnt K 6)), .ref 106, .ref 107, .ref 108, .ref 109, .ref 110, .ref 111, .int (fi h 80 49), .int (fi h 80 50), .int (fi h 80 51), .ref 112, .int (fi h 80 53), .int (fi h 80 54), .int (fi h 80 55), .ref 113, .int (fi h 80 57), .ref 114]))) 104 c).2.1 104 = c := fun c => ma_set_at _ _ _
    have e105 : ∀ c, (ma_set (ma_set h1 80 (.inr (12, [.ref 81, .ref 82, .ref 83, .ref 84, .ref 85, .ref 86, .ref 87, .ref 88, .ref 89, .int (fi h 80 9), .ref 90, .int (fi h 80 11), .int (fi h 80 12), .ref 91, .int (fi h 80 14), .ref 92, .ref 93, .ref 94, .int (fi h 80 18), .int (fi h 80 19), .int (fi h 80 20), .int (fi h 80 21), .long (fj h 80 22), .int (fi h 80 23), .int (fi h 80 24), .ref 95, .ref 96, .ref 97, .int (fi h 80 28), .int (fi h 80 29), .int (fi h 80 30), .ref 98, .ref 99, .ref 100, .ref 101, .long (fj h 80 35), .long (fj h 80 36), .ref 102, .ref 103, .ref 104, .ref 105, .int (nI (cnt K 6)), .int (nI (cnt K 6)), .ref 106, .ref 107, .ref 108, .ref 109, .ref 110, .ref 111, .int (fi h 80 49), .int (fi h 80 50), .int (fi h 80 51), .ref 112, .int (fi h 80 53), .int (fi h 80 54), .int (fi h 80 55), .ref 113, .int (fi h 80 57), .ref 114]))) 104 c).2.1 105 = .inl (.int, 12, .inl (ai h1 105)) := fun c => (ma_set_ne _ _ (by decide)).trans ((ma_set_ne _ _ (by decide)).trans P1.e105)
    induction n with
    | zero =>
      intro i e
      obtain rfl : i = 2 * cnt K 6 := by omega
      refine go 60 (by decide) ?_
      simp only [KX, KY, KZ, KW, KV, Nat.reduceAdd, Nat.reduceSub, Nat.reduceLeDiff, true_and, and_true, true_or, or_true, or_self, reduceCtorEq, if_true, if_false, not_false_eq_true, eq_self, c242, e80, e104, e105, ma_set_at]
      rw [show (2 : Int32) * nI (cnt K 6) = nI (2 * cnt K 6) from nI_mul 2 _, if_neg (nI_nlt (Nat.le_refl _) (by omega))]
      exact k h1 P
    | succ n ih =>
      intro i e
      refine go 60 (by decide) ?_
      simp only [KX, KY, KZ, KW, KV, Nat.reduceAdd, Nat.reduceSub, Nat.reduceLeDiff, true_and, and_true, true_or, or_true, or_self, reduceCtorEq, if_true, if_false, not_false_eq_true, eq_self, c242, e80, e104, e105, ma_set_at]
      rw [show (2 : Int32) * nI (cnt K 6) = nI (2 * cnt K 6) from nI_mul 2 _, if_pos (nI_lt (show i < 2 * cnt K 6 by omega) (by omega)), nI_clamp (show i < 2 ^ 31 by omega)]
      refine ⟨nI_in (show i < 12 by omega) (by decide), nI_in (show i < 12 by omega) (by decide), ?_⟩
      rw [ma_set_set, nI_1]
      exact ih (i + 1) (by omega)
  refine ma_enter (m := 242) (Or.inl (by decide)) (by show 2 ≤ mt_n 242; decide +kernel) ?_
  show At 242 Q 0 (mt_c 242) [some (.ref 80), some (.int x), none] [] h
  refine go 60 (by decide) ?_
  simp only [KX, KY, KZ, KW, KV, Nat.reduceAdd, Nat.reduceSub, Nat.reduceLeDiff, true_and, and_true, true_or, or_true, or_self, reduceCtorEq, if_true, if_false, not_false_eq_true, eq_self, c242]
  refine s170y (by subst q; exact nI_pos (by omega)) (by subst q; exact nI_le (a := f) (b := 3) (by omega) (by decide)) ?_
  refine go 60 (by decide) ?_
  simp only [KX, KY, KZ, KW, KV, Nat.reduceAdd, Nat.reduceSub, Nat.reduceLeDiff, true_and, and_true, true_or, or_true, or_self, reduceCtorEq, if_true, if_false, not_false_eq_true, eq_self, c242, H.e80]
  refine s241 H R l q hK (fun h1 P => ?_)
  refine go 60 (by decide) ?_
  simp only [KX, KY, KZ, KW, KV, Nat.reduceAdd, Nat.reduceSub, Nat.reduceLeDiff, true_and, and_true, true_or, or_true, or_self, reduceCtorEq, if_true, if_false, not_false_eq_true, eq_self, c242, P.2.2.2.1, List.set_cons_succ, List.set_cons_zero]
  refine ⟨by simp only [List.length_cons, List.length_nil]; omega, trivial, ?_⟩
  have l0 := lp h1 P (2 * cnt K 6) 0 (by omega)
  rw [show (ma_set (ma_set h1 80 (.inr (12, [.ref 81, .ref 82, .ref 83, .ref 84, .ref 85, .ref 86, .ref 87, .ref 88, .ref 89, .int (fi h 80 9), .ref 90, .int (fi h 80 11), .int (fi h 80 12), .ref 91, .int (fi h 80 14), .ref 92, .ref 93, .ref 94, .int (fi h 80 18), .int (fi h 80 19), .int (fi h 80 20), .int (fi h 80 21), .long (fj h 80 22), .int (fi h 80 23), .int (fi h 80 24), .ref 95, .ref 96, .ref 97, .int (fi h 80 28), .int (fi h 80 29), .int (fi h 80 30), .ref 98, .ref 99, .ref 100, .ref 101, .long (fj h 80 35), .long (fj h 80 36), .ref 102, .ref 103, .ref 104, .ref 105, .int (nI (cnt K 6)), .int (nI (cnt K 6)), .ref 106, .ref 107, .ref 108, .ref 109, .ref 110, .ref 111, .int (fi h 80 49), .int (fi h 80 50), .int (fi h 80 51), .ref 112, .int (fi h 80 53), .int (fi h 80 54), .int (fi h 80 55), .ref 113, .int (fi h 80 57), .ref 114]))) 104 (.inl (.int, 12, .inl (upN (ai h1 104) (fun c => c) (ai h1 105) 0)))) = ma_set h1 80 (.inr (12, [.ref 81, .ref 82, .ref 83, .ref 84, .ref 85, .ref 86, .ref 87, .ref 88, .ref 89, .int (fi h 80 9), .ref 90, .int (fi h 80 11), .int (fi h 80 12), .ref 91, .int (fi h 80 14), .ref 92, .ref 93, .ref 94, .int (fi h 80 18), .int (fi h 80 19), .int (fi h 80 20), .int (fi h 80 21), .long (fj h 80 22), .int (fi h 80 23), .int (fi h 80 24), .ref 95, .ref 96, .ref 97, .int (fi h 80 28), .int (fi h 80 29), .int (fi h 80 30), .ref 98, .ref 99, .ref 100, .ref 101, .long (fj h 80 35), .long (fj h 80 36), .ref 102, .ref 103, .ref 104, .ref 105, .int (nI (cnt K 6)), .int (nI (cnt K 6)), .ref 106, .ref 107, .ref 108, .ref 109, .ref 110, .ref 111, .int (fi h 80 49), .int (fi h 80 50), .int (fi h 80 51), .ref 112, .int (fi h 80 53), .int (fi h 80 54), .int (fi h 80 55), .ref 113, .int (fi h 80 57), .ref 114])) from ma_set_id ((ma_set_ne _ _ (by decide)).trans P.1.e104)] at l0
  exact l0
theorem s242n {h : ma_H} {Q : ma_Q} {x : Int32} (o : x < 0 ∨ ¬ x ≤ 3) (k : Q (some (.int (-1))) h) : ma_X 242 [.ref 80, .int x] h Q := by
  refine ma_enter (m := 242) (Or.inl (by decide)) (by show 2 ≤ mt_n 242; decide +kernel) ?_
  show At 242 Q 0 (mt_c 242) [some (.ref 80), some (.int x), none] [] h
  refine go 60 (by decide) ?_
  simp only [KX, KY, KZ, KW, KV, Nat.reduceAdd, Nat.reduceSub, Nat.reduceLeDiff, true_and, and_true, true_or, or_true, or_self, reduceCtorEq, if_true, if_false, not_false_eq_true, eq_self, c242]
  refine s170n o ?_
  refine go 60 (by decide) ?_
  simp only [KX, KY, KZ, KW, KV, Nat.reduceAdd, Nat.reduceSub, Nat.reduceLeDiff, true_and, and_true, true_or, or_true, or_self, reduceCtorEq, if_true, if_false, not_false_eq_true, eq_self, c242]
  exact k
theorem s130n {h : ma_H} {Q : ma_Q} {x : Int32} (H : Sh h) (o : x < 0 ∨ ¬ x < 4) (k : Q (some (.int (-1))) h) : ma_X 130 [.ref 0, .int x] h Q := by
  refine ma_enter (m := 130) (Or.inl (by decide)) (by show 2 ≤ mt_n 130; decide +kernel) ?_
  show At 130 Q 0 (mt_c 130) [some (.ref 0), some (.int x), none, none, none] [] h
  refine go 60 (by decide) ?_
  simp only [KX, KY, KZ, KW, KV, Nat.reduceAdd, Nat.reduceSub, Nat.reduceLeDiff, true_and, and_true, true_or, or_true, or_self, reduceCtorEq, if_true, if_false, not_false_eq_true, eq_self, c130, H.e0]
  refine s145n H o ?_
  refine go 60 (by decide) ?_
  simp only [KX, KY, KZ, KW, KV, Nat.reduceAdd, Nat.reduceSub, Nat.reduceLeDiff, true_and, and_true, true_or, or_true, or_self, reduceCtorEq, if_true, if_false, not_false_eq_true, eq_self, c130]
  exact k
theorem fi_set {k i j : Nat} {L : List Value} {v : Value} (e : i ≠ j) : fiC (.inr (k, L.set j v)) i = fiC (.inr (k, L)) i := by
  show (match (L.set j v).getD i .null with | .int v => v | _ => 0) = match L.getD i .null with | .int v => v | _ => 0
  rw [List.getD_eq_getElem?_getD, List.getD_eq_getElem?_getD, List.getElem?_set_ne (Ne.symm e)]
theorem p130 {h : ma_H} {x : Int32} (I : Inv h) : Pair h 130 242 [.int x] := by
  intro Q k
  rcases icasB x 3 (by decide) with ⟨f, l, q, -⟩ | ⟨o1, o2⟩
  · refine s130 (K := fun i => su (fl_ringIce (ai h (37 + 3 * f)) (nI i)) 91) I.sh I.rr l q (fun i _ => rfl) (fun h1 P => k _ _ (e80_S P.1) fun Q2 k2 => ?_)
    obtain ⟨P1, P2, P3, P4, P5⟩ := P
    have c88 : ai h1 88 = ai h 88 := by show aiC _ = aiC _; rw [P3 88 (by decide) (by decide)]
    have R1 : Rt h1 := I.rt.cong fun a x => P3 a (by omega) (by omega)
    refine s242 (K := fun i => su (fl_ringIce (ai h (37 + 3 * f)) (nI i)) 91) P1 R1 l q (fun i _ => by rw [c88]; exact su_ring I.nf l _) (fun h2 M => ?_)
    obtain ⟨M1, M2, M3, M4, M5⟩ := M
    have hc := cnt_le (fun i => su (fl_ringIce (ai h (37 + 3 * f)) (nI i)) 91) 6
    have f1 : ∀ i, fi h1 80 i = fi h 80 i := fun i => by show fiC _ i = fiC _ i; rw [P3 80 (by decide) (by decide)]
    refine k2 _ (I.rows (sh_set (sh_set M1 rfl) rfl) (M2.trans P2) (fun a a1 a2 a3 a4 a5 => ?_) (fun i hi => ?_) (fun i h41 h42 => ?_) ⟨_, hc, ?_, ?_, fun i hi j hj => ?_⟩)
    · rw [ma_set_ne _ _ a4, ma_set_ne _ _ a2, M3 a a2 a5, P3 a a1 a3]
    · show fiC ((ma_set (ma_set h2 80 _) 104 _).2.1 0) i = fiC (h.2.1 0) i
      rw [ma_set_ne _ _ (by decide), ma_set_ne _ _ (by decide), M3 0 (by decide) (by decide), P4, I.sh.e0]
      exact fi_set (k := 11) (L := [.ref 34, .ref 57, .int (fi h 0 2), .ref 1, .int (fi h 0 4), .ref 2, .ref 7, .ref 11, .int (fi h 0 8), .ref 18, .ref 23, .ref 24, .ref 25, .ref 26, .ref 27, .ref 29, .ref 30, .ref 31]) (j := 8) hi
    · show fiC ((ma_set (ma_set h2 80 _) 104 _).2.1 80) i = fi h 80 i
      rw [ma_set_ne _ _ (by decide), ma_set_at, ← f1 i]
      show fiC (.inr (12, ((mO h1).set 42 _).set 41 _)) i = fiC (h1.2.1 80) i
      rw [fi_set h41, fi_set h42, P1.e80]
      rfl
    · show fiC ((ma_set (ma_set h2 80 _) 104 _).2.1 0) 8 = _
      rw [ma_set_ne _ _ (by decide), ma_set_ne _ _ (by decide), M3 0 (by decide) (by decide), P4]
      rfl
    · show fiC ((ma_set (ma_set h2 80 _) 104 _).2.1 80) 41 = _
      rw [ma_set_ne _ _ (by decide), ma_set_at]
      rfl
    · obtain ⟨p1, p2⟩ := P5 i hi
      obtain ⟨m1, m2⟩ := M5 i hi
      rw [ai_at]
      rw [upN_at (p := fun c => c) _ (fun a b _ _ e => e) (2 * i + j) (by omega)]
      have c12 : ai (ma_set (ma_set h2 80 (.inr (12, [.ref 81, .ref 82, .ref 83, .ref 84, .ref 85, .ref 86, .ref 87, .ref 88, .ref 89, .int (fi h1 80 9), .ref 90, .int (fi h1 80 11), .int (fi h1 80 12), .ref 91, .int (fi h1 80 14), .ref 92, .ref 93, .ref 94, .int (fi h1 80 18), .int (fi h1 80 19), .int (fi h1 80 20), .int (fi h1 80 21), .long (fj h1 80 22), .int (fi h1 80 23), .int (fi h1 80 24), .ref 95, .ref 96, .ref 97, .int (fi h1 80 28), .int (fi h1 80 29), .int (fi h1 80 30), .ref 98, .ref 99, .ref 100, .ref 101, .long (fj h1 80 35), .long (fj h1 80 36), .ref 102, .ref 103, .ref 104, .ref 105, .int (nI (cnt (fun i => su (fl_ringIce (ai h (37 + 3 * f)) (nI i)) 91) 6)), .int (nI (cnt (fun i => su (fl_ringIce (ai h (37 + 3 * f)) (nI i)) 91) 6)), .ref 106, .ref 107, .ref 108, .ref 109, .ref 110, .ref 111, .int (fi h1 80 49), .int (fi h1 80 50), .int (fi h1 80 51), .ref 112, .int (fi h1 80 53), .int (fi h1 80 54), .int (fi h1 80 55), .ref 113, .int (fi h1 80 57), .ref 114]))) 104 (.inl (.int, 12, .inl (upN (ai h2 104) (fun c => c) (ai h2 105) (2 * cnt (fun i => su (fl_ringIce (ai h (37 + 3 * f)) (nI i)) 91) 6))))) (12 + i) = ai h1 (12 + i) := by
        rw [ai_ne _ _ (by omega), ai_ne _ _ (by omega)]
        show aiC _ = aiC _
        rw [M3 (12 + i) (by omega) (by omega)]
      rw [c12]
      obtain rfl | rfl : j = 0 ∨ j = 1 := by omega
      · exact p1.trans m1.symm
      · exact p2.trans m2.symm
  · exact s130n I.sh o2 (k _ _ (by repeat (first | exact e80_I I | exact e80_S (by assumption) | exact e80_I (by assumption) | exact e80_n I.sh | refine e80_s (by omega) ?_)) fun Q2 k2 => s242n o1 (k2 _ I))
