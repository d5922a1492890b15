/-! law: the class reads a LAW, from the tape -/
theorem kj4 (m : Nat) (go : ma_K) (k : Nat) (b : Nat × Nat) (L : ma_L) (n dp sp : Int32) (a a0 : Nat) (r : List Value) (h : ma_H) : me_jdk m 4 go k b L (.int n :: .int dp :: .ref a :: .int sp :: .ref a0 :: r) h = (xI (h.2.1 a0) .byte fun n0 f => xI (h.2.1 a) .byte fun n1 g => (¬ sp < 0 ∧ ¬ dp < 0 ∧ ¬ n < 0 ∧ sp.toNatClampNeg + n.toNatClampNeg ≤ n0 ∧ dp.toNatClampNeg + n.toNatClampNeg ≤ n1 ∧ ∀ i, i < n.toNatClampNeg → fits .byte (.int (f (sp.toNatClampNeg + i))) = true) ∧ me_cs r ≤ 8 ∧ go (k + 1) b L r (ma_set h a (.inl (.byte, n1, .inl (va_cpy f g sp.toNatClampNeg dp.toNatClampNeg n.toNatClampNeg))))) := rfl
theorem sb_fits : ∀ c, c < 256 → fits .byte (.int (sb c)) = true := by decide +kernel
/-- where the tokens of a TEXT end -/
def TN (b : Nat → Nat) (n K : Nat) : Prop := K ≤ 200 ∧ Ps b n K = n ∧ n ≤ 200 ∧ (∀ i, b i < 256) ∧ ∀ j, j < K → Ps b n j < n
theorem s52 {h : ma_H} {Q : ma_Q} (H : Sh h) (k : Q none (ma_set h 7 (lO 0 0))) : ma_X 52 [.ref 7] h Q := by
  refine ma_enter (m := 52) (Or.inl (by decide)) (by show 1 ≤ mt_n 52; decide +kernel) ?_
  show At 52 Q 0 (mt_c 52) [some (.ref 7)] [] h
  refine go 60 (by decide) ?_
  simp only [KX, KY, KZ, KW, KV, Nat.reduceAdd, Nat.reduceSub, Nat.reduceLeDiff, true_and, and_true, true_or, or_true, or_self, reduceCtorEq, if_true, if_false, not_false_eq_true, eq_self, c52, H.e7, ma_set_at, ma_set_set, List.set_cons_succ, List.set_cons_zero]
  exact ⟨by simp only [List.length_cons, List.length_nil]; omega, trivial, by simp only [List.length_cons, List.length_nil]; omega, trivial, k⟩
theorem s63 {h : ma_H} {Q : ma_Q} {b : Nat → Nat} {n : Nat} (H : Sh h) (n2 : n ≤ 200) (eb : ∀ i, ai h 1 i = sb (b i)) (b2 : ∀ i, b i < 256) (kA : ∀ h2 K, TN b n K → tq b n (LK (tq b n) (LN (tq b n))) = 256 → LAn h h2 (tq b n) → Q (some (.int (-1))) h2) (kX : ∀ h2 K, TN b n K → tq b n (LK (tq b n) (LN (tq b n))) ≠ 256 → LXn h h2 → Q (some (.int (nI (Ps b n (LF (tq b n)))))) h2) : ma_X 63 [.ref 2, .ref 1, .int (nI n), .ref 7] h Q := by
  refine ma_enter (m := 63) (Or.inl (by decide)) (by show 4 ≤ mt_n 63; decide +kernel) ?_
  show At 63 Q 0 (mt_c 63) [some (.ref 2), some (.ref 1), some (.int (nI n)), some (.ref 7), none, none] [] h
  have m1 : (if nI 200 < nI n then nI 200 else nI n) = nI n := if_neg (nI_nlt (a := 200) (b := n) n2 (by omega))
  have m0 : (if (0 : Int32) < nI n then nI n else 0) = nI n := by
    rcases Nat.eq_zero_or_pos n with z | z
    · rw [z]
      rfl
    · exact if_pos (nI_lt (a := 0) z (by omega))
  refine go 12 (by decide) ?_
  simp only [KX, KY, KZ, KW, KV, Nat.reduceAdd, Nat.reduceSub, Nat.reduceLeDiff, true_and, and_true, true_or, or_true, or_self, reduceCtorEq, if_true, if_false, not_false_eq_true, eq_self, c63, H.e1, H.e2, H.e3, m1, m0, List.set_cons_succ, List.set_cons_zero]
  refine ⟨by simp only [List.length_cons, List.length_nil]; omega, trivial, ?_⟩
  have H1 : Sh (ma_set h 2 (.inr (5, [.ref 3, .int (nI n), .ref 4, .ref 5, .ref 6, .int (fi h 2 5), fv h 2 6]))) := sh_set H rfl
  have u1 : ai (ma_set h 2 (.inr (5, [.ref 3, .int (nI n), .ref 4, .ref 5, .ref 6, .int (fi h 2 5), fv h 2 6]))) 1 = ai h 1 := ai_ne _ _ (by decide)
  have u2 : fi (ma_set h 2 (.inr (5, [.ref 3, .int (nI n), .ref 4, .ref 5, .ref 6, .int (fi h 2 5), fv h 2 6]))) 2 1 = nI n := fi_at _ _ _ _ _ _ rfl
  have uf : ∀ a, ¬ (2 ≤ a ∧ a ≤ 10) → (ma_set h 2 (.inr (5, [.ref 3, .int (nI n), .ref 4, .ref 5, .ref 6, .int (fi h 2 5), fv h 2 6]))).2.1 a = h.2.1 a := fun a ha => ma_set_ne _ _ (by omega)
  have u0 : (ma_set h 2 (.inr (5, [.ref 3, .int (nI n), .ref 4, .ref 5, .ref 6, .int (fi h 2 5), fv h 2 6]))).1 = h.1 := rfl
  generalize ma_set h 2 (.inr (5, [.ref 3, .int (nI n), .ref 4, .ref 5, .ref 6, .int (fi h 2 5), fv h 2 6])) = h1 at H1 u1 u2 uf u0 ⊢
  refine go 7 (by decide) ?_
  simp only [KX, KY, KZ, KW, KV, Nat.reduceAdd, Nat.reduceSub, Nat.reduceLeDiff, true_and, and_true, true_or, or_true, or_self, reduceCtorEq, if_true, if_false, not_false_eq_true, eq_self, c63, kj4, u2, H1.e1, H1.e2, H1.e3, List.set_cons_succ, List.set_cons_zero]
  rw [nI_clamp (show n < 2 ^ 31 by omega), show Int32.toNatClampNeg 0 = 0 from rfl]
  refine ⟨⟨nI_pos (by omega), by omega, by omega, fun i hi => by rw [Nat.zero_add, u1, eb]; exact sb_fits _ (b2 i)⟩, ?_⟩
  have H3 : Sh (ma_set h1 3 (.inl (.byte, 200, .inl (va_cpy (ai h1 1) (ai h1 3) 0 0 n)))) := sh_set H1 rfl
  have X : TX (ma_set h1 3 (.inl (.byte, 200, .inl (va_cpy (ai h1 1) (ai h1 3) 0 0 n)))) b n := ⟨H3, (fi_ne _ _ _ (by decide)).trans u2, n2, fun i hi => by rw [ai_at, sb_cpy0 hi, u1]; exact eb i, b2⟩
  have vf : ∀ a, ¬ (2 ≤ a ∧ a ≤ 10) → (ma_set h1 3 (.inl (.byte, 200, .inl (va_cpy (ai h1 1) (ai h1 3) 0 0 n)))).2.1 a = h.2.1 a := fun a ha => (ma_set_ne _ _ (by omega)).trans (uf a ha)
  have v0 : (ma_set h1 3 (.inl (.byte, 200, .inl (va_cpy (ai h1 1) (ai h1 3) 0 0 n)))).1 = h.1 := u0
  generalize ma_set h1 3 (.inl (.byte, 200, .inl (va_cpy (ai h1 1) (ai h1 3) 0 0 n))) = h3 at H3 X vf v0 ⊢
  refine go 60 (by decide) ?_
  simp only [KX, KY, KZ, KW, KV, Nat.reduceAdd, Nat.reduceSub, Nat.reduceLeDiff, true_and, and_true, true_or, or_true, or_self, reduceCtorEq, if_true, if_false, not_false_eq_true, eq_self, c63, H3.e2, List.set_cons_succ, List.set_cons_zero]
  refine s64 X (fun K hh TEh => ?_)
  obtain ⟨T1, t2, t3, t4, t5, t6, t7, t8⟩ := TEh
  have w1 : fi hh 2 1 = nI n := (show fi hh 2 1 = fi h3 2 1 by unfold fi; rw [t3 2 (by decide) (by decide) (by decide)]).trans X.2.1
  refine go 8 (by decide) ?_
  simp only [KX, KY, KZ, KW, KV, Nat.reduceAdd, Nat.reduceSub, Nat.reduceLeDiff, true_and, and_true, true_or, or_true, or_self, reduceCtorEq, if_true, if_false, not_false_eq_true, eq_self, c63, T1.e2, w1, ma_set_at, ma_set_set, List.set_cons_succ, List.set_cons_zero]
  refine ⟨by simp only [List.length_cons, List.length_nil]; omega, trivial, by simp only [List.length_cons, List.length_nil]; omega, trivial, ?_⟩
  have H4 : Sh (ma_set hh 2 (.inr (5, [.ref 3, .int (nI n), .ref 4, .ref 5, .ref 6, .int 0, .ref 7]))) := sh_set T1 rfl
  have x2 : (ma_set hh 2 (.inr (5, [.ref 3, .int (nI n), .ref 4, .ref 5, .ref 6, .int 0, .ref 7]))).2.1 2 = rO n 0 := ma_set_at _ _ _
  have xf : ∀ a, a ≠ 2 → (ma_set hh 2 (.inr (5, [.ref 3, .int (nI n), .ref 4, .ref 5, .ref 6, .int 0, .ref 7]))).2.1 a = hh.2.1 a := fun a ha => ma_set_ne _ _ ha
  have x0 : (ma_set hh 2 (.inr (5, [.ref 3, .int (nI n), .ref 4, .ref 5, .ref 6, .int 0, .ref 7]))).1 = hh.1 := rfl
  generalize ma_set hh 2 (.inr (5, [.ref 3, .int (nI n), .ref 4, .ref 5, .ref 6, .int 0, .ref 7])) = h4 at H4 x2 xf x0 ⊢
  rw [H4.e7]
  refine ⟨rfl, s52 H4 ?_⟩
  have H5 : Sh (ma_set h4 7 (lO 0 0)) := sh_set H4 rfl
  have y2 : (ma_set h4 7 (lO 0 0)).2.1 2 = rO n 0 := (ma_set_ne _ _ (by decide)).trans x2
  have y7 : (ma_set h4 7 (lO 0 0)).2.1 7 = lO 0 0 := ma_set_at _ _ _
  have yf : ∀ a, a ≠ 2 → a ≠ 7 → (ma_set h4 7 (lO 0 0)).2.1 a = hh.2.1 a := fun a ha hb => (ma_set_ne _ _ hb).trans (xf a ha)
  have y0 : (ma_set h4 7 (lO 0 0)).1 = h.1 := x0.trans (t2.trans v0)
  generalize ma_set h4 7 (lO 0 0) = h5 at H5 y2 y7 yf y0 ⊢
  have T : TS h5 b n K := by
    refine ⟨t4, t5, n2, b2, fun j hj => (t6 j hj).1, fun j hj => ?_, fun j hj => ?_, fun j hj => ?_⟩
    · rw [ai_c (yf 5 (by decide) (by decide))]
      rcases Nat.lt_or_ge j K with c | c
      · exact (t6 j c).2.1
      · obtain rfl : j = K := by omega
        rw [t5]
        exact t7
    · rw [ai_c (yf 4 (by decide) (by decide))]
      rcases Nat.lt_or_ge j K with c | c
      · exact (t6 j c).2.2.1
      · obtain rfl : j = K := by omega
        rw [t8, t5]
        unfold qt
        rw [if_neg (Nat.lt_irrefl n)]
        rfl
    · rw [ai_c (yf 6 (by decide) (by decide))]
      exact (t6 j hj).2.2.2
  have s0 : seg (ai h5 10) 0 (List.map tc (LC (tq b n) 0)) := by
    intro i v e
    exact absurd e (by simp [LC])
  have L0 : LSt h5 h5 (tq b n) n 0 := ⟨H5, rfl, fun _ _ _ _ _ _ => rfl, y2, y7, s0, fun j hj => absurd hj (Nat.not_lt_zero _)⟩
  have N : TN b n K := ⟨t4, t5, n2, b2, fun j hj => (t6 j hj).1⟩
  have zf : ∀ h6 : ma_H, (∀ a, a ≠ 2 → a ≠ 7 → a ≠ 8 → a ≠ 9 → a ≠ 10 → h6.2.1 a = h5.2.1 a) → ∀ a, ¬ (2 ≤ a ∧ a ≤ 10) → h6.2.1 a = h.2.1 a := fun h6 e a ha => (e a (by omega) (by omega) (by omega) (by omega) (by omega)).trans ((yf a (by omega) (by omega)).trans ((t3 a (by omega) (by omega) (by omega)).trans (vf a ha)))
  first
    | (with_reducible show At 63 _ 35 _ _ _ _)
    | (refine go 60 (by decide) ?_; simp only [KX, KY, KZ, KW, KV, Nat.reduceAdd, Nat.reduceSub, Nat.reduceLeDiff, true_and, and_true, true_or, or_true, or_self, reduceCtorEq, if_true, if_false, not_false_eq_true, eq_self, c63])
  first
    | (with_reducible show At 63 _ 35 _ _ _ _)
    | (refine go 60 (by decide) ?_; simp only [KX, KY, KZ, KW, KV, Nat.reduceAdd, Nat.reduceSub, Nat.reduceLeDiff, true_and, and_true, true_or, or_true, or_self, reduceCtorEq, if_true, if_false, not_false_eq_true, eq_self, c63])
  first
    | (with_reducible show At 63 _ 35 _ _ _ _)
    | (refine go 60 (by decide) ?_; simp only [KX, KY, KZ, KW, KV, Nat.reduceAdd, Nat.reduceSub, Nat.reduceLeDiff, true_and, and_true, true_or, or_true, or_self, reduceCtorEq, if_true, if_false, not_false_eq_true, eq_self, c63])
  refine t63 T L0 (fun h6 e L => ?_) (fun h6 e L => ?_)
  · obtain ⟨l1, l2, l3, l4, l5, l6, l7⟩ := L
    exact kA h6 K N e ⟨l1, l2.trans y0, zf h6 l3, l5, l6, l7⟩
  · obtain ⟨l1, l2, l3⟩ := L
    exact kX h6 K N e ⟨l1, l2.trans y0, zf h6 l3⟩
