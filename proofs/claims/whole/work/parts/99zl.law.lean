/-! law: the Model reads a LAW -/
/-- the Model's steps before CLAUSE i -/
def LM (q : Nat → Nat) : Nat → List Tok
  | 0 => []
  | i + 1 => LM q i ++ (pCl q (LK q i)).1.2.2.2
theorem tms_ap : ∀ (A B : List Tok), tms (A ++ B) = tms A ++ tms B
  | [], _ => rfl
  | t :: r, B => by
    show tm t ++ tms (r ++ B) = (tm t ++ tms r) ++ tms B
    rw [tms_ap r B, List.append_assoc]
/-- the table of CLAUSES says what the first i are -/
def CT (q : Nat → Nat) (i : Nat) (f : Nat → Int32) : Prop := ∀ j, j < i → f (3 * j) = kd (pCl q (LK q j)).2 ∧ f (3 * j + 1) = nI (tms (LM q j)).length ∧ f (3 * j + 2) = nI (tms (LM q (j + 1))).length
theorem CT.nx {q : Nat → Nat} {i : Nat} {f : Nat → Int32} (C : CT q i f) : CT q (i + 1) (u99 f i (pCl q (LK q i)).2 (tms (LM q i)).length (tms (LM q i) ++ tms (pCl q (LK q i)).1.2.2.2).length) := by
  intro j hj
  unfold u99 upd
  by_cases z : j = i
  · subst z
    refine ⟨?_, ?_, ?_⟩
    · rw [if_neg (by omega), if_neg (by omega), if_pos rfl]
    · rw [if_neg (by omega), if_pos rfl]
    · rw [if_pos rfl, ← tms_ap]
      rfl
  · obtain ⟨c1, c2, c3⟩ := C j (by omega)
    refine ⟨?_, ?_, ?_⟩
    · rw [if_neg (by omega), if_neg (by omega), if_neg (by omega)]
      exact c1
    · rw [if_neg (by omega), if_neg (by omega), if_neg (by omega)]
      exact c2
    · rw [if_neg (by omega), if_neg (by omega), if_neg (by omega)]
      exact c3
/-- what reading a LAW leaves -/
def MLf (h hh : ma_H) : Prop := Sh hh ∧ hh.1 = h.1 ∧ (∀ a, a ≠ 80 → a ≠ 96 → a ≠ 97 → a ≠ 99 → hh.2.1 a = h.2.1 a) ∧ fi hh 80 9 = fi h 80 9 ∧ fi hh 80 11 = fi h 80 11 ∧ fi hh 80 12 = fi h 80 12 ∧ fi hh 80 41 = fi h 80 41 ∧ fi hh 80 53 = fi h 80 53 ∧ fi hh 80 55 = fi h 80 55 ∧ fi hh 80 18 = 0
theorem x191 {h : ma_H} {b : Nat → Nat} {n K : Nat} (H : Sh h) (X : ∀ f, MX (ma_set h 99 (.inl (.int, 24, .inl f))) b n) {Q : ma_Q} {k i : Nat} {F : List Int32} {f : Nat → Int32} {hh : ma_H} (Y : MZ (ma_set h 99 (.inl (.int, 24, .inl f))) b n k 0 F hh) (kX : ∀ h2, MLf h h2 → fi h2 80 14 = fi h 80 14 → Q (some (.int (-100 - nI (Ps b n k)))) h2) : At 191 Q 13 (0, 0) [some (.ref 80), some (.int (nI i)), none] [] hh := by
  obtain ⟨fr0, pe0, p0, o0, rfl, W0⟩ := Y.at
  refine go 60 (by decide) ?_
  simp only [KX, KY, KZ, KW, KV, Nat.reduceAdd, Nat.reduceSub, Nat.reduceLeDiff, true_and, and_true, true_or, or_true, or_self, reduceCtorEq, if_true, if_false, not_false_eq_true, eq_self, c191, mt80, mt96, mt97, mtw, mtf, mtp, List.set_cons_succ, List.set_cons_zero, MFT, List.length_cons, List.length_nil, Nat.reduceLT, Nat.zero_add, ma_set_at, ma_set_set]
  refine kX _ ⟨sh_set (ms_sh (X f).1) rfl, rfl, fun a a0 a1 a2 a3 => (ma_set_ne _ _ a0).trans ((ms_ne a0 a1 a2).trans (ma_set_ne _ _ a3)), rfl, rfl, rfl, rfl, rfl, rfl, rfl⟩ rfl
theorem a191 {h : ma_H} {b : Nat → Nat} {n K : Nat} (H : Sh h) (X : ∀ f, MX (ma_set h 99 (.inl (.int, 24, .inl f))) b n) {Q : ma_Q} {k i : Nat} {F : List Int32} {f : Nat → Int32} {hh : ma_H} (e : tq b n k = 256) (Y : MZ (ma_set h 99 (.inl (.int, 24, .inl f))) b n k 1 F hh) (kA : ∀ h2, MLf h h2 → fi h2 80 14 = nI i → fi h2 80 28 = nI F.length → F.length ≤ 200 → seg (ai h2 96) 0 F → ai h2 99 = f → At 191 Q 40 (0, 0) [some (.ref 80), some (.int (nI i)), some (.int 0)] [] h2) : At 191 Q 13 (0, 0) [some (.ref 80), some (.int (nI i)), none] [] hh := by
  have m0 : mS b n (Ps b n k) = 0 := (q_end (X f).2.2.2.2).mpr e
  obtain ⟨fr0, pe0, p0, o0, rfl, s1, f2⟩ := Y
  refine go 60 (by decide) ?_
  simp only [KX, KY, KZ, KW, KV, Nat.reduceAdd, Nat.reduceSub, Nat.reduceLeDiff, true_and, and_true, true_or, or_true, or_self, reduceCtorEq, if_true, if_false, not_false_eq_true, eq_self, c191, mt80, mt96, mt97, mtw, mtf, mtp, List.set_cons_succ, List.set_cons_zero, MFT, List.length_cons, List.length_nil, Nat.reduceLT, Nat.zero_add, ma_set_at, ma_set_set, m0]
  refine ⟨trivial, ?_⟩
  refine kA _ ?_ ?_ ?_ f2 ?_ ?_
  · exact ⟨sh_set (ms_sh (X f).1) rfl, rfl, fun a a0 a1 a2 a3 => (ma_set_ne _ _ a0).trans ((ms_ne a0 a1 a2).trans (ma_set_ne _ _ a3)), rfl, rfl, rfl, rfl, rfl, rfl, rfl⟩
  · rfl
  · rfl
  · exact s1
  · rfl
theorem y191 {h : ma_H} {b : Nat → Nat} {n K : Nat} (H : Sh h) (X : ∀ f, MX (ma_set h 99 (.inl (.int, 24, .inl f))) b n) (N : TN b n K) {Q : ma_Q} (kX : tq b n (LK (tq b n) (LN (tq b n))) ≠ 256 → ∀ h2, MLf h h2 → fi h2 80 14 = fi h 80 14 → Q (some (.int (-100 - nI (Ps b n (LF (tq b n)))))) h2) (kA : tq b n (LK (tq b n) (LN (tq b n))) = 256 → ∀ h2, MLf h h2 → fi h2 80 14 = nI (LN (tq b n)) → fi h2 80 28 = nI (tms (LM (tq b n) (LN (tq b n)))).length → (tms (LM (tq b n) (LN (tq b n)))).length ≤ 200 → seg (ai h2 96) 0 (tms (LM (tq b n) (LN (tq b n)))) → CT (tq b n) (LN (tq b n)) (ai h2 99) → At 191 Q 40 (0, 0) [some (.ref 80), some (.int (nI (LN (tq b n)))), some (.int 0)] [] h2) : ma_X 191 [.ref 80] h Q := by
  obtain ⟨n8, -, nal⟩ := LN_all (q := tq b n) 8 0 rfl
  have lp : ∀ j i f hh, i + j = 8 → LNf (tq b n) j i = LN (tq b n) → MZ (ma_set h 99 (.inl (.int, 24, .inl f))) b n (LK (tq b n) i) 1 (tms (LM (tq b n) i)) hh → (tms (LM (tq b n) i)).length ≤ LK (tq b n) i → CT (tq b n) i f → At 191 Q 13 (0, 0) [some (.ref 80), some (.int (nI i)), none] [] hh := by
    intro j
    induction j with
    | zero =>
      intro i f hh ei en Y l C
      obtain rfl : i = 8 := by omega
      have en : 8 = LN (tq b n) := en
      have kk := (LK_ok N.end_ 8).1
      by_cases e : tq b n (LK (tq b n) 8) = 256
      · refine a191 (K := K) H X e Y (fun h2 M1 e14 e28 l2 sg e99 => ?_)
        rw [en] at e e28 sg C l2
        refine (At_le (kA e h2 M1 (by rw [← en]; exact e14) e28 l2 sg (by rw [e99]; exact C)) ⟨rfl, by rw [← en], rfl, trivial⟩)
      · have Y0 := Y
        obtain ⟨fr0, pe0, p0, o0, rfl, W0⟩ := Y.at
        have m0 : ¬ mS b n (Ps b n (LK (tq b n) 8)) = 0 := fun w => e ((q_end (X f).2.2.2.2).mp w)
        refine go 60 (by decide) ?_
        simp only [KX, KY, KZ, KW, KV, Nat.reduceAdd, Nat.reduceSub, Nat.reduceLeDiff, true_and, and_true, true_or, or_true, or_self, reduceCtorEq, if_true, if_false, not_false_eq_true, eq_self, c191, mt80, mt96, mt97, mtw, mtf, mtp, List.set_cons_succ, List.set_cons_zero, MFT, List.length_cons, List.length_nil, Nat.reduceLT, Nat.zero_add]
        rw [if_neg m0]
        try (refine go 60 (by decide) ?_; simp only [KX, KY, KZ, KW, KV, Nat.reduceAdd, Nat.reduceSub, Nat.reduceLeDiff, true_and, and_true, true_or, or_true, or_self, reduceCtorEq, if_true, if_false, not_false_eq_true, eq_self, c191, mt80, mt96, mt97, mtw, mtf, mtp, List.set_cons_succ, List.set_cons_zero, MFT, List.length_cons, List.length_nil, Nat.reduceLT, Nat.zero_add])
        refine y190z (X f) Y0 (fun h2 F2 Y2 => ?_)
        first
          | (with_reducible show At 191 _ 13 _ _ _ _)
          | (refine go 60 (by decide) ?_; simp only [KX, KY, KZ, KW, KV, Nat.reduceAdd, Nat.reduceSub, Nat.reduceLeDiff, true_and, and_true, true_or, or_true, or_self, reduceCtorEq, if_true, if_false, not_false_eq_true, eq_self, c191, mt80, mt96, mt97, mtw, mtf, mtp, List.set_cons_succ, List.set_cons_zero, MFT, List.length_cons, List.length_nil, Nat.reduceLT, Nat.zero_add])
        first
          | (with_reducible show At 191 _ 13 _ _ _ _)
          | (refine go 60 (by decide) ?_; simp only [KX, KY, KZ, KW, KV, Nat.reduceAdd, Nat.reduceSub, Nat.reduceLeDiff, true_and, and_true, true_or, or_true, or_self, reduceCtorEq, if_true, if_false, not_false_eq_true, eq_self, c191, mt80, mt96, mt97, mtw, mtf, mtp, List.set_cons_succ, List.set_cons_zero, MFT, List.length_cons, List.length_nil, Nat.reduceLT, Nat.zero_add])
        first
          | (with_reducible show At 191 _ 13 _ _ _ _)
          | (refine go 60 (by decide) ?_; simp only [KX, KY, KZ, KW, KV, Nat.reduceAdd, Nat.reduceSub, Nat.reduceLeDiff, true_and, and_true, true_or, or_true, or_self, reduceCtorEq, if_true, if_false, not_false_eq_true, eq_self, c191, mt80, mt96, mt97, mtw, mtf, mtp, List.set_cons_succ, List.set_cons_zero, MFT, List.length_cons, List.length_nil, Nat.reduceLT, Nat.zero_add])
        refine x191 (K := K) H X Y2 (fun h3 M3 e14 => ?_)
        have ef : LF (tq b n) = LK (tq b n) 8 := by unfold LF; rw [← en, if_neg (by decide)]
        rw [← ef]
        exact kX (by rw [← en]; exact e) h3 M3 e14
    | succ j ih =>
      intro i f hh ei en Y l C
      have en : (if tq b n (LK (tq b n) i) = 256 then i else if (pCl (tq b n) (LK (tq b n) i)).1.1 = true then LNf (tq b n) j (i + 1) else i) = LN (tq b n) := en
      have kk := (LK_ok N.end_ i).1
      by_cases e : tq b n (LK (tq b n) i) = 256
      · rw [if_pos e] at en
        refine a191 (K := K) H X e Y (fun h2 M1 e14 e28 l2 sg e99 => ?_)
        rw [en] at e e28 sg C l2
        refine (At_le (kA e h2 M1 (by rw [← en]; exact e14) e28 l2 sg (by rw [e99]; exact C)) ⟨rfl, by rw [← en], rfl, trivial⟩)
      · rw [if_neg e] at en
        have Y0 := Y
        obtain ⟨fr0, pe0, p0, o0, rfl, W0⟩ := Y.at
        have m0 : ¬ mS b n (Ps b n (LK (tq b n) i)) = 0 := fun w => e ((q_end (X f).2.2.2.2).mp w)
        refine go 60 (by decide) ?_
        simp only [KX, KY, KZ, KW, KV, Nat.reduceAdd, Nat.reduceSub, Nat.reduceLeDiff, true_and, and_true, true_or, or_true, or_self, reduceCtorEq, if_true, if_false, not_false_eq_true, eq_self, c191, mt80, mt96, mt97, mtw, mtf, mtp, List.set_cons_succ, List.set_cons_zero, MFT, List.length_cons, List.length_nil, Nat.reduceLT, Nat.zero_add]
        rw [if_neg m0]
        try (refine go 60 (by decide) ?_; simp only [KX, KY, KZ, KW, KV, Nat.reduceAdd, Nat.reduceSub, Nat.reduceLeDiff, true_and, and_true, true_or, or_true, or_self, reduceCtorEq, if_true, if_false, not_false_eq_true, eq_self, c191, mt80, mt96, mt97, mtw, mtf, mtp, List.set_cons_succ, List.set_cons_zero, MFT, List.length_cons, List.length_nil, Nat.reduceLT, Nat.zero_add])
        refine y190 (X f) N (by omega) Y0 kk l (fun ok h2 Y2 l2 => ?_) (fun ok h2 F2 Y2 => ?_)
        · rw [if_pos ok] at en
          first
            | (with_reducible show At 191 _ 13 _ _ _ _)
            | (refine go 60 (by decide) ?_; simp only [KX, KY, KZ, KW, KV, Nat.reduceAdd, Nat.reduceSub, Nat.reduceLeDiff, true_and, and_true, true_or, or_true, or_self, reduceCtorEq, if_true, if_false, not_false_eq_true, eq_self, c191, mt80, mt96, mt97, mtw, mtf, mtp, List.set_cons_succ, List.set_cons_zero, MFT, List.length_cons, List.length_nil, Nat.reduceLT, Nat.zero_add])
          first
            | (with_reducible show At 191 _ 13 _ _ _ _)
            | (refine go 60 (by decide) ?_; simp only [KX, KY, KZ, KW, KV, Nat.reduceAdd, Nat.reduceSub, Nat.reduceLeDiff, true_and, and_true, true_or, or_true, or_self, reduceCtorEq, if_true, if_false, not_false_eq_true, eq_self, c191, mt80, mt96, mt97, mtw, mtf, mtp, List.set_cons_succ, List.set_cons_zero, MFT, List.length_cons, List.length_nil, Nat.reduceLT, Nat.zero_add])
          first
            | (with_reducible show At 191 _ 13 _ _ _ _)
            | (refine go 60 (by decide) ?_; simp only [KX, KY, KZ, KW, KV, Nat.reduceAdd, Nat.reduceSub, Nat.reduceLeDiff, true_and, and_true, true_or, or_true, or_self, reduceCtorEq, if_true, if_false, not_false_eq_true, eq_self, c191, mt80, mt96, mt97, mtw, mtf, mtp, List.set_cons_succ, List.set_cons_zero, MFT, List.length_cons, List.length_nil, Nat.reduceLT, Nat.zero_add])
          rw [nI_1 i]
          rw [ma_set_set, ai_at] at Y2
          refine ih (i + 1) _ h2 (by omega) en (by show MZ _ b n (pCl (tq b n) (LK (tq b n) i)).1.2.1 1 (tms (LM (tq b n) i ++ (pCl (tq b n) (LK (tq b n) i)).1.2.2.2)) h2; rw [tms_ap]; exact Y2) (by show (tms (LM (tq b n) i ++ (pCl (tq b n) (LK (tq b n) i)).1.2.2.2)).length ≤ (pCl (tq b n) (LK (tq b n) i)).1.2.1; rw [tms_ap]; exact l2) C.nx
        · rw [if_neg (by rw [ok]; exact Bool.false_ne_true)] at en
          first
            | (with_reducible show At 191 _ 13 _ _ _ _)
            | (refine go 60 (by decide) ?_; simp only [KX, KY, KZ, KW, KV, Nat.reduceAdd, Nat.reduceSub, Nat.reduceLeDiff, true_and, and_true, true_or, or_true, or_self, reduceCtorEq, if_true, if_false, not_false_eq_true, eq_self, c191, mt80, mt96, mt97, mtw, mtf, mtp, List.set_cons_succ, List.set_cons_zero, MFT, List.length_cons, List.length_nil, Nat.reduceLT, Nat.zero_add])
          first
            | (with_reducible show At 191 _ 13 _ _ _ _)
            | (refine go 60 (by decide) ?_; simp only [KX, KY, KZ, KW, KV, Nat.reduceAdd, Nat.reduceSub, Nat.reduceLeDiff, true_and, and_true, true_or, or_true, or_self, reduceCtorEq, if_true, if_false, not_false_eq_true, eq_self, c191, mt80, mt96, mt97, mtw, mtf, mtp, List.set_cons_succ, List.set_cons_zero, MFT, List.length_cons, List.length_nil, Nat.reduceLT, Nat.zero_add])
          first
            | (with_reducible show At 191 _ 13 _ _ _ _)
            | (refine go 60 (by decide) ?_; simp only [KX, KY, KZ, KW, KV, Nat.reduceAdd, Nat.reduceSub, Nat.reduceLeDiff, true_and, and_true, true_or, or_true, or_self, reduceCtorEq, if_true, if_false, not_false_eq_true, eq_self, c191, mt80, mt96, mt97, mtw, mtf, mtp, List.set_cons_succ, List.set_cons_zero, MFT, List.length_cons, List.length_nil, Nat.reduceLT, Nat.zero_add])
          rw [nI_1 i]
          refine x191 (K := K) H X Y2 (fun h3 M3 e14 => ?_)
          have ef : LF (tq b n) = (pCl (tq b n) (LK (tq b n) i)).1.2.1 := by unfold LF; rw [← en, if_pos (by omega)]
          rw [← ef]
          exact kX (by rw [← en]; exact e) h3 M3 e14
  refine ma_enter (m := 191) (Or.inl (by decide)) (by show 1 ≤ mt_n 191; decide +kernel) ?_
  show At 191 Q 0 (mt_c 191) [some (.ref 80), none, none] [] h
  obtain ⟨H_, x2, x3, x4, x5⟩ := id (X (ai h 99))
  have e0 : ma_set h 99 (.inl (.int, 24, .inl (ai h 99))) = h := ma_set_id H.e99
  have X0 : MX h b n := by have := X (ai h 99); rw [e0] at this; exact this
  rw [← ms_id H]
  refine go 60 (by decide) ?_
  simp only [KX, KY, KZ, KW, KV, Nat.reduceAdd, Nat.reduceSub, Nat.reduceLeDiff, true_and, and_true, true_or, or_true, or_self, reduceCtorEq, if_true, if_false, not_false_eq_true, eq_self, c191, ms80, ms96, ms97, msw, msf, msp, List.set_cons_succ, List.set_cons_zero, MFT, List.length_cons, List.length_nil, Nat.reduceLT, Nat.zero_add]
  refine s178 (j := 0) X0 (Nat.zero_le _) ?_
  refine lp 8 0 (ai h 99) (MT h b n 0 1 (nI 0) (fi h 80 29) (fi h 80 30) (ai h 96) (ai h 97)) rfl rfl ⟨_, _, _, _, by rw [e0]; rfl, fun i v e => absurd (show ([] : List Int32)[i]? = some v from e) (by simp), Nat.zero_le _⟩ (Nat.zero_le _) (fun j hj => absurd hj (Nat.not_lt_zero _))
