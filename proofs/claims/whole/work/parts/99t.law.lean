/-! law: the Model goes on by one token -/
theorem MFT : (∀ w, me_fit (ct_ty 12 22) (.long w) = True) ∧ (∀ x, me_fit (ct_ty 12 18) (.int x) = True) ∧ (∀ x, me_fit (ct_ty 12 19) (.int x) = True) ∧ (∀ x, me_fit (ct_ty 12 20) (.int x) = True) ∧ (∀ x, me_fit (ct_ty 12 21) (.int x) = True) ∧ (∀ x, me_fit (ct_ty 12 23) (.int x) = True) ∧ (∀ x, me_fit (ct_ty 12 28) (.int x) = True) ∧ (∀ x, me_fit (ct_ty 12 29) (.int x) = True) ∧ (∀ x, me_fit (ct_ty 12 30) (.int x) = True) ∧ me_fit (ct_ty 12 24) (.int 0) = True ∧ me_fit (ct_ty 12 24) (.int 1) = True := ⟨fun _ => rfl, fun _ => rfl, fun _ => rfl, fun _ => rfl, fun _ => rfl, fun _ => rfl, fun _ => rfl, fun _ => rfl, fun _ => rfl, eq_true (Or.inl rfl), eq_true (Or.inr rfl)⟩
def wN (b : Nat → Nat) (i : Nat) : Nat → Nat
  | 0 => 0
  | k + 1 => 27 * wN b i k + (b (i + k) - 96)
def wL (b : Nat → Nat) (i j : Nat) : Int64 := if j ≤ 8 then lN (wN b i j) else ma_kL (.negSucc 0)
def dV (b : Nat → Nat) (i j : Nat) : Int32 := if j ≤ 3 then nI (numF b i j) else -1
theorem wL_1 {b : Nat → Nat} {i j : Nat} (h : j < 8) (l : 97 ≤ b (i + j) ∧ b (i + j) ≤ 122) : ma_kL (.ofNat 27) * wL b i j + (nI (b (i + j))).toInt64 - ma_kL (.ofNat 96) = wL b i (j + 1) := by
  unfold wL
  rw [if_pos (by omega), if_pos (by omega), nI_l (by omega), show ma_kL (.ofNat 27) = lN 27 from rfl, show ma_kL (.ofNat 96) = lN 96 from rfl, lN_mul, lN_add, lN_sub (by omega)]
  show lN _ = lN (27 * wN b i j + (b (i + j) - 96))
  congr 1
  omega
theorem wL_2 {b : Nat → Nat} {i j : Nat} (h : ¬ j < 8) : ma_kL (.negSucc 0) = wL b i (j + 1) := by
  unfold wL
  rw [if_neg (by omega)]
theorem dV_1 {b : Nat → Nat} {i j : Nat} (h : j < 3) (l : 48 ≤ b (i + j) ∧ b (i + j) ≤ 57) : 10 * dV b i j + nI (b (i + j)) - 48 = dV b i (j + 1) := by
  unfold dV
  rw [if_pos (by omega), if_pos (by omega), show (10 : Int32) = nI 10 from rfl, show (48 : Int32) = nI 48 from rfl, nI_mul, nI_add, nI_sub (by omega)]
  show nI _ = nI (numF b i j * 10 + (b (i + j) - 48))
  congr 1
  omega
theorem dV_2 {b : Nat → Nat} {i j : Nat} (h : ¬ j < 3) : (-1 : Int32) = dV b i (j + 1) := by
  unfold dV
  rw [if_neg (by omega)]
theorem byv_in {b : Nat → Nat} {n i : Nat} (h : i < n) : byv b n i = nI (b i) := if_pos h
/-- the sort, the word, the value of the token at i -/
def mS (b : Nat → Nat) (n i : Nat) : Int32 := if i < n then if 0 < nL b n i then 1 else if 0 < nD b n i then 2 else 3 else 0
def mW (b : Nat → Nat) (n i : Nat) : Int64 := if i < n then wL b i (nL b n i) else lN 0
def mV (b : Nat → Nat) (n i : Nat) : Int32 := if i < n then if 0 < nL b n i then nI (b i) else if 0 < nD b n i then dV b i (nD b n i) else nI (b i) else -1
theorem l178 {hm : ma_H} {g m p o : Int32} {fr pe : Nat → Int32} {Q : ma_Q} {b : Nat → Nat} {n i : Nat} {V : Int32} (X : MX hm b n) (hi : i < n) (k : Q none (MS hm 1 (nI i) (nI (i + nL b n i)) (wL b i (nL b n i)) V g m p o fr pe)) : At 178 Q 65 (0, 0) [some (.ref 80), some (.int V)] [] (MS hm 1 (nI i) (nI (i + 0)) (wL b i 0) V g m p o fr pe) := by
  have lp : ∀ f j, j + f = 201 → i + j ≤ n → nL b n i = j + run isL b n f (i + j) → At 178 Q 65 (0, 0) [some (.ref 80), some (.int V)] [] (MS hm 1 (nI i) (nI (i + j)) (wL b i j) V g m p o fr pe) := by
    intro f
    induction f with
    | zero =>
      intro j ej ij
      have := X.2.2.1
      omega
    | succ f ih =>
      intro j ej ij er
      have n2 := X.2.2.1
      have er : nL b n i = j + (if i + j < n then if isL (b (i + j)) = true then 1 + run isL b n f (i + j + 1) else 0 else 0) := er
      refine go 60 (by decide) ?_
      simp only [KX, KY, KZ, KW, KV, Nat.reduceAdd, Nat.reduceSub, Nat.reduceLeDiff, true_and, and_true, true_or, or_true, or_self, reduceCtorEq, if_true, if_false, not_false_eq_true, eq_self, c178, ms80, ms96, ms97, msw, msf, msp, ms94 X.1, List.set_cons_succ, List.set_cons_zero, MFT, List.length_cons, List.length_nil, Nat.reduceLT, Nat.zero_add]
      refine s175 X (by omega) ?_
      refine go 60 (by decide) ?_
      simp only [KX, KY, KZ, KW, KV, Nat.reduceAdd, Nat.reduceSub, Nat.reduceLeDiff, true_and, and_true, true_or, or_true, or_self, reduceCtorEq, if_true, if_false, not_false_eq_true, eq_self, c178, ms80, ms96, ms97, msw, msf, msp, ms94 X.1, List.set_cons_succ, List.set_cons_zero, MFT, List.length_cons, List.length_nil, Nat.reduceLT, Nat.zero_add]
      refine s176 X.2.2.2.2 ?_
      refine go 60 (by decide) ?_
      simp only [KX, KY, KZ, KW, KV, Nat.reduceAdd, Nat.reduceSub, Nat.reduceLeDiff, true_and, and_true, true_or, or_true, or_self, reduceCtorEq, if_true, if_false, not_false_eq_true, eq_self, c178, ms80, ms96, ms97, msw, msf, msp, ms94 X.1, List.set_cons_succ, List.set_cons_zero, MFT, List.length_cons, List.length_nil, Nat.reduceLT, Nat.zero_add]
      unfold isI
      by_cases z : i + j < n ∧ isL (b (i + j)) = true
      · rw [if_pos z.1, if_pos z.2] at er
        rw [if_pos z, if_neg (show ¬ (1 : Int32) = 0 by decide), nI_sub (by omega), show i + j - i = j by omega]
        have ih2 := ih (j + 1) (by omega) (by omega) (by rw [er]; show j + (1 + run isL b n f (i + j + 1)) = j + 1 + run isL b n f (i + j + 1); omega)
        by_cases y : j < 8
        · rw [if_pos (show nI j < (8 : Int32) from nI_lt (b := 8) y (by decide))]
          refine s175 X (by omega) ?_
          refine go 60 (by decide) ?_
          simp only [KX, KY, KZ, KW, KV, Nat.reduceAdd, Nat.reduceSub, Nat.reduceLeDiff, true_and, and_true, true_or, or_true, or_self, reduceCtorEq, if_true, if_false, not_false_eq_true, eq_self, c178, ms80, ms96, ms97, msw, msf, msp, ms94 X.1, List.set_cons_succ, List.set_cons_zero, MFT, List.length_cons, List.length_nil, Nat.reduceLT, Nat.zero_add]
          rw [byv_in z.1, wL_1 y (isL_ok z.2)]
          refine go 60 (by decide) ?_
          simp only [KX, KY, KZ, KW, KV, Nat.reduceAdd, Nat.reduceSub, Nat.reduceLeDiff, true_and, and_true, true_or, or_true, or_self, reduceCtorEq, if_true, if_false, not_false_eq_true, eq_self, c178, ms80, ms96, ms97, msw, msf, msp, ms94 X.1, List.set_cons_succ, List.set_cons_zero, MFT, List.length_cons, List.length_nil, Nat.reduceLT, Nat.zero_add]
          rw [nI_1 (i + j), Nat.add_assoc]
          exact ih2
        · rw [if_neg (show ¬ nI j < (8 : Int32) from nI_nlt (b := 8) (by omega) (by omega))]
          refine go 60 (by decide) ?_
          simp only [KX, KY, KZ, KW, KV, Nat.reduceAdd, Nat.reduceSub, Nat.reduceLeDiff, true_and, and_true, true_or, or_true, or_self, reduceCtorEq, if_true, if_false, not_false_eq_true, eq_self, c178, ms80, ms96, ms97, msw, msf, msp, ms94 X.1, List.set_cons_succ, List.set_cons_zero, MFT, List.length_cons, List.length_nil, Nat.reduceLT, Nat.zero_add]
          rw [nI_1 (i + j), Nat.add_assoc, wL_2 (b := b) (i := i) y]
          exact ih2
      · have er : nL b n i = j := by
          rw [er]
          by_cases y : i + j < n
          · rw [if_pos y, if_neg (fun w => z ⟨y, w⟩)]
            rfl
          · rw [if_neg y]
            rfl
        rw [if_neg z]
        rw [er] at k
        rw [if_pos rfl]
        try (refine go 60 (by decide) ?_; simp only [KX, KY, KZ, KW, KV, Nat.reduceAdd, Nat.reduceSub, Nat.reduceLeDiff, true_and, and_true, true_or, or_true, or_self, reduceCtorEq, if_true, if_false, not_false_eq_true, eq_self, c178, ms80, ms96, ms97, msw, msf, msp, ms94 X.1, List.set_cons_succ, List.set_cons_zero, MFT, List.length_cons, List.length_nil, Nat.reduceLT, Nat.zero_add])
        exact k
  exact lp 201 0 (by omega) (by omega) (Nat.zero_add _).symm
theorem d178 {hm : ma_H} {g m p o : Int32} {fr pe : Nat → Int32} {Q : ma_Q} {b : Nat → Nat} {n i : Nat} {V : Int32} (X : MX hm b n) (hi : i < n) (k : Q none (MS hm 2 (nI i) (nI (i + nD b n i)) (lN 0) (dV b i (nD b n i)) g m p o fr pe)) : At 178 Q 105 (0, 0) [some (.ref 80), some (.int V)] [] (MS hm 2 (nI i) (nI (i + 0)) (lN 0) (dV b i 0) g m p o fr pe) := by
  have lp : ∀ f j, j + f = 201 → i + j ≤ n → nD b n i = j + run isD b n f (i + j) → At 178 Q 105 (0, 0) [some (.ref 80), some (.int V)] [] (MS hm 2 (nI i) (nI (i + j)) (lN 0) (dV b i j) g m p o fr pe) := by
    intro f
    induction f with
    | zero =>
      intro j ej ij
      have := X.2.2.1
      omega
    | succ f ih =>
      intro j ej ij er
      have n2 := X.2.2.1
      have er : nD b n i = j + (if i + j < n then if isD (b (i + j)) = true then 1 + run isD b n f (i + j + 1) else 0 else 0) := er
      refine go 60 (by decide) ?_
      simp only [KX, KY, KZ, KW, KV, Nat.reduceAdd, Nat.reduceSub, Nat.reduceLeDiff, true_and, and_true, true_or, or_true, or_self, reduceCtorEq, if_true, if_false, not_false_eq_true, eq_self, c178, ms80, ms96, ms97, msw, msf, msp, ms94 X.1, List.set_cons_succ, List.set_cons_zero, MFT, List.length_cons, List.length_nil, Nat.reduceLT, Nat.zero_add]
      refine s175 X (by omega) ?_
      refine go 60 (by decide) ?_
      simp only [KX, KY, KZ, KW, KV, Nat.reduceAdd, Nat.reduceSub, Nat.reduceLeDiff, true_and, and_true, true_or, or_true, or_self, reduceCtorEq, if_true, if_false, not_false_eq_true, eq_self, c178, ms80, ms96, ms97, msw, msf, msp, ms94 X.1, List.set_cons_succ, List.set_cons_zero, MFT, List.length_cons, List.length_nil, Nat.reduceLT, Nat.zero_add]
      refine s177 X.2.2.2.2 ?_
      refine go 60 (by decide) ?_
      simp only [KX, KY, KZ, KW, KV, Nat.reduceAdd, Nat.reduceSub, Nat.reduceLeDiff, true_and, and_true, true_or, or_true, or_self, reduceCtorEq, if_true, if_false, not_false_eq_true, eq_self, c178, ms80, ms96, ms97, msw, msf, msp, ms94 X.1, List.set_cons_succ, List.set_cons_zero, MFT, List.length_cons, List.length_nil, Nat.reduceLT, Nat.zero_add]
      unfold isI
      by_cases z : i + j < n ∧ isD (b (i + j)) = true
      · rw [if_pos z.1, if_pos z.2] at er
        rw [if_pos z, if_neg (show ¬ (1 : Int32) = 0 by decide), nI_sub (by omega), show i + j - i = j by omega]
        have ih2 := ih (j + 1) (by omega) (by omega) (by rw [er]; show j + (1 + run isD b n f (i + j + 1)) = j + 1 + run isD b n f (i + j + 1); omega)
        by_cases y : j < 3
        · rw [if_pos (show nI j < (3 : Int32) from nI_lt (b := 3) y (by decide))]
          refine s175 X (by omega) ?_
          refine go 60 (by decide) ?_
          simp only [KX, KY, KZ, KW, KV, Nat.reduceAdd, Nat.reduceSub, Nat.reduceLeDiff, true_and, and_true, true_or, or_true, or_self, reduceCtorEq, if_true, if_false, not_false_eq_true, eq_self, c178, ms80, ms96, ms97, msw, msf, msp, ms94 X.1, List.set_cons_succ, List.set_cons_zero, MFT, List.length_cons, List.length_nil, Nat.reduceLT, Nat.zero_add]
          rw [byv_in z.1, dV_1 y (isD_ok z.2)]
          refine go 60 (by decide) ?_
          simp only [KX, KY, KZ, KW, KV, Nat.reduceAdd, Nat.reduceSub, Nat.reduceLeDiff, true_and, and_true, true_or, or_true, or_self, reduceCtorEq, if_true, if_false, not_false_eq_true, eq_self, c178, ms80, ms96, ms97, msw, msf, msp, ms94 X.1, List.set_cons_succ, List.set_cons_zero, MFT, List.length_cons, List.length_nil, Nat.reduceLT, Nat.zero_add]
          rw [nI_1 (i + j), Nat.add_assoc]
          exact ih2
        · rw [if_neg (show ¬ nI j < (3 : Int32) from nI_nlt (b := 3) (by omega) (by omega))]
          refine go 60 (by decide) ?_
          simp only [KX, KY, KZ, KW, KV, Nat.reduceAdd, Nat.reduceSub, Nat.reduceLeDiff, true_and, and_true, true_or, or_true, or_self, reduceCtorEq, if_true, if_false, not_false_eq_true, eq_self, c178, ms80, ms96, ms97, msw, msf, msp, ms94 X.1, List.set_cons_succ, List.set_cons_zero, MFT, List.length_cons, List.length_nil, Nat.reduceLT, Nat.zero_add]
          rw [nI_1 (i + j), Nat.add_assoc, dV_2 (b := b) (i := i) y]
          exact ih2
      · have er : nD b n i = j := by
          rw [er]
          by_cases y : i + j < n
          · rw [if_pos y, if_neg (fun w => z ⟨y, w⟩)]
            rfl
          · rw [if_neg y]
            rfl
        rw [if_neg z]
        rw [er] at k
        rw [if_pos rfl]
        try (refine go 60 (by decide) ?_; simp only [KX, KY, KZ, KW, KV, Nat.reduceAdd, Nat.reduceSub, Nat.reduceLeDiff, true_and, and_true, true_or, or_true, or_self, reduceCtorEq, if_true, if_false, not_false_eq_true, eq_self, c178, ms80, ms96, ms97, msw, msf, msp, ms94 X.1, List.set_cons_succ, List.set_cons_zero, MFT, List.length_cons, List.length_nil, Nat.reduceLT, Nat.zero_add])
        exact k
  exact lp 201 0 (by omega) (by omega) (Nat.zero_add _).symm
