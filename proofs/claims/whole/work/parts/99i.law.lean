/-! law: tokens; the class parts a TEXT -/
def fw6 (b : Nat → Nat) (i L o : Nat) : Nat := if spl b i L (wns.getD o []) then 0 else if spl b i L (wns.getD (o + 1) []) then 1 else if spl b i L (wns.getD (o + 2) []) then 2 else if spl b i L (wns.getD (o + 3) []) then 3 else if spl b i L (wns.getD (o + 4) []) then 4 else if spl b i L (wns.getD (o + 5) []) then 5 else 6
def nL (b : Nat → Nat) (n i : Nat) : Nat := run isL b n 201 i
def nD (b : Nat → Nat) (n i : Nat) : Nat := run isD b n 201 i
/-- the token at i: a byte; 256 the END; 257 to 262 use, pick, if, or, and, not; 264 unfit; from 3000 on a VALUE -/
def qt (b : Nat → Nat) (n i : Nat) : Nat := if i < n then if 0 < nL b n i then if fw6 b i (nL b n i) 6 < 6 then 4000 + fw6 b i (nL b n i) 6 else if fw6 b i (nL b n i) 0 < 6 then 257 + fw6 b i (nL b n i) 0 else 264 else if 0 < nD b n i then if nD b n i ≤ 3 then 3000 + numF b i (nD b n i) else 264 else b i else 256
def cs (q : Nat) : Nat := if 3000 ≤ q then 263 else q
def cv (q : Nat) : Int32 := if 3000 ≤ q then nI (q - 3000) else -1
def te (b : Nat → Nat) (n i : Nat) : Nat := if i < n then i + (if nL b n i + nD b n i < 1 then 1 else nL b n i + nD b n i) else i
def spD (b : Nat → Nat) : Nat → Nat → Nat
  | 0, i => i
  | d + 1, i => if b i = 32 then spD b d (i + 1) else i
def spx (b : Nat → Nat) (n i : Nat) : Nat := spD b (n - i) i
def Ps (b : Nat → Nat) (n : Nat) : Nat → Nat
  | 0 => spx b n 0
  | k + 1 => spx b n (te b n (Ps b n k))
theorem spx_in {b : Nat → Nat} {n i : Nat} (h : i < n) : spx b n i = if b i = 32 then spx b n (i + 1) else i := by
  unfold spx
  rw [show n - i = (n - (i + 1)) + 1 by omega]
  rfl
theorem spx_out {b : Nat → Nat} {n i : Nat} (h : n ≤ i) : spx b n i = i := by
  unfold spx
  rw [show n - i = 0 by omega]
  rfl
theorem spx_le {b : Nat → Nat} {n : Nat} : ∀ d i, n - i = d → i ≤ n → i ≤ spx b n i ∧ spx b n i ≤ n ∧ (spx b n i < n → ¬ b (spx b n i) = 32)
  | 0, i, e, h => by
    obtain rfl : i = n := by omega
    rw [spx_out (Nat.le_refl _)]
    exact ⟨Nat.le_refl _, Nat.le_refl _, fun x => absurd x (Nat.lt_irrefl _)⟩
  | d + 1, i, e, h => by
    rw [spx_in (show i < n by omega)]
    have ih := spx_le (b := b) (n := n) d (i + 1) (by omega) (by omega)
    by_cases c : b i = 32
    · rw [if_pos c]
      exact ⟨by omega, ih.2.1, ih.2.2⟩
    · rw [if_neg c]
      exact ⟨Nat.le_refl _, by omega, fun _ => c⟩
/-- the runs: letters or digits, not both -/
theorem run_0 {g : Nat → Bool} {b : Nat → Nat} {n i : Nat} (h : i < n) (c : g (b i) = false) : run g b n 201 i = 0 := by
  show (if i < n then if g (b i) then 1 + run g b n 200 (i + 1) else 0 else 0) = 0
  rw [if_pos h, c]
  rfl
theorem run_p {g : Nat → Bool} {b : Nat → Nat} {n i : Nat} (h : i < n) (c : g (b i) = true) : 0 < run g b n 201 i := by
  show 0 < (if i < n then if g (b i) then 1 + run g b n 200 (i + 1) else 0 else 0)
  rw [if_pos h, c, if_pos rfl]
  omega
theorem run_all {g : Nat → Bool} {b : Nat → Nat} {n : Nat} : ∀ f i j, j < run g b n f i → g (b (i + j)) = true
  | 0, _, j, h => absurd h (Nat.not_lt_zero j)
  | f + 1, i, j, h => by
    have h : j < (if i < n then if g (b i) then 1 + run g b n f (i + 1) else 0 else 0) := h
    by_cases c : i < n
    · rw [if_pos c] at h
      by_cases d : g (b i) = true
      · rw [if_pos d] at h
        match j, h with
        | 0, _ => exact d
        | j + 1, h =>
          rw [show i + (j + 1) = i + 1 + j by omega]
          exact run_all (n := n) f (i + 1) j (by omega)
      · rw [if_neg d] at h
        exact absurd h (Nat.not_lt_zero j)
    · rw [if_neg c] at h
      exact absurd h (Nat.not_lt_zero j)
theorem isD_ok {c : Nat} (h : isD c = true) : 48 ≤ c ∧ c ≤ 57 := by
  unfold isD at h
  rw [Bool.and_eq_true] at h
  exact ⟨of_decide_eq_true h.1, of_decide_eq_true h.2⟩
theorem isL_ok {c : Nat} (h : isL c = true) : 97 ≤ c ∧ c ≤ 122 := by
  unfold isL at h
  rw [Bool.and_eq_true] at h
  exact ⟨of_decide_eq_true h.1, of_decide_eq_true h.2⟩
theorem LD {b : Nat → Nat} {n i : Nat} (h : i < n) : nL b n i = 0 ∨ nD b n i = 0 := by
  cases c : isL (b i)
  · exact Or.inl (run_0 h c)
  · refine Or.inr (run_0 h ?_)
    have := isL_ok c
    cases d : isD (b i)
    · rfl
    · have := isD_ok d
      omega
theorem qt_lt {b : Nat → Nat} (eb : ∀ i, b i < 256) (n i : Nat) : qt b n i < 4006 := by
  unfold qt
  split
  · split
    · split
      · omega
      · split <;> omega
    · split
      · split
        · rename_i c
          have := numF_lt (b := b) (i := i) (nD b n i) (fun j hj => (isD_ok (run_all _ _ _ hj)).2)
          have : 10 ^ nD b n i ≤ 10 ^ 3 := Nat.pow_le_pow_right (by decide) c
          omega
        · omega
      · have := eb i
        omega
  · omega
theorem s68 {h : ma_H} {Q : ma_Q} {b : Nat → Nat} {n i L : Nat} (X : TX h b n) (hL : i + L ≤ n) (k : Q (some (.int (if fw6 b i L 0 < 6 then nI (257 + fw6 b i L 0) else 264))) h) : ma_X 68 [.ref 2, .int (nI i), .int (nI L)] h Q := by
  refine ma_enter (m := 68) (Or.inl (by decide)) (by show 3 ≤ mt_n 68; decide +kernel) ?_
  show At 68 Q 0 (mt_c 68) [some (.ref 2), some (.int (nI i)), some (.int (nI L))] [] h
  have H := X.1
  refine go 60 (by decide) ?_
  simp only [KX, KY, KZ, KW, KV, Nat.reduceAdd, Nat.reduceSub, Nat.reduceLeDiff, true_and, and_true, true_or, or_true, or_self, reduceCtorEq, if_true, if_false, not_false_eq_true, eq_self, c68, H.e2]
  refine s70 (q := 0) X (by decide) hL ?_
  cases c0 : spl b i L (wns.getD 0 [])
  · rw [show bI false = 0 from rfl]
    refine go 60 (by decide) ?_
    simp only [KX, KY, KZ, KW, KV, Nat.reduceAdd, Nat.reduceSub, Nat.reduceLeDiff, true_and, and_true, true_or, or_true, or_self, reduceCtorEq, if_true, if_false, not_false_eq_true, eq_self, c68, H.e2]
    refine s70 (q := 1) X (by decide) hL ?_
    cases c1 : spl b i L (wns.getD 1 [])
    · rw [show bI false = 0 from rfl]
      refine go 60 (by decide) ?_
      simp only [KX, KY, KZ, KW, KV, Nat.reduceAdd, Nat.reduceSub, Nat.reduceLeDiff, true_and, and_true, true_or, or_true, or_self, reduceCtorEq, if_true, if_false, not_false_eq_true, eq_self, c68, H.e2]
      refine s70 (q := 2) X (by decide) hL ?_
      cases c2 : spl b i L (wns.getD 2 [])
      · rw [show bI false = 0 from rfl]
        refine go 60 (by decide) ?_
        simp only [KX, KY, KZ, KW, KV, Nat.reduceAdd, Nat.reduceSub, Nat.reduceLeDiff, true_and, and_true, true_or, or_true, or_self, reduceCtorEq, if_true, if_false, not_false_eq_true, eq_self, c68, H.e2]
        refine s70 (q := 3) X (by decide) hL ?_
        cases c3 : spl b i L (wns.getD 3 [])
        · rw [show bI false = 0 from rfl]
          refine go 60 (by decide) ?_
          simp only [KX, KY, KZ, KW, KV, Nat.reduceAdd, Nat.reduceSub, Nat.reduceLeDiff, true_and, and_true, true_or, or_true, or_self, reduceCtorEq, if_true, if_false, not_false_eq_true, eq_self, c68, H.e2]
          refine s70 (q := 4) X (by decide) hL ?_
          cases c4 : spl b i L (wns.getD 4 [])
          · rw [show bI false = 0 from rfl]
            refine go 60 (by decide) ?_
            simp only [KX, KY, KZ, KW, KV, Nat.reduceAdd, Nat.reduceSub, Nat.reduceLeDiff, true_and, and_true, true_or, or_true, or_self, reduceCtorEq, if_true, if_false, not_false_eq_true, eq_self, c68, H.e2]
            refine s70 (q := 5) X (by decide) hL ?_
            cases c5 : spl b i L (wns.getD 5 [])
            · rw [show bI false = 0 from rfl]
              refine go 60 (by decide) ?_
              simp only [KX, KY, KZ, KW, KV, Nat.reduceAdd, Nat.reduceSub, Nat.reduceLeDiff, true_and, and_true, true_or, or_true, or_self, reduceCtorEq, if_true, if_false, not_false_eq_true, eq_self, c68, H.e2]
              rw [show fw6 b i L 0 = 6 by unfold fw6; rw [c0, c1, c2, c3, c4, c5]; rfl] at k
              first
                | exact k
                | exact ⟨trivial, k⟩
            · rw [show bI true = 1 from rfl]
              refine go 60 (by decide) ?_
              simp only [KX, KY, KZ, KW, KV, Nat.reduceAdd, Nat.reduceSub, Nat.reduceLeDiff, true_and, and_true, true_or, or_true, or_self, reduceCtorEq, if_true, if_false, not_false_eq_true, eq_self, c68, H.e2]
              rw [show fw6 b i L 0 = 5 by unfold fw6; rw [c0, c1, c2, c3, c4, c5]; rfl] at k
              exact k
          · rw [show bI true = 1 from rfl]
            refine go 60 (by decide) ?_
            simp only [KX, KY, KZ, KW, KV, Nat.reduceAdd, Nat.reduceSub, Nat.reduceLeDiff, true_and, and_true, true_or, or_true, or_self, reduceCtorEq, if_true, if_false, not_false_eq_true, eq_self, c68, H.e2]
            rw [show fw6 b i L 0 = 4 by unfold fw6; rw [c0, c1, c2, c3, c4]; rfl] at k
            exact k
        · rw [show bI true = 1 from rfl]
          refine go 60 (by decide) ?_
          simp only [KX, KY, KZ, KW, KV, Nat.reduceAdd, Nat.reduceSub, Nat.reduceLeDiff, true_and, and_true, true_or, or_true, or_self, reduceCtorEq, if_true, if_false, not_false_eq_true, eq_self, c68, H.e2]
          rw [show fw6 b i L 0 = 3 by unfold fw6; rw [c0, c1, c2, c3]; rfl] at k
          exact k
      · rw [show bI true = 1 from rfl]
        refine go 60 (by decide) ?_
        simp only [KX, KY, KZ, KW, KV, Nat.reduceAdd, Nat.reduceSub, Nat.reduceLeDiff, true_and, and_true, true_or, or_true, or_self, reduceCtorEq, if_true, if_false, not_false_eq_true, eq_self, c68, H.e2]
        rw [show fw6 b i L 0 = 2 by unfold fw6; rw [c0, c1, c2]; rfl] at k
        exact k
    · rw [show bI true = 1 from rfl]
      refine go 60 (by decide) ?_
      simp only [KX, KY, KZ, KW, KV, Nat.reduceAdd, Nat.reduceSub, Nat.reduceLeDiff, true_and, and_true, true_or, or_true, or_self, reduceCtorEq, if_true, if_false, not_false_eq_true, eq_self, c68, H.e2]
      rw [show fw6 b i L 0 = 1 by unfold fw6; rw [c0, c1]; rfl] at k
      exact k
  · rw [show bI true = 1 from rfl]
    refine go 60 (by decide) ?_
    simp only [KX, KY, KZ, KW, KV, Nat.reduceAdd, Nat.reduceSub, Nat.reduceLeDiff, true_and, and_true, true_or, or_true, or_self, reduceCtorEq, if_true, if_false, not_false_eq_true, eq_self, c68, H.e2]
    rw [show fw6 b i L 0 = 0 by unfold fw6; rw [c0]; rfl] at k
    exact k
theorem s69 {h : ma_H} {Q : ma_Q} {b : Nat → Nat} {n i L : Nat} (X : TX h b n) (hL : i + L ≤ n) (k : Q (some (.int (if fw6 b i L 6 < 6 then nI (1000 + fw6 b i L 6) else -1))) h) : ma_X 69 [.ref 2, .int (nI i), .int (nI L)] h Q := by
  refine ma_enter (m := 69) (Or.inl (by decide)) (by show 3 ≤ mt_n 69; decide +kernel) ?_
  show At 69 Q 0 (mt_c 69) [some (.ref 2), some (.int (nI i)), some (.int (nI L))] [] h
  have H := X.1
  refine go 60 (by decide) ?_
  simp only [KX, KY, KZ, KW, KV, Nat.reduceAdd, Nat.reduceSub, Nat.reduceLeDiff, true_and, and_true, true_or, or_true, or_self, reduceCtorEq, if_true, if_false, not_false_eq_true, eq_self, c69, H.e2]
  refine s70 (q := 6) X (by decide) hL ?_
  cases c0 : spl b i L (wns.getD 6 [])
  · rw [show bI false = 0 from rfl]
    refine go 60 (by decide) ?_
    simp only [KX, KY, KZ, KW, KV, Nat.reduceAdd, Nat.reduceSub, Nat.reduceLeDiff, true_and, and_true, true_or, or_true, or_self, reduceCtorEq, if_true, if_false, not_false_eq_true, eq_self, c69, H.e2]
    refine s70 (q := 7) X (by decide) hL ?_
    cases c1 : spl b i L (wns.getD 7 [])
    · rw [show bI false = 0 from rfl]
      refine go 60 (by decide) ?_
      simp only [KX, KY, KZ, KW, KV, Nat.reduceAdd, Nat.reduceSub, Nat.reduceLeDiff, true_and, and_true, true_or, or_true, or_self, reduceCtorEq, if_true, if_false, not_false_eq_true, eq_self, c69, H.e2]
      refine s70 (q := 8) X (by decide) hL ?_
      cases c2 : spl b i L (wns.getD 8 [])
      · rw [show bI false = 0 from rfl]
        refine go 60 (by decide) ?_
        simp only [KX, KY, KZ, KW, KV, Nat.reduceAdd, Nat.reduceSub, Nat.reduceLeDiff, true_and, and_true, true_or, or_true, or_self, reduceCtorEq, if_true, if_false, not_false_eq_true, eq_self, c69, H.e2]
        refine s70 (q := 9) X (by decide) hL ?_
        cases c3 : spl b i L (wns.getD 9 [])
        · rw [show bI false = 0 from rfl]
          refine go 60 (by decide) ?_
          simp only [KX, KY, KZ, KW, KV, Nat.reduceAdd, Nat.reduceSub, Nat.reduceLeDiff, true_and, and_true, true_or, or_true, or_self, reduceCtorEq, if_true, if_false, not_false_eq_true, eq_self, c69, H.e2]
          refine s70 (q := 10) X (by decide) hL ?_
          cases c4 : spl b i L (wns.getD 10 [])
          · rw [show bI false = 0 from rfl]
            refine go 60 (by decide) ?_
            simp only [KX, KY, KZ, KW, KV, Nat.reduceAdd, Nat.reduceSub, Nat.reduceLeDiff, true_and, and_true, true_or, or_true, or_self, reduceCtorEq, if_true, if_false, not_false_eq_true, eq_self, c69, H.e2]
            refine s70 (q := 11) X (by decide) hL ?_
            cases c5 : spl b i L (wns.getD 11 [])
            · rw [show bI false = 0 from rfl]
              refine go 60 (by decide) ?_
              simp only [KX, KY, KZ, KW, KV, Nat.reduceAdd, Nat.reduceSub, Nat.reduceLeDiff, true_and, and_true, true_or, or_true, or_self, reduceCtorEq, if_true, if_false, not_false_eq_true, eq_self, c69, H.e2]
              rw [show fw6 b i L 6 = 6 by unfold fw6; rw [c0, c1, c2, c3, c4, c5]; rfl] at k
              first
                | exact k
                | exact ⟨trivial, k⟩
            · rw [show bI true = 1 from rfl]
              refine go 60 (by decide) ?_
              simp only [KX, KY, KZ, KW, KV, Nat.reduceAdd, Nat.reduceSub, Nat.reduceLeDiff, true_and, and_true, true_or, or_true, or_self, reduceCtorEq, if_true, if_false, not_false_eq_true, eq_self, c69, H.e2]
              rw [show fw6 b i L 6 = 5 by unfold fw6; rw [c0, c1, c2, c3, c4, c5]; rfl] at k
              exact k
          · rw [show bI true = 1 from rfl]
            refine go 60 (by decide) ?_
            simp only [KX, KY, KZ, KW, KV, Nat.reduceAdd, Nat.reduceSub, Nat.reduceLeDiff, true_and, and_true, true_or, or_true, or_self, reduceCtorEq, if_true, if_false, not_false_eq_true, eq_self, c69, H.e2]
            rw [show fw6 b i L 6 = 4 by unfold fw6; rw [c0, c1, c2, c3, c4]; rfl] at k
            exact k
        · rw [show bI true = 1 from rfl]
          refine go 60 (by decide) ?_
          simp only [KX, KY, KZ, KW, KV, Nat.reduceAdd, Nat.reduceSub, Nat.reduceLeDiff, true_and, and_true, true_or, or_true, or_self, reduceCtorEq, if_true, if_false, not_false_eq_true, eq_self, c69, H.e2]
          rw [show fw6 b i L 6 = 3 by unfold fw6; rw [c0, c1, c2, c3]; rfl] at k
          exact k
      · rw [show bI true = 1 from rfl]
        refine go 60 (by decide) ?_
        simp only [KX, KY, KZ, KW, KV, Nat.reduceAdd, Nat.reduceSub, Nat.reduceLeDiff, true_and, and_true, true_or, or_true, or_self, reduceCtorEq, if_true, if_false, not_false_eq_true, eq_self, c69, H.e2]
        rw [show fw6 b i L 6 = 2 by unfold fw6; rw [c0, c1, c2]; rfl] at k
        exact k
    · rw [show bI true = 1 from rfl]
      refine go 60 (by decide) ?_
      simp only [KX, KY, KZ, KW, KV, Nat.reduceAdd, Nat.reduceSub, Nat.reduceLeDiff, true_and, and_true, true_or, or_true, or_self, reduceCtorEq, if_true, if_false, not_false_eq_true, eq_self, c69, H.e2]
      rw [show fw6 b i L 6 = 1 by unfold fw6; rw [c0, c1]; rfl] at k
      exact k
  · rw [show bI true = 1 from rfl]
    refine go 60 (by decide) ?_
    simp only [KX, KY, KZ, KW, KV, Nat.reduceAdd, Nat.reduceSub, Nat.reduceLeDiff, true_and, and_true, true_or, or_true, or_self, reduceCtorEq, if_true, if_false, not_false_eq_true, eq_self, c69, H.e2]
    rw [show fw6 b i L 6 = 0 by unfold fw6; rw [c0]; rfl] at k
    exact k
