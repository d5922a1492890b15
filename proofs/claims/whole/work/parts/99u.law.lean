/-! law: the Model goes on -/
theorem s178 {hm : ma_H} {s be : Int32} {w : Int64} {v g m p o : Int32} {fr pe : Nat → Int32} {Q : ma_Q} {b : Nat → Nat} {n j : Nat} (X : MX hm b n) (hj : j ≤ n) (k : Q none (MS hm (mS b n (spx b n j)) (nI (spx b n j)) (nI (te b n (spx b n j))) (mW b n (spx b n j)) (mV b n (spx b n j)) g m p o fr pe)) : ma_X 178 [.ref 80] (MS hm s be (nI j) w v g m p o fr pe) Q := by
  obtain ⟨H, e18, n2, ex, eb⟩ := id X
  have lp : ∀ d I s2 be2 w2 v2, n - I = d → I ≤ n → be2 = nI I → spx b n j = spx b n I → ma_X 175 [.ref 80, .int be2] (MS hm s2 be2 (nI j) w2 v2 g m p o fr pe) (fun v h2 => At 178 Q 8 (0, 0) [some (.ref 80), none] (v.toList ++ []) h2) := by
    intro d
    induction d with
    | zero =>
      intro I s2 be2 w2 v2 ed In eb2 es
      obtain rfl : I = n := by omega
      subst eb2
      have es2 : spx b I I = I := spx_out (Nat.le_refl _)
      have z : ¬ I < I := Nat.lt_irrefl I
      refine s175 X (by omega) ?_
      refine go 60 (by decide) ?_
      simp only [KX, KY, KZ, KW, KV, Nat.reduceAdd, Nat.reduceSub, Nat.reduceLeDiff, true_and, and_true, true_or, or_true, or_self, reduceCtorEq, if_true, if_false, not_false_eq_true, eq_self, c178, ms80, ms96, ms97, msw, msf, msp, ms94 X.1, List.set_cons_succ, List.set_cons_zero, MFT, List.length_cons, List.length_nil, Nat.reduceLT, Nat.zero_add]
      rw [show byv b I I = -1 from if_neg z, if_neg (show ¬ (-1 : Int32) = 32 by decide)]
      have Ie : spx b I j = I := es.trans es2
      rw [Ie] at k
      refine s175 X (by omega) ?_
      refine go 60 (by decide) ?_
      simp only [KX, KY, KZ, KW, KV, Nat.reduceAdd, Nat.reduceSub, Nat.reduceLeDiff, true_and, and_true, true_or, or_true, or_self, reduceCtorEq, if_true, if_false, not_false_eq_true, eq_self, c178, ms80, ms96, ms97, msw, msf, msp, ms94 X.1, List.set_cons_succ, List.set_cons_zero, MFT, List.length_cons, List.length_nil, Nat.reduceLT, Nat.zero_add]
      rw [show byv b I I = -1 from if_neg z, if_pos (show (-1 : Int32) < 0 by decide)]
      have e1 : mS b I I = 0 := if_neg z
      have e2 : te b I I = I := if_neg z
      have e3 : mW b I I = lN 0 := if_neg z
      have e4 : mV b I I = -1 := if_neg z
      rw [e1, e2, e3, e4] at k
      iterate 8 first
          | done
          | exact k
          | rw [if_neg (show ¬ (0 : Int32) = 2 by decide)]
          | (refine go 60 (by decide) ?_; simp only [KX, KY, KZ, KW, KV, Nat.reduceAdd, Nat.reduceSub, Nat.reduceLeDiff, true_and, and_true, true_or, or_true, or_self, reduceCtorEq, if_true, if_false, not_false_eq_true, eq_self, c178, ms80, ms96, ms97, msw, msf, msp, ms94 X.1, List.set_cons_succ, List.set_cons_zero, MFT, List.length_cons, List.length_nil, Nat.reduceLT, Nat.zero_add])
    | succ d ih =>
      intro I s2 be2 w2 v2 ed In eb2 es
      subst eb2
      have z : I < n := by omega
      refine s175 X (by omega) ?_
      refine go 60 (by decide) ?_
      simp only [KX, KY, KZ, KW, KV, Nat.reduceAdd, Nat.reduceSub, Nat.reduceLeDiff, true_and, and_true, true_or, or_true, or_self, reduceCtorEq, if_true, if_false, not_false_eq_true, eq_self, c178, ms80, ms96, ms97, msw, msf, msp, ms94 X.1, List.set_cons_succ, List.set_cons_zero, MFT, List.length_cons, List.length_nil, Nat.reduceLT, Nat.zero_add]
      by_cases bb : b I = 32
      · rw [byv_in z, bb, if_pos (show nI 32 = 32 from rfl)]
        refine go 60 (by decide) ?_
        simp only [KX, KY, KZ, KW, KV, Nat.reduceAdd, Nat.reduceSub, Nat.reduceLeDiff, true_and, and_true, true_or, or_true, or_self, reduceCtorEq, if_true, if_false, not_false_eq_true, eq_self, c178, ms80, ms96, ms97, msw, msf, msp, ms94 X.1, List.set_cons_succ, List.set_cons_zero, MFT, List.length_cons, List.length_nil, Nat.reduceLT, Nat.zero_add]
        exact ih (I + 1) _ _ _ _ (by omega) (by omega) (nI_1 I) (by rw [es, spx_in z, if_pos bb])
      · rw [if_neg (by rw [byv_in z]; exact fun w => bb ((nI_eq (by have := eb I; omega) (by decide)).mp (show nI (b I) = nI 32 from w)))]
        have es2 : spx b n I = I := by rw [spx_in z, if_neg bb]
        have Ie : spx b n j = I := es.trans es2
        rw [Ie] at k
        refine s175 X (by omega) ?_
        refine go 60 (by decide) ?_
        simp only [KX, KY, KZ, KW, KV, Nat.reduceAdd, Nat.reduceSub, Nat.reduceLeDiff, true_and, and_true, true_or, or_true, or_self, reduceCtorEq, if_true, if_false, not_false_eq_true, eq_self, c178, ms80, ms96, ms97, msw, msf, msp, ms94 X.1, List.set_cons_succ, List.set_cons_zero, MFT, List.length_cons, List.length_nil, Nat.reduceLT, Nat.zero_add]
        by_cases z : I < n
        · rw [byv_in z, if_neg (nI_pos (show b I < 2 ^ 31 by have := eb I; omega)), ← byv_in z]
          refine s176 eb ?_
          refine go 60 (by decide) ?_
          simp only [KX, KY, KZ, KW, KV, Nat.reduceAdd, Nat.reduceSub, Nat.reduceLeDiff, true_and, and_true, true_or, or_true, or_self, reduceCtorEq, if_true, if_false, not_false_eq_true, eq_self, c178, ms80, ms96, ms97, msw, msf, msp, ms94 X.1, List.set_cons_succ, List.set_cons_zero, MFT, List.length_cons, List.length_nil, Nat.reduceLT, Nat.zero_add]
          by_cases y : isL (b I) = true
          · have nl : 0 < nL b n I := run_p z y
            have nd : nD b n I = 0 := (LD z).resolve_left (by omega)
            rw [show isI isL b n I = 1 from if_pos ⟨z, y⟩, if_neg (show ¬ (1 : Int32) = 0 by decide)]
            have e1 : mS b n I = 1 := by unfold mS; rw [if_pos z, if_pos nl]
            have e2 : te b n I = I + nL b n I := by unfold te; rw [if_pos z, nd, Nat.add_zero, if_neg (by omega)]
            have e3 : mW b n I = wL b I (nL b n I) := if_pos z
            have e4 : mV b n I = byv b n I := by unfold mV; rw [if_pos z, if_pos nl, byv_in z]
            rw [e1, e2, e3, e4] at k
            iterate 8 first
                | done
                | exact l178 X z k
                | rw [if_neg (show ¬ (1 : Int32) = 2 by decide)]
                | (refine go 60 (by decide) ?_; simp only [KX, KY, KZ, KW, KV, Nat.reduceAdd, Nat.reduceSub, Nat.reduceLeDiff, true_and, and_true, true_or, or_true, or_self, reduceCtorEq, if_true, if_false, not_false_eq_true, eq_self, c178, ms80, ms96, ms97, msw, msf, msp, ms94 X.1, List.set_cons_succ, List.set_cons_zero, MFT, List.length_cons, List.length_nil, Nat.reduceLT, Nat.zero_add])
          · have nl : nL b n I = 0 := run_0 z (by revert y; cases isL (b I) <;> simp)
            rw [show isI isL b n I = 0 from if_neg (fun w => y w.2), if_pos rfl]
            refine s177 eb ?_
            refine go 60 (by decide) ?_
            simp only [KX, KY, KZ, KW, KV, Nat.reduceAdd, Nat.reduceSub, Nat.reduceLeDiff, true_and, and_true, true_or, or_true, or_self, reduceCtorEq, if_true, if_false, not_false_eq_true, eq_self, c178, ms80, ms96, ms97, msw, msf, msp, ms94 X.1, List.set_cons_succ, List.set_cons_zero, MFT, List.length_cons, List.length_nil, Nat.reduceLT, Nat.zero_add]
            by_cases x : isD (b I) = true
            · have nd : 0 < nD b n I := run_p z x
              rw [show isI isD b n I = 1 from if_pos ⟨z, x⟩, if_neg (show ¬ (1 : Int32) = 0 by decide)]
              have e1 : mS b n I = 2 := by unfold mS; rw [if_pos z, if_neg (by omega), if_pos nd]
              have e2 : te b n I = I + nD b n I := by unfold te; rw [if_pos z, nl, Nat.zero_add, if_neg (by omega)]
              have e3 : mW b n I = lN 0 := by unfold mW; rw [if_pos z, nl]; rfl
              have e4 : mV b n I = dV b I (nD b n I) := by unfold mV; rw [if_pos z, if_neg (by omega), if_pos nd]
              rw [e1, e2, e3, e4] at k
              iterate 8 first
                  | done
                  | exact d178 X z k
                  | rw [if_neg (show ¬ (1 : Int32) = 2 by decide)]
                  | (refine go 60 (by decide) ?_; simp only [KX, KY, KZ, KW, KV, Nat.reduceAdd, Nat.reduceSub, Nat.reduceLeDiff, true_and, and_true, true_or, or_true, or_self, reduceCtorEq, if_true, if_false, not_false_eq_true, eq_self, c178, ms80, ms96, ms97, msw, msf, msp, ms94 X.1, List.set_cons_succ, List.set_cons_zero, MFT, List.length_cons, List.length_nil, Nat.reduceLT, Nat.zero_add])
            · have nd : nD b n I = 0 := run_0 z (by revert x; cases isD (b I) <;> simp)
              rw [show isI isD b n I = 0 from if_neg (fun w => x w.2), if_pos rfl]
              have e1 : mS b n I = 3 := by unfold mS; rw [if_pos z, if_neg (by omega), if_neg (by omega)]
              have e2 : te b n I = I + 1 := by unfold te; rw [if_pos z, if_pos (by omega)]
              have e3 : mW b n I = lN 0 := by unfold mW; rw [if_pos z, nl]; rfl
              have e4 : mV b n I = nI (b I) := by unfold mV; rw [if_pos z, if_neg (by omega), if_neg (by omega)]
              rw [e1, e2, e3, e4, ← nI_1 I, ← byv_in z] at k
              iterate 8 first
                  | done
                  | exact k
                  | rw [if_neg (show ¬ (3 : Int32) = 2 by decide)]
                  | (refine go 60 (by decide) ?_; simp only [KX, KY, KZ, KW, KV, Nat.reduceAdd, Nat.reduceSub, Nat.reduceLeDiff, true_and, and_true, true_or, or_true, or_self, reduceCtorEq, if_true, if_false, not_false_eq_true, eq_self, c178, ms80, ms96, ms97, msw, msf, msp, ms94 X.1, List.set_cons_succ, List.set_cons_zero, MFT, List.length_cons, List.length_nil, Nat.reduceLT, Nat.zero_add])
        · rw [show byv b n I = -1 from if_neg z]
          rw [if_pos (show (-1 : Int32) < 0 by decide)]
          have e1 : mS b n I = 0 := if_neg z
          have e2 : te b n I = I := if_neg z
          have e3 : mW b n I = lN 0 := if_neg z
          have e4 : mV b n I = -1 := if_neg z
          rw [e1, e2, e3, e4] at k
          iterate 8 first
              | done
              | exact k
              | rw [if_neg (show ¬ (0 : Int32) = 2 by decide)]
              | (refine go 60 (by decide) ?_; simp only [KX, KY, KZ, KW, KV, Nat.reduceAdd, Nat.reduceSub, Nat.reduceLeDiff, true_and, and_true, true_or, or_true, or_self, reduceCtorEq, if_true, if_false, not_false_eq_true, eq_self, c178, ms80, ms96, ms97, msw, msf, msp, ms94 X.1, List.set_cons_succ, List.set_cons_zero, MFT, List.length_cons, List.length_nil, Nat.reduceLT, Nat.zero_add])
  refine ma_enter (m := 178) (Or.inl (by decide)) (by show 1 ≤ mt_n 178; decide +kernel) ?_
  show At 178 Q 0 (mt_c 178) [some (.ref 80), none] [] (MS hm s be (nI j) w v g m p o fr pe)
  refine go 60 (by decide) ?_
  simp only [KX, KY, KZ, KW, KV, Nat.reduceAdd, Nat.reduceSub, Nat.reduceLeDiff, true_and, and_true, true_or, or_true, or_self, reduceCtorEq, if_true, if_false, not_false_eq_true, eq_self, c178, ms80, ms96, ms97, msw, msf, msp, ms94 X.1, List.set_cons_succ, List.set_cons_zero, MFT, List.length_cons, List.length_nil, Nat.reduceLT, Nat.zero_add]
  refine go 60 (by decide) ?_
  simp only [KX, KY, KZ, KW, KV, Nat.reduceAdd, Nat.reduceSub, Nat.reduceLeDiff, true_and, and_true, true_or, or_true, or_self, reduceCtorEq, if_true, if_false, not_false_eq_true, eq_self, c178, ms80, ms96, ms97, msw, msf, msp, ms94 X.1, List.set_cons_succ, List.set_cons_zero, MFT, List.length_cons, List.length_nil, Nat.reduceLT, Nat.zero_add]
  exact lp (n - j) j _ _ _ _ rfl hj rfl rfl
