/-! law: the Model looks at a token -/
theorem q_end {b : Nat → Nat} {n i : Nat} (eb : ∀ i, b i < 256) : mS b n i = 0 ↔ qt b n i = 256 := by
  unfold mS qt
  by_cases z : i < n
  · rw [if_pos z, if_pos z]
    by_cases l : 0 < nL b n i
    · rw [if_pos l, if_pos l]
      have := @fw6_le b i (nL b n i) 0
      refine ⟨fun w => absurd w (by decide), fun w => ?_⟩
      split at w
      · omega
      · split at w <;> omega
    · rw [if_neg l, if_neg l]
      by_cases d : 0 < nD b n i
      · rw [if_pos d, if_pos d]
        refine ⟨fun w => absurd w (by decide), fun w => ?_⟩
        split at w <;> omega
      · rw [if_neg d, if_neg d]
        have := eb i
        exact ⟨fun w => absurd w (by decide), fun w => by omega⟩
  · rw [if_neg z, if_neg z]
    exact ⟨fun _ => rfl, fun _ => rfl⟩
theorem q_mark {b : Nat → Nat} {n i c : Nat} (eb : ∀ i, b i < 256) (hc : c < 256) : (mS b n i = 3 ∧ mV b n i = nI c) ↔ qt b n i = c := by
  unfold mS qt mV
  by_cases z : i < n
  · rw [if_pos z, if_pos z, if_pos z]
    by_cases l : 0 < nL b n i
    · rw [if_pos l, if_pos l, if_pos l]
      refine ⟨fun w => absurd w.1 (by decide), fun w => ?_⟩
      split at w
      · omega
      · split at w <;> omega
    · rw [if_neg l, if_neg l, if_neg l]
      by_cases d : 0 < nD b n i
      · rw [if_pos d, if_pos d, if_pos d]
        refine ⟨fun w => absurd w.1 (by decide), fun w => ?_⟩
        split at w <;> omega
      · rw [if_neg d, if_neg d, if_neg d]
        have := eb i
        exact ⟨fun w => (nI_eq (by omega) (by omega)).mp w.2, fun w => ⟨rfl, by rw [w]⟩⟩
  · rw [if_neg z, if_neg z, if_neg z]
    exact ⟨fun w => absurd w.1 (by decide), fun w => by omega⟩
theorem q_num {b : Nat → Nat} {n i : Nat} (eb : ∀ i, b i < 256) : (mS b n i = 2 ∧ ¬ mV b n i < 0 → 3000 ≤ qt b n i ∧ qt b n i < 4000 ∧ mV b n i = nI (qt b n i - 3000)) ∧ (3000 ≤ qt b n i → qt b n i < 4000 → mS b n i = 2 ∧ ¬ mV b n i < 0) := by
  unfold mS qt mV
  by_cases z : i < n
  · rw [if_pos z, if_pos z, if_pos z]
    by_cases l : 0 < nL b n i
    · rw [if_pos l, if_pos l, if_pos l]
      refine ⟨fun w => absurd w.1 (by decide), fun w w2 => ?_⟩
      split at w
      · rw [if_pos (by assumption)] at w2
        omega
      · split at w <;> omega
    · rw [if_neg l, if_neg l, if_neg l]
      by_cases d : 0 < nD b n i
      · rw [if_pos d, if_pos d, if_pos d]
        unfold dV
        by_cases d3 : nD b n i ≤ 3
        · rw [if_pos d3, if_pos d3]
          have h1 := numF_lt (b := b) (i := i) (nD b n i) (fun j hj => (isD_ok (run_all 201 i j hj)).2)
          have h2 : 10 ^ nD b n i ≤ 10 ^ 3 := Nat.pow_le_pow_right (by decide) d3
          exact ⟨fun _ => ⟨by omega, by omega, by rw [Nat.add_sub_cancel_left]⟩, fun _ _ => ⟨rfl, nI_pos (by omega)⟩⟩
        · rw [if_neg d3, if_neg d3]
          exact ⟨fun w => absurd (show (-1 : Int32) < 0 by decide) w.2, fun w => by omega⟩
      · rw [if_neg d, if_neg d, if_neg d]
        have := eb i
        exact ⟨fun w => absurd w.1 (by decide), fun w => by omega⟩
  · rw [if_neg z, if_neg z, if_neg z]
    exact ⟨fun w => absurd w.1 (by decide), fun w => by omega⟩
theorem q_word {b : Nat → Nat} {n i a : Nat} (eb : ∀ i, b i < 256) (ha : a < 6) : (mS b n i = 1 ∧ mW b n i = lN (wvs.getD a 0)) ↔ qt b n i = 257 + a := by
  unfold mS qt mW
  by_cases z : i < n
  · rw [if_pos z, if_pos z, if_pos z]
    by_cases l : 0 < nL b n i
    · rw [if_pos l, if_pos l, wL_spl (by omega) nL_all]
      have A := fw6_eq (b := b) (i := i) (L := nL b n i) (o := 0) (r := a) (by decide) nL_all ha
      rw [Nat.zero_add] at A
      rw [← A]
      by_cases y : fw6 b i (nL b n i) 6 < 6
      · rw [if_pos y]
        have B := (fw6_eq (b := b) (i := i) (L := nL b n i) (o := 6) (by decide) nL_all y).mp rfl
        exact ⟨fun w => absurd (spl_one (by omega) (by omega) nL_all (A.mp w.2) B) (by omega), fun w => by omega⟩
      · rw [if_neg y]
        by_cases x : fw6 b i (nL b n i) 0 < 6
        · rw [if_pos x]
          exact ⟨fun w => by rw [w.2], fun w => ⟨rfl, by omega⟩⟩
        · rw [if_neg x]
          exact ⟨fun w => by omega, fun w => by omega⟩
    · rw [if_neg l, if_neg l]
      by_cases d : 0 < nD b n i
      · rw [if_pos d, if_pos d]
        refine ⟨fun w => absurd w.1 (by decide), fun w => ?_⟩
        split at w <;> omega
      · rw [if_neg d, if_neg d]
        have := eb i
        exact ⟨fun w => absurd w.1 (by decide), fun w => by omega⟩
  · rw [if_neg z, if_neg z, if_neg z]
    exact ⟨fun w => absurd w.1 (by decide), fun w => by omega⟩
theorem q_name {b : Nat → Nat} {n i a : Nat} (eb : ∀ i, b i < 256) (ha : a < 6) : (mS b n i = 1 ∧ mW b n i = lN (wvs.getD (6 + a) 0)) ↔ qt b n i = 4000 + a := by
  unfold mS qt mW
  by_cases z : i < n
  · rw [if_pos z, if_pos z, if_pos z]
    by_cases l : 0 < nL b n i
    · rw [if_pos l, if_pos l, wL_spl (by omega) nL_all]
      have A := fw6_eq (b := b) (i := i) (L := nL b n i) (o := 6) (r := a) (by decide) nL_all ha
      rw [← A]
      by_cases y : fw6 b i (nL b n i) 6 < 6
      · rw [if_pos y]
        exact ⟨fun w => by rw [w.2], fun w => ⟨rfl, by omega⟩⟩
      · rw [if_neg y]
        have := @fw6_le b i (nL b n i) 0
        refine ⟨fun w => by omega, fun w => ?_⟩
        split at w <;> omega
    · rw [if_neg l, if_neg l]
      by_cases d : 0 < nD b n i
      · rw [if_pos d, if_pos d]
        refine ⟨fun w => absurd w.1 (by decide), fun w => ?_⟩
        split at w
        · have h1 := numF_lt (b := b) (i := i) (nD b n i) (fun j hj => (isD_ok (run_all 201 i j hj)).2)
          have h2 : 10 ^ nD b n i ≤ 10 ^ 3 := Nat.pow_le_pow_right (by decide) (by assumption)
          omega
        · omega
      · rw [if_neg d, if_neg d]
        have := eb i
        exact ⟨fun w => absurd w.1 (by decide), fun w => by omega⟩
  · rw [if_neg z, if_neg z, if_neg z]
    exact ⟨fun w => absurd w.1 (by decide), fun w => by omega⟩
theorem s179 {hm : ma_H} {s be en : Int32} {w : Int64} {v g m p o : Int32} {fr pe : Nat → Int32} {Q : ma_Q} {W : Int64} (k : Q (some (.int (if s = 1 ∧ w = W then 1 else 0))) (MS hm s be en w v g m p o fr pe)) : ma_X 179 [.ref 80, .long W] (MS hm s be en w v g m p o fr pe) Q := by
  refine ma_enter (m := 179) (Or.inl (by decide)) (by show 3 ≤ mt_n 179; decide +kernel) ?_
  show At 179 Q 0 (mt_c 179) [some (.ref 80), some (.long W), none] [] (MS hm s be en w v g m p o fr pe)
  refine go 60 (by decide) ?_
  simp only [KX, KY, KZ, KW, KV, Nat.reduceAdd, Nat.reduceSub, Nat.reduceLeDiff, true_and, and_true, true_or, or_true, or_self, reduceCtorEq, if_true, if_false, not_false_eq_true, eq_self, c179, ms80, ms96, ms97, msw, msf, msp, List.set_cons_succ, List.set_cons_zero, MFT, List.length_cons, List.length_nil, Nat.reduceLT, Nat.zero_add]
  by_cases a : s = 1
  · rw [if_pos a]
    by_cases c : w = W
    · rw [if_pos ⟨a, c⟩] at k
      rw [if_pos ((lg_cmp_eq _ _).mpr c)]
      exact k
    · rw [if_neg (fun z => c z.2)] at k
      rw [if_neg (fun z => c ((lg_cmp_eq _ _).mp z))]
      exact k
  · rw [if_neg (fun z => a z.1)] at k
    rw [if_neg a]
    exact k
theorem s180 {hm : ma_H} {s be en : Int32} {w : Int64} {v g m p o : Int32} {fr pe : Nat → Int32} {Q : ma_Q} {c : Int32} (k : Q (some (.int (if s = 3 ∧ v = c then 1 else 0))) (MS hm s be en w v g m p o fr pe)) : ma_X 180 [.ref 80, .int c] (MS hm s be en w v g m p o fr pe) Q := by
  refine ma_enter (m := 180) (Or.inl (by decide)) (by show 2 ≤ mt_n 180; decide +kernel) ?_
  show At 180 Q 0 (mt_c 180) [some (.ref 80), some (.int c)] [] (MS hm s be en w v g m p o fr pe)
  refine go 60 (by decide) ?_
  simp only [KX, KY, KZ, KW, KV, Nat.reduceAdd, Nat.reduceSub, Nat.reduceLeDiff, true_and, and_true, true_or, or_true, or_self, reduceCtorEq, if_true, if_false, not_false_eq_true, eq_self, c180, ms80, ms96, ms97, msw, msf, msp, List.set_cons_succ, List.set_cons_zero, MFT, List.length_cons, List.length_nil, Nat.reduceLT, Nat.zero_add]
  by_cases a : s = 3
  · rw [if_pos a]
    by_cases d : v = c
    · rw [if_pos ⟨a, d⟩] at k
      rw [if_pos d]
      exact k
    · rw [if_neg (fun z => d z.2)] at k
      rw [if_neg d]
      exact k
  · rw [if_neg (fun z => a z.1)] at k
    rw [if_neg a]
    exact k
/-- the Model at token k -/
def MT (hm : ma_H) (b : Nat → Nat) (n k : Nat) (g m p o : Int32) (fr pe : Nat → Int32) : ma_H := MS hm (mS b n (Ps b n k)) (nI (Ps b n k)) (nI (te b n (Ps b n k))) (mW b n (Ps b n k)) (mV b n (Ps b n k)) g m p o fr pe
theorem te_le {b : Nat → Nat} {n i : Nat} (h : i ≤ n) : te b n i ≤ n := by
  by_cases z : i < n
  · exact (te_gt z).2
  · unfold te
    rw [if_neg z]
    exact h
theorem Ps_le {b : Nat → Nat} {n : Nat} : ∀ k, Ps b n k ≤ n
  | 0 => (spx_le (n - 0) 0 rfl (Nat.zero_le _)).2.1
  | k + 1 => (spx_le (n - te b n (Ps b n k)) (te b n (Ps b n k)) rfl (te_le (Ps_le k))).2.1
theorem t178 {hm : ma_H} {b : Nat → Nat} {n k : Nat} {g m p o : Int32} {fr pe : Nat → Int32} {Q : ma_Q} (X : MX hm b n) (k0 : Q none (MT hm b n (k + 1) g m p o fr pe)) : ma_X 178 [.ref 80] (MT hm b n k g m p o fr pe) Q := by
  exact s178 X (te_le (Ps_le k)) k0
theorem t179 {hm : ma_H} {b : Nat → Nat} {n k : Nat} {g m p o : Int32} {fr pe : Nat → Int32} {Q : ma_Q} (X : MX hm b n) {a : Nat} (ha : a < 6) (k0 : Q (some (.int (if tq b n k = 257 + a then 1 else 0))) (MT hm b n k g m p o fr pe)) : ma_X 179 [.ref 80, .long (lN (wvs.getD a 0))] (MT hm b n k g m p o fr pe) Q := by
  refine s179 ?_
  have e := q_word (n := n) (i := Ps b n k) X.2.2.2.2 ha
  by_cases z : tq b n k = 257 + a
  · rw [if_pos z] at k0
    rw [if_pos (e.mpr z)]
    exact k0
  · rw [if_neg z] at k0
    rw [if_neg (fun w => z (e.mp w))]
    exact k0
theorem t180 {hm : ma_H} {b : Nat → Nat} {n k : Nat} {g m p o : Int32} {fr pe : Nat → Int32} {Q : ma_Q} (X : MX hm b n) {c : Nat} (hc : c < 256) (k0 : Q (some (.int (if tq b n k = c then 1 else 0))) (MT hm b n k g m p o fr pe)) : ma_X 180 [.ref 80, .int (nI c)] (MT hm b n k g m p o fr pe) Q := by
  refine s180 ?_
  have e := q_mark (n := n) (i := Ps b n k) X.2.2.2.2 hc
  by_cases z : tq b n k = c
  · rw [if_pos z] at k0
    rw [if_pos (e.mpr z)]
    exact k0
  · rw [if_neg z] at k0
    rw [if_neg (fun w => z (e.mp w))]
    exact k0
theorem t179n {hm : ma_H} {b : Nat → Nat} {n k : Nat} {g m p o : Int32} {fr pe : Nat → Int32} {Q : ma_Q} (X : MX hm b n) {a : Nat} (ha : a < 6) (k0 : Q (some (.int (if tq b n k = 4000 + a then 1 else 0))) (MT hm b n k g m p o fr pe)) : ma_X 179 [.ref 80, .long (lN (wvs.getD (6 + a) 0))] (MT hm b n k g m p o fr pe) Q := by
  refine s179 ?_
  have e := q_name (n := n) (i := Ps b n k) X.2.2.2.2 ha
  by_cases z : tq b n k = 4000 + a
  · rw [if_pos z] at k0
    rw [if_pos (e.mpr z)]
    exact k0
  · rw [if_neg z] at k0
    rw [if_neg (fun w => z (e.mp w))]
    exact k0
theorem mt80 {hm : ma_H} {b : Nat → Nat} {n k : Nat} {g m p o : Int32} {fr pe : Nat → Int32} : (MT hm b n k g m p o fr pe).2.1 80 = .inr (12, [.ref 81, .ref 82, .ref 83, .ref 84, .ref 85, .ref 86, .ref 87, .ref 88, .ref 89, .int (fi hm 80 9), .ref 90, .int (fi hm 80 11), .int (fi hm 80 12), .ref 91, .int (fi hm 80 14), .ref 92, .ref 93, .ref 94, .int (fi hm 80 18), .int (mS b n (Ps b n k)), .int (nI (Ps b n k)), .int (nI (te b n (Ps b n k))), .long (mW b n (Ps b n k)), .int (mV b n (Ps b n k)), .int g, .ref 95, .ref 96, .ref 97, .int m, .int p, .int o, .ref 98, .ref 99, .ref 100, .ref 101, .long (fj hm 80 35), .long (fj hm 80 36), .ref 102, .ref 103, .ref 104, .ref 105, .int (fi hm 80 41), .int (fi hm 80 42), .ref 106, .ref 107, .ref 108, .ref 109, .ref 110, .ref 111, .int (fi hm 80 49), .int (fi hm 80 50), .int (fi hm 80 51), .ref 112, .int (fi hm 80 53), .int (fi hm 80 54), .int (fi hm 80 55), .ref 113, .int (fi hm 80 57), .ref 114]) := ms80
theorem t181 {hm : ma_H} {b : Nat → Nat} {n k : Nat} {g m p o : Int32} {fr pe : Nat → Int32} {Q : ma_Q} (X : MX hm b n) (k0 : Q (some (.int (if 4000 ≤ tq b n k then nI (tq b n k - 4000) else -1))) (MT hm b n k g m p o fr pe)) : ma_X 181 [.ref 80] (MT hm b n k g m p o fr pe) Q := by
  have ql := qt_lt X.2.2.2.2 n (Ps b n k)
  refine ma_enter (m := 181) (Or.inl (by decide)) (by show 1 ≤ mt_n 181; decide +kernel) ?_
  show At 181 Q 0 (mt_c 181) [some (.ref 80)] [] (MT hm b n k g m p o fr pe)
  refine go 60 (by decide) ?_
  simp only [KX, KY, KZ, KW, KV, Nat.reduceAdd, Nat.reduceSub, Nat.reduceLeDiff, true_and, and_true, true_or, or_true, or_self, reduceCtorEq, if_true, if_false, not_false_eq_true, eq_self, c181, mt80]
  refine t179n X (a := 0) (by decide) ?_
  by_cases z0 : tq b n k = 4000
  · rw [if_pos z0]
    refine go 60 (by decide) ?_
    simp only [KX, KY, KZ, KW, KV, Nat.reduceAdd, Nat.reduceSub, Nat.reduceLeDiff, true_and, and_true, true_or, or_true, or_self, reduceCtorEq, if_true, if_false, not_false_eq_true, eq_self, c181, mt80]
    rw [if_pos (by omega), z0] at k0
    exact k0
  · rw [if_neg z0]
    refine go 60 (by decide) ?_
    simp only [KX, KY, KZ, KW, KV, Nat.reduceAdd, Nat.reduceSub, Nat.reduceLeDiff, true_and, and_true, true_or, or_true, or_self, reduceCtorEq, if_true, if_false, not_false_eq_true, eq_self, c181, mt80]
    refine t179n X (a := 1) (by decide) ?_
    by_cases z1 : tq b n k = 4001
    · rw [if_pos z1]
      refine go 60 (by decide) ?_
      simp only [KX, KY, KZ, KW, KV, Nat.reduceAdd, Nat.reduceSub, Nat.reduceLeDiff, true_and, and_true, true_or, or_true, or_self, reduceCtorEq, if_true, if_false, not_false_eq_true, eq_self, c181, mt80]
      rw [if_pos (by omega), z1] at k0
      exact k0
    · rw [if_neg z1]
      refine go 60 (by decide) ?_
      simp only [KX, KY, KZ, KW, KV, Nat.reduceAdd, Nat.reduceSub, Nat.reduceLeDiff, true_and, and_true, true_or, or_true, or_self, reduceCtorEq, if_true, if_false, not_false_eq_true, eq_self, c181, mt80]
      refine t179n X (a := 2) (by decide) ?_
      by_cases z2 : tq b n k = 4002
      · rw [if_pos z2]
        refine go 60 (by decide) ?_
        simp only [KX, KY, KZ, KW, KV, Nat.reduceAdd, Nat.reduceSub, Nat.reduceLeDiff, true_and, and_true, true_or, or_true, or_self, reduceCtorEq, if_true, if_false, not_false_eq_true, eq_self, c181, mt80]
        rw [if_pos (by omega), z2] at k0
        exact k0
      · rw [if_neg z2]
        refine go 60 (by decide) ?_
        simp only [KX, KY, KZ, KW, KV, Nat.reduceAdd, Nat.reduceSub, Nat.reduceLeDiff, true_and, and_true, true_or, or_true, or_self, reduceCtorEq, if_true, if_false, not_false_eq_true, eq_self, c181, mt80]
        refine t179n X (a := 3) (by decide) ?_
        by_cases z3 : tq b n k = 4003
        · rw [if_pos z3]
          refine go 60 (by decide) ?_
          simp only [KX, KY, KZ, KW, KV, Nat.reduceAdd, Nat.reduceSub, Nat.reduceLeDiff, true_and, and_true, true_or, or_true, or_self, reduceCtorEq, if_true, if_false, not_false_eq_true, eq_self, c181, mt80]
          rw [if_pos (by omega), z3] at k0
          exact k0
        · rw [if_neg z3]
          refine go 60 (by decide) ?_
          simp only [KX, KY, KZ, KW, KV, Nat.reduceAdd, Nat.reduceSub, Nat.reduceLeDiff, true_and, and_true, true_or, or_true, or_self, reduceCtorEq, if_true, if_false, not_false_eq_true, eq_self, c181, mt80]
          refine t179n X (a := 4) (by decide) ?_
          by_cases z4 : tq b n k = 4004
          · rw [if_pos z4]
            refine go 60 (by decide) ?_
            simp only [KX, KY, KZ, KW, KV, Nat.reduceAdd, Nat.reduceSub, Nat.reduceLeDiff, true_and, and_true, true_or, or_true, or_self, reduceCtorEq, if_true, if_false, not_false_eq_true, eq_self, c181, mt80]
            rw [if_pos (by omega), z4] at k0
            exact k0
          · rw [if_neg z4]
            refine go 60 (by decide) ?_
            simp only [KX, KY, KZ, KW, KV, Nat.reduceAdd, Nat.reduceSub, Nat.reduceLeDiff, true_and, and_true, true_or, or_true, or_self, reduceCtorEq, if_true, if_false, not_false_eq_true, eq_self, c181, mt80]
            refine t179n X (a := 5) (by decide) ?_
            by_cases z5 : tq b n k = 4005
            · rw [if_pos z5]
              refine go 60 (by decide) ?_
              simp only [KX, KY, KZ, KW, KV, Nat.reduceAdd, Nat.reduceSub, Nat.reduceLeDiff, true_and, and_true, true_or, or_true, or_self, reduceCtorEq, if_true, if_false, not_false_eq_true, eq_self, c181, mt80]
              rw [if_pos (by omega), z5] at k0
              exact k0
            · rw [if_neg z5]
              refine go 60 (by decide) ?_
              simp only [KX, KY, KZ, KW, KV, Nat.reduceAdd, Nat.reduceSub, Nat.reduceLeDiff, true_and, and_true, true_or, or_true, or_self, reduceCtorEq, if_true, if_false, not_false_eq_true, eq_self, c181, mt80]
              rw [if_neg (by show ¬ 4000 ≤ qt b n (Ps b n k); unfold tq at *; omega)] at k0
              exact k0
