/-! law: the Model reads a COND -/
/-- signs written; what is pending doesn't matter -/
def MZ (hm : ma_H) (b : Nat → Nat) (n k : Nat) (g : Int32) (F : List Int32) (hh : ma_H) : Prop := ∃ fr pe p o, hh = MT hm b n k g (nI F.length) p o fr pe ∧ seg fr 0 F ∧ F.length ≤ 200
theorem MY.z {hm : ma_H} {b : Nat → Nat} {n k : Nat} {g o : Int32} {F S : List Int32} {hh : ma_H} (Y : MY hm b n k g o F S hh) : MZ hm b n k g F hh := by
  obtain ⟨fr, pe, e, s1, s2, f2, p2⟩ := Y
  exact ⟨fr, pe, _, o, e, s1, f2⟩
theorem MZ.at {hm : ma_H} {b : Nat → Nat} {n k : Nat} {g : Int32} {F : List Int32} {hh : ma_H} (Y : MZ hm b n k g F hh) : ∃ fr pe p o, hh = MT hm b n k g (nI F.length) p o fr pe ∧ ∀ g2 p2 o2, MZ hm b n k g2 F (MT hm b n k g2 (nI F.length) p2 o2 fr pe) := by
  obtain ⟨fr, pe, p, o, e, s1, f2⟩ := Y
  exact ⟨fr, pe, p, o, e, fun g2 p2 o2 => ⟨fr, pe, p2, o2, rfl, s1, f2⟩⟩
theorem z178 {hm : ma_H} {b : Nat → Nat} {n k : Nat} {g : Int32} {F : List Int32} {h : ma_H} {Q : ma_Q} (Y : MZ hm b n k g F h) (X : MX hm b n) (k0 : ∀ h2, MZ hm b n (k + 1) g F h2 → Q none h2) : ma_X 178 [.ref 80] h Q := by
  obtain ⟨fr, pe, p, o, rfl, s1, f2⟩ := Y
  exact t178 X (k0 _ ⟨fr, pe, p, o, rfl, s1, f2⟩)
theorem z179 {hm : ma_H} {b : Nat → Nat} {n k : Nat} {g : Int32} {F : List Int32} {h : ma_H} {Q : ma_Q} (Y : MZ hm b n k g F h) (X : MX hm b n) {a : Nat} (ha : a < 6) (k0 : Q (some (.int (if tq b n k = 257 + a then 1 else 0))) h) : ma_X 179 [.ref 80, .long (lN (wvs.getD a 0))] h Q := by
  obtain ⟨fr, pe, p, o, rfl, s1, f2⟩ := Y
  exact t179 X ha k0
theorem z180 {hm : ma_H} {b : Nat → Nat} {n k : Nat} {g : Int32} {F : List Int32} {h : ma_H} {Q : ma_Q} (Y : MZ hm b n k g F h) (X : MX hm b n) {c : Nat} (hc : c < 256) (k0 : Q (some (.int (if tq b n k = c then 1 else 0))) h) : ma_X 180 [.ref 80, .int (nI c)] h Q := by
  obtain ⟨fr, pe, p, o, rfl, s1, f2⟩ := Y
  exact t180 X hc k0
theorem nC3 {b : Nat → Nat} {n K : Nat} (N : TN b n K) : ∀ j, j ≤ K → (pC3 (tq b n) j).1 = true → tq b n (pC3 (tq b n) j).2.1 ≠ 261 ∧ tq b n (pC3 (tq b n) j).2.1 ≠ 260 := fun j hj ok => pCond_ne (cnd := none) N.end_ N.1 (fun c z => by cases z) hj ok
theorem mC3 {hm : ma_H} {b : Nat → Nat} {n K : Nat} (X : MX hm b n) (N : TN b n K) : MCND hm b n K 3 (pC3 (tq b n)) := mCnd X N (pAll_ok N.end_ (cnd := none) (fun c z => by cases z)) (mI := mAll X N (pOne_ok N.end_ (fun c z => by cases z)) (mOne3 X N)) (nI_ := fun j hj ok => pAll_ne N.end_ N.1 (fun c z => by cases z) hj ok)
theorem nC2 {b : Nat → Nat} {n K : Nat} (N : TN b n K) : ∀ j, j ≤ K → (pC2 (tq b n) j).1 = true → tq b n (pC2 (tq b n) j).2.1 ≠ 261 ∧ tq b n (pC2 (tq b n) j).2.1 ≠ 260 := fun j hj ok => pCond_ne (cnd := (some (pC3 (tq b n)))) N.end_ N.1 (fun c z => by cases z; exact gC3 N.end_) hj ok
theorem mC2 {hm : ma_H} {b : Nat → Nat} {n K : Nat} (X : MX hm b n) (N : TN b n K) : MCND hm b n K 2 (pC2 (tq b n)) := mCnd X N (pAll_ok N.end_ (cnd := (some (pC3 (tq b n)))) (fun c z => by cases z; exact gC3 N.end_)) (mI := mAll X N (pOne_ok N.end_ (fun c z => by cases z; exact gC3 N.end_)) (mOne2 X N (gC3 N.end_) (nC3 N) (mC3 X N))) (nI_ := fun j hj ok => pAll_ne N.end_ N.1 (fun c z => by cases z; exact gC3 N.end_) hj ok)
theorem nC1 {b : Nat → Nat} {n K : Nat} (N : TN b n K) : ∀ j, j ≤ K → (pC1 (tq b n) j).1 = true → tq b n (pC1 (tq b n) j).2.1 ≠ 261 ∧ tq b n (pC1 (tq b n) j).2.1 ≠ 260 := fun j hj ok => pCond_ne (cnd := (some (pC2 (tq b n)))) N.end_ N.1 (fun c z => by cases z; exact gC2 N.end_) hj ok
theorem mC1 {hm : ma_H} {b : Nat → Nat} {n K : Nat} (X : MX hm b n) (N : TN b n K) : MCND hm b n K 1 (pC1 (tq b n)) := mCnd X N (pAll_ok N.end_ (cnd := (some (pC2 (tq b n)))) (fun c z => by cases z; exact gC2 N.end_)) (mI := mAll X N (pOne_ok N.end_ (fun c z => by cases z; exact gC2 N.end_)) (mOne1 X N (gC2 N.end_) (nC2 N) (mC2 X N))) (nI_ := fun j hj ok => pAll_ne N.end_ N.1 (fun c z => by cases z; exact gC2 N.end_) hj ok)
theorem nC0 {b : Nat → Nat} {n K : Nat} (N : TN b n K) : ∀ j, j ≤ K → (pC0 (tq b n) j).1 = true → tq b n (pC0 (tq b n) j).2.1 ≠ 261 ∧ tq b n (pC0 (tq b n) j).2.1 ≠ 260 := fun j hj ok => pCond_ne (cnd := (some (pC1 (tq b n)))) N.end_ N.1 (fun c z => by cases z; exact gC1 N.end_) hj ok
theorem mC0 {hm : ma_H} {b : Nat → Nat} {n K : Nat} (X : MX hm b n) (N : TN b n K) : MCND hm b n K 0 (pC0 (tq b n)) := mCnd X N (pAll_ok N.end_ (cnd := (some (pC1 (tq b n)))) (fun c z => by cases z; exact gC1 N.end_)) (mI := mAll X N (pOne_ok N.end_ (fun c z => by cases z; exact gC1 N.end_)) (mOne0 X N (gC1 N.end_) (nC1 N) (mC1 X N))) (nI_ := fun j hj ok => pAll_ne N.end_ N.1 (fun c z => by cases z; exact gC1 N.end_) hj ok)
theorem y188 {hm : ma_H} {b : Nat → Nat} {n K : Nat} (X : MX hm b n) (N : TN b n K) {k : Nat} {F : List Int32} {h : ma_H} {Q : ma_Q} (Y : MZ hm b n k 1 F h) (hk : k ≤ K) (l : F.length + 0 ≤ k) (kT : (pC0 (tq b n) k).1 = true → ∀ h2, MZ hm b n (pC0 (tq b n) k).2.1 1 (F ++ tms (pC0 (tq b n) k).2.2.2) h2 → (F ++ tms (pC0 (tq b n) k).2.2.2).length ≤ (pC0 (tq b n) k).2.1 → Q none h2) (kF : (pC0 (tq b n) k).1 = false → ∀ h2 F2, MZ hm b n (pC0 (tq b n) k).2.1 0 F2 h2 → Q none h2) : ma_X 188 [.ref 80, .long (lN 10631), .long (lN 1111), .long (lN 423)] h Q := by
  obtain ⟨fr, pe, p, o, rfl, s1, f2⟩ := Y
  have K2 := N.1
  refine ma_enter (m := 188) (Or.inl (by decide)) (by show 7 ≤ mt_n 188; decide +kernel) ?_
  show At 188 Q 0 (0, 0) [some (.ref 80), some (.long (lN 10631)), none, some (.long (lN 1111)), none, some (.long (lN 423)), none, none, none, none] [] (MT hm b n k 1 (nI F.length) p o fr pe)
  refine go 60 (by decide) ?_
  simp only [KX, KY, KZ, KW, KV, Nat.reduceAdd, Nat.reduceSub, Nat.reduceLeDiff, true_and, and_true, true_or, or_true, or_self, reduceCtorEq, if_true, if_false, not_false_eq_true, eq_self, c188, mt80, mt96, mt97, mtw, mtf, mtp, List.set_cons_succ, List.set_cons_zero, MFT, List.length_cons, List.length_nil, Nat.reduceLT, Nat.zero_add]
  have Y1 : MY hm b n k 1 0 F [] (MT hm b n k 1 (nI F.length) 0 0 fr pe) := ⟨fr, pe, rfl, s1, fun i v e => by simp at e, f2, Nat.zero_le _⟩
  refine mC0 X N Q _ k F [] Y1 rfl rfl rfl l hk (fun ok h2 F2 S2 Y2 es l2 => ?_) (fun ok h2 o2 F2 S2 Y2 => kF ok h2 F2 Y2.z)
  obtain ⟨n1, n2⟩ := nC0 N k hk ok
  have Yk := Y2
  obtain ⟨fr1, pe1, rfl, W1⟩ := Y2.at
  obtain ⟨g1, g2, g3⟩ := gC0 N.end_ k hk
  unfold WA
  refine go 60 (by decide) ?_
  simp only [KX, KY, KZ, KW, KV, Nat.reduceAdd, Nat.reduceSub, Nat.reduceLeDiff, true_and, and_true, true_or, or_true, or_self, reduceCtorEq, if_true, if_false, not_false_eq_true, eq_self, c188, mt80, mt96, mt97, mtw, mtf, mtp, List.set_cons_succ, List.set_cons_zero, MFT, List.length_cons, List.length_nil, Nat.reduceLT, Nat.zero_add]
  refine y179 Yk X (a := 4) (by decide) ?_
  rw [if_neg n1]
  refine go 60 (by decide) ?_
  simp only [KX, KY, KZ, KW, KV, Nat.reduceAdd, Nat.reduceSub, Nat.reduceLeDiff, true_and, and_true, true_or, or_true, or_self, reduceCtorEq, if_true, if_false, not_false_eq_true, eq_self, c188, mt80, mt96, mt97, mtw, mtf, mtp, List.set_cons_succ, List.set_cons_zero, MFT, List.length_cons, List.length_nil, Nat.reduceLT, Nat.zero_add]
  refine y179 Yk X (a := 3) (by decide) ?_
  rw [if_neg n2]
  refine go 60 (by decide) ?_
  simp only [KX, KY, KZ, KW, KV, Nat.reduceAdd, Nat.reduceSub, Nat.reduceLeDiff, true_and, and_true, true_or, or_true, or_self, reduceCtorEq, if_true, if_false, not_false_eq_true, eq_self, c188, mt80, mt96, mt97, mtw, mtf, mtp, List.set_cons_succ, List.set_cons_zero, MFT, List.length_cons, List.length_nil, Nat.reduceLT, Nat.zero_add]
  refine y185 Yk (by omega) (fun h6 Y6 => ?_)
  have h185 : (F2 ++ List.replicate (popx 40000 S2) 40000).length + (S2.drop (popx 40000 S2)).length = F2.length + S2.length := stl_len (x := 40000) (r := (F2, S2))
  have Y7 := Y6
  obtain ⟨fr6, pe6, rfl, W6⟩ := Y6.at
  refine go 60 (by decide) ?_
  simp only [KX, KY, KZ, KW, KV, Nat.reduceAdd, Nat.reduceSub, Nat.reduceLeDiff, true_and, and_true, true_or, or_true, or_self, reduceCtorEq, if_true, if_false, not_false_eq_true, eq_self, c188, mt80, mt96, mt97, mtw, mtf, mtp, List.set_cons_succ, List.set_cons_zero, MFT, List.length_cons, List.length_nil, Nat.reduceLT, Nat.zero_add]
  refine y185 Y7 (by omega) (fun h3 Y3 => ?_)
  have Y3 : MY hm b n (pC0 (tq b n) k).2.1 1 0 (F ++ tms (pC0 (tq b n) k).2.2.2) [] h3 := by
    have e1 := congrArg (fun r : List Int32 × List Int32 => r.1) es
    have e2 := congrArg (fun r : List Int32 × List Int32 => r.2) es
    unfold stl at e1 e2
    dsimp only at e1 e2
    rw [← e1, ← e2]
    exact Y3
  have Y4 := Y3
  obtain ⟨fr3, pe3, rfl, W3⟩ := Y3.at
  refine go 60 (by decide) ?_
  simp only [KX, KY, KZ, KW, KV, Nat.reduceAdd, Nat.reduceSub, Nat.reduceLeDiff, true_and, and_true, true_or, or_true, or_self, reduceCtorEq, if_true, if_false, not_false_eq_true, eq_self, c188, mt80, mt96, mt97, mtw, mtf, mtp, List.set_cons_succ, List.set_cons_zero, MFT, List.length_cons, List.length_nil, Nat.reduceLT, Nat.zero_add]
  refine y184 Y4 ?_
  rw [show topx 40003 [] = 0 from rfl]
  refine go 60 (by decide) ?_
  simp only [KX, KY, KZ, KW, KV, Nat.reduceAdd, Nat.reduceSub, Nat.reduceLeDiff, true_and, and_true, true_or, or_true, or_self, reduceCtorEq, if_true, if_false, not_false_eq_true, eq_self, c188, mt80, mt96, mt97, mtw, mtf, mtp, List.set_cons_succ, List.set_cons_zero, MFT, List.length_cons, List.length_nil, Nat.reduceLT, Nat.zero_add]
  refine go 60 (by decide) ?_
  simp only [KX, KY, KZ, KW, KV, Nat.reduceAdd, Nat.reduceSub, Nat.reduceLeDiff, true_and, and_true, true_or, or_true, or_self, reduceCtorEq, if_true, if_false, not_false_eq_true, eq_self, c188, mt80, mt96, mt97, mtw, mtf, mtp, List.set_cons_succ, List.set_cons_zero, MFT, List.length_cons, List.length_nil, Nat.reduceLT, Nat.zero_add]
  refine go 60 (by decide) ?_
  simp only [KX, KY, KZ, KW, KV, Nat.reduceAdd, Nat.reduceSub, Nat.reduceLeDiff, true_and, and_true, true_or, or_true, or_self, reduceCtorEq, if_true, if_false, not_false_eq_true, eq_self, c188, mt80, mt96, mt97, mtw, mtf, mtp, List.set_cons_succ, List.set_cons_zero, MFT, List.length_cons, List.length_nil, Nat.reduceLT, Nat.zero_add]
  refine go 60 (by decide) ?_
  simp only [KX, KY, KZ, KW, KV, Nat.reduceAdd, Nat.reduceSub, Nat.reduceLeDiff, true_and, and_true, true_or, or_true, or_self, reduceCtorEq, if_true, if_false, not_false_eq_true, eq_self, c188, mt80, mt96, mt97, mtw, mtf, mtp, List.set_cons_succ, List.set_cons_zero, MFT, List.length_cons, List.length_nil, Nat.reduceLT, Nat.zero_add]
  have l10 : (F ++ tms (pC0 (tq b n) k).2.2.2).length ≤ (pC0 (tq b n) k).2.1 := by
    have a1 := stl_len (x := 40001) (r := stl 40000 (F2, S2))
    have a2 := stl_len (x := 40000) (r := (F2, S2))
    rw [es, a2] at a1
    dsimp only at a1
    try rw [List.length_nil] at a1
    omega
  exact kT ok _ Y4.z l10
