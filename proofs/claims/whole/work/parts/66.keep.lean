/-! THE MODEL: keep -/
/-- what is kept, in its order -/
def kdat (h : ma_H) (j : Nat) : Int32 := if j < 4 then (match j with
    | 0 => fi h 80 9
    | 1 => fi h 80 11
    | 2 => fi h 80 12
    | _ => fi h 80 14) else if j < 368 then ai h 88 (j - 4) else if j < 372 then ai h 89 (j - 368) else if j < 384 then ai h 90 (j - 372) else if j < 432 then ai h 91 (j - 384) else if j < 456 then ai h 92 (j - 432) else ai h 93 (j - 456)
def MK (h : ma_H) (m : Nat) (h1 : ma_H) : Prop := Sh h1 ∧ h1.1 = h.1 ∧ (∀ a, a ≠ 80 → a ≠ 113 → a ≠ 114 → h1.2.1 a = h.2.1 a) ∧ h1.2.1 80 = .inr (12, [.ref 81, .ref 82, .ref 83, .ref 84, .ref 85, .ref 86, .ref 87, .ref 88, .ref 89, .int (fi h 80 9), .ref 90, .int (fi h 80 11), .int (fi h 80 12), .ref 91, .int (fi h 80 14), .ref 92, .ref 93, .ref 94, .int (fi h 80 18), .int (fi h 80 19), .int (fi h 80 20), .int (fi h 80 21), .long (fj h 80 22), .int (fi h 80 23), .int (fi h 80 24), .ref 95, .ref 96, .ref 97, .int (fi h 80 28), .int (fi h 80 29), .int (fi h 80 30), .ref 98, .ref 99, .ref 100, .ref 101, .long (fj h 80 35), .long (fj h 80 36), .ref 102, .ref 103, .ref 104, .ref 105, .int (fi h 80 41), .int (fi h 80 42), .ref 106, .ref 107, .ref 108, .ref 109, .ref 110, .ref 111, .int (fi h 80 49), .int (fi h 80 50), .int (fi h 80 51), .ref 112, .int (fi h 80 53), .int (fi h 80 54), .int (fi h 80 55), .ref 113, .int (nI m), .ref 114]) ∧ (∀ j, j < m → ai h1 113 j = kdat h j) ∧ ∀ j, j < 4 → ai h1 114 j = kdat h j
theorem MK.fi57 {h h1 : ma_H} {m : Nat} (P : MK h m h1) : fi h1 80 57 = nI m := by
  show fiC (h1.2.1 80) 57 = _
  rw [P.2.2.2.1]
  rfl
theorem MK.step {h h1 : ma_H} {m n : Nat} (P : MK h m h1) {g : Nat → Int32} (hm : m + n ≤ 700) (hd : ∀ k, k < n → kdat h (m + k) = g k) : MK h (m + n) (ma_set (ma_set h1 113 (.inl (.int, 700, .inl (upN (ai h1 113) (fun k => m + k) g n)))) 80 (.inr (12, [.ref 81, .ref 82, .ref 83, .ref 84, .ref 85, .ref 86, .ref 87, .ref 88, .ref 89, .int (fi h1 80 9), .ref 90, .int (fi h1 80 11), .int (fi h1 80 12), .ref 91, .int (fi h1 80 14), .ref 92, .ref 93, .ref 94, .int (fi h1 80 18), .int (fi h1 80 19), .int (fi h1 80 20), .int (fi h1 80 21), .long (fj h1 80 22), .int (fi h1 80 23), .int (fi h1 80 24), .ref 95, .ref 96, .ref 97, .int (fi h1 80 28), .int (fi h1 80 29), .int (fi h1 80 30), .ref 98, .ref 99, .ref 100, .ref 101, .long (fj h1 80 35), .long (fj h1 80 36), .ref 102, .ref 103, .ref 104, .ref 105, .int (fi h1 80 41), .int (fi h1 80 42), .ref 106, .ref 107, .ref 108, .ref 109, .ref 110, .ref 111, .int (fi h1 80 49), .int (fi h1 80 50), .int (fi h1 80 51), .ref 112, .int (fi h1 80 53), .int (fi h1 80 54), .int (fi h1 80 55), .ref 113, .int (nI (m + n)), .ref 114]))) := by
  obtain ⟨P1, P2, P3, P4, P5, P6⟩ := P
  have e : (.inr (12, [.ref 81, .ref 82, .ref 83, .ref 84, .ref 85, .ref 86, .ref 87, .ref 88, .ref 89, .int (fi h1 80 9), .ref 90, .int (fi h1 80 11), .int (fi h1 80 12), .ref 91, .int (fi h1 80 14), .ref 92, .ref 93, .ref 94, .int (fi h1 80 18), .int (fi h1 80 19), .int (fi h1 80 20), .int (fi h1 80 21), .long (fj h1 80 22), .int (fi h1 80 23), .int (fi h1 80 24), .ref 95, .ref 96, .ref 97, .int (fi h1 80 28), .int (fi h1 80 29), .int (fi h1 80 30), .ref 98, .ref 99, .ref 100, .ref 101, .long (fj h1 80 35), .long (fj h1 80 36), .ref 102, .ref 103, .ref 104, .ref 105, .int (fi h1 80 41), .int (fi h1 80 42), .ref 106, .ref 107, .ref 108, .ref 109, .ref 110, .ref 111, .int (fi h1 80 49), .int (fi h1 80 50), .int (fi h1 80 51), .ref 112, .int (fi h1 80 53), .int (fi h1 80 54), .int (fi h1 80 55), .ref 113, .int (nI (m + n)), .ref 114]) : ma_C) = .inr (12, [.ref 81, .ref 82, .ref 83, .ref 84, .ref 85, .ref 86, .ref 87, .ref 88, .ref 89, .int (fi h 80 9), .ref 90, .int (fi h 80 11), .int (fi h 80 12), .ref 91, .int (fi h 80 14), .ref 92, .ref 93, .ref 94, .int (fi h 80 18), .int (fi h 80 19), .int (fi h 80 20), .int (fi h 80 21), .long (fj h 80 22), .int (fi h 80 23), .int (fi h 80 24), .ref 95, .ref 96, .ref 97, .int (fi h 80 28), .int (fi h 80 29), .int (fi h 80 30), .ref 98, .ref 99, .ref 100, .ref 101, .long (fj h 80 35), .long (fj h 80 36), .ref 102, .ref 103, .ref 104, .ref 105, .int (fi h 80 41), .int (fi h 80 42), .ref 106, .ref 107, .ref 108, .ref 109, .ref 110, .ref 111, .int (fi h 80 49), .int (fi h 80 50), .int (fi h 80 51), .ref 112, .int (fi h 80 53), .int (fi h 80 54), .int (fi h 80 55), .ref 113, .int (nI (m + n)), .ref 114]) := by
    simp only [fi, fj, P4]
    rfl
  refine ⟨sh_set (sh_set P1 rfl) rfl, P2, fun a a1 a2 a3 => ?_, ?_, fun j hj => ?_, fun j hj => ?_⟩
  · rw [ma_set_ne _ _ a1, ma_set_ne _ _ a2]
    exact P3 a a1 a2 a3
  · rw [ma_set_at]
    exact e
  · rw [ai_ne _ _ (by decide), ai_at]
    by_cases c : j < m
    · rw [upN_ne n (fun i hi => by omega)]
      exact P5 j c
    · obtain ⟨k, rfl⟩ : ∃ k, j = m + k := ⟨j - m, by omega⟩
      rw [upN_at (p := fun k => m + k) n (fun a b _ _ e => by omega) k (by omega), hd k (by omega)]
  · rw [ai_ne _ _ (by decide), ai_ne _ _ (by decide)]
    exact P6 j hj
theorem MK.row {h h1 : ma_H} {m n r N : Nat} (P : MK h m h1) (r80 : r ≠ 80) (r113 : r ≠ 113) (r114 : r ≠ 114) (e : h1.2.1 r = .inl (.int, N, .inl (ai h1 r))) (hN : N < 1000) (hn : n ≤ N) (hm : m + n ≤ 700) (hd : ∀ k, k < n → kdat h (m + k) = ai h r k) {Q : ma_Q} (k : ∀ h2, MK h (m + n) h2 → Q none h2) : ma_X 272 [.ref 80, .ref r, .int (nI n), .int 1] h1 Q := by
  refine s272k P.1 e hN hn hm r80 r113 P.fi57 ?_
  refine k _ (P.step hm fun k hk => ?_)
  rw [hd k hk]
  show aiC _ k = aiC _ k
  rw [P.2.2.1 r r80 r113 r114]
theorem s273k {h : ma_H} {Q : ma_Q} (H : Sh h) (k : ∀ h1, MK h 656 h1 → Q none h1) : ma_X 273 [.ref 80, .int 1] h Q := by
  refine ma_enter (m := 273) (Or.inl (by decide)) (by show 2 ≤ mt_n 273; decide +kernel) ?_
  show At 273 Q 0 (0, 0) [some (.ref 80), some (.int 1)] [] h
  refine go 60 (by decide) ?_
  simp only [KX, KY, KZ, KW, KV, Nat.reduceAdd, Nat.reduceSub, Nat.reduceLeDiff, true_and, and_true, true_or, or_true, or_self, reduceCtorEq, if_true, if_false, not_false_eq_true, eq_self, c273, H.e80, H.e114, List.set_cons_succ, List.set_cons_zero, ma_set_at, ma_set_set, show Int32.toNatClampNeg 0 = 0 from rfl, show Int32.toNatClampNeg 1 = 1 from rfl, show Int32.toNatClampNeg 2 = 2 from rfl, show Int32.toNatClampNeg 3 = 3 from rfl, ma_get, Nat.reduceEqDiff, ↓reduceIte, Int32.reduceLT, Int32.reduceLE]
  refine ⟨by simp only [List.length_cons, List.length_nil]; omega, trivial, nI_in (c := 0) (by decide) (by decide), nI_in (c := 1) (by decide) (by decide), nI_in (c := 2) (by decide) (by decide), nI_in (c := 3) (by decide) (by decide), ?_⟩
  have P0 : MK h 0 (ma_set (ma_set h 80 (.inr (12, [.ref 81, .ref 82, .ref 83, .ref 84, .ref 85, .ref 86, .ref 87, .ref 88, .ref 89, .int (fi h 80 9), .ref 90, .int (fi h 80 11), .int (fi h 80 12), .ref 91, .int (fi h 80 14), .ref 92, .ref 93, .ref 94, .int (fi h 80 18), .int (fi h 80 19), .int (fi h 80 20), .int (fi h 80 21), .long (fj h 80 22), .int (fi h 80 23), .int (fi h 80 24), .ref 95, .ref 96, .ref 97, .int (fi h 80 28), .int (fi h 80 29), .int (fi h 80 30), .ref 98, .ref 99, .ref 100, .ref 101, .long (fj h 80 35), .long (fj h 80 36), .ref 102, .ref 103, .ref 104, .ref 105, .int (fi h 80 41), .int (fi h 80 42), .ref 106, .ref 107, .ref 108, .ref 109, .ref 110, .ref 111, .int (fi h 80 49), .int (fi h 80 50), .int (fi h 80 51), .ref 112, .int (fi h 80 53), .int (fi h 80 54), .int (fi h 80 55), .ref 113, .int 0, .ref 114]))) 114 (.inl (.int, 4, .inl (upd (upd (upd (upd (ai h 114) 0 (fi h 80 9)) 1 (fi h 80 11)) 2 (fi h 80 12)) 3 (fi h 80 14))))) := ⟨sh_set (sh_set H rfl) rfl, rfl, fun a a1 a2 a3 => by rw [ma_set_ne _ _ a3, ma_set_ne _ _ a1], (ma_set_ne _ _ (by decide)).trans (ma_set_at _ _ _), fun j hj => absurd hj (Nat.not_lt_zero j), fun j hj => by
    rw [ai_at]
    match j, hj with
    | 0, _ => rfl
    | 1, _ => rfl
    | 2, _ => rfl
    | 3, _ => rfl⟩
  refine s272k (m := 0) (n := 4) P0.1 P0.1.e114 (by decide) (by decide) (by decide) (by decide) (by decide) P0.fi57 ?_
  have P1 := P0.step (n := 4) (g := ai (ma_set (ma_set h 80 (.inr (12, [.ref 81, .ref 82, .ref 83, .ref 84, .ref 85, .ref 86, .ref 87, .ref 88, .ref 89, .int (fi h 80 9), .ref 90, .int (fi h 80 11), .int (fi h 80 12), .ref 91, .int (fi h 80 14), .ref 92, .ref 93, .ref 94, .int (fi h 80 18), .int (fi h 80 19), .int (fi h 80 20), .int (fi h 80 21), .long (fj h 80 22), .int (fi h 80 23), .int (fi h 80 24), .ref 95, .ref 96, .ref 97, .int (fi h 80 28), .int (fi h 80 29), .int (fi h 80 30), .ref 98, .ref 99, .ref 100, .ref 101, .long (fj h 80 35), .long (fj h 80 36), .ref 102, .ref 103, .ref 104, .ref 105, .int (fi h 80 41), .int (fi h 80 42), .ref 106, .ref 107, .ref 108, .ref 109, .ref 110, .ref 111, .int (fi h 80 49), .int (fi h 80 50), .int (fi h 80 51), .ref 112, .int (fi h 80 53), .int (fi h 80 54), .int (fi h 80 55), .ref 113, .int 0, .ref 114]))) 114 (.inl (.int, 4, .inl (upd (upd (upd (upd (ai h 114) 0 (fi h 80 9)) 1 (fi h 80 11)) 2 (fi h 80 12)) 3 (fi h 80 14))))) 114) (by decide) (fun k hk => by rw [Nat.zero_add]; exact (P0.2.2.2.2.2 k hk).symm)
  generalize hh1 : ma_set (ma_set (ma_set (ma_set h 80 (.inr (12, [.ref 81, .ref 82, .ref 83, .ref 84, .ref 85, .ref 86, .ref 87, .ref 88, .ref 89, .int (fi h 80 9), .ref 90, .int (fi h 80 11), .int (fi h 80 12), .ref 91, .int (fi h 80 14), .ref 92, .ref 93, .ref 94, .int (fi h 80 18), .int (fi h 80 19), .int (fi h 80 20), .int (fi h 80 21), .long (fj h 80 22), .int (fi h 80 23), .int (fi h 80 24), .ref 95, .ref 96, .ref 97, .int (fi h 80 28), .int (fi h 80 29), .int (fi h 80 30), .ref 98, .ref 99, .ref 100, .ref 101, .long (fj h 80 35), .long (fj h 80 36), .ref 102, .ref 103, .ref 104, .ref 105, .int (fi h 80 41), .int (fi h 80 42), .ref 106, .ref 107, .ref 108, .ref 109, .ref 110, .ref 111, .int (fi h 80 49), .int (fi h 80 50), .int (fi h 80 51), .ref 112, .int (fi h 80 53), .int (fi h 80 54), .int (fi h 80 55), .ref 113, .int 0, .ref 114]))) 114 (.inl (.int, 4, .inl (upd (upd (upd (upd (ai h 114) 0 (fi h 80 9)) 1 (fi h 80 11)) 2 (fi h 80 12)) 3 (fi h 80 14))))) 113 _) 80 _ = h1 at P1
  rw [Nat.zero_add] at P1
  clear hh1 P0
  refine go 60 (by decide) ?_
  simp only [KX, KY, KZ, KW, KV, Nat.reduceAdd, Nat.reduceSub, Nat.reduceLeDiff, true_and, and_true, true_or, or_true, or_self, reduceCtorEq, if_true, if_false, not_false_eq_true, eq_self, c273, P1.2.2.2.1]
  refine MK.row (m := 4) (n := 364) (r := 88) (N := 910) P1 (by decide) (by decide) (by decide) P1.1.e88 (by decide) (by decide) (by decide) (fun k hk => by unfold kdat; rw [if_neg (show ¬ 4 + k < 4 by omega), if_pos (show 4 + k < 368 by omega), Nat.add_sub_cancel_left]) (fun h2 P2 => ?_)
  refine go 60 (by decide) ?_
  simp only [KX, KY, KZ, KW, KV, Nat.reduceAdd, Nat.reduceSub, Nat.reduceLeDiff, true_and, and_true, true_or, or_true, or_self, reduceCtorEq, if_true, if_false, not_false_eq_true, eq_self, c273, P2.2.2.2.1]
  refine MK.row (m := 368) (n := 4) (r := 89) (N := 4) P2 (by decide) (by decide) (by decide) P2.1.e89 (by decide) (by decide) (by decide) (fun k hk => by unfold kdat; rw [if_neg (show ¬ 368 + k < 4 by omega), if_neg (show ¬ 368 + k < 368 by omega), if_pos (show 368 + k < 372 by omega), Nat.add_sub_cancel_left]) (fun h3 P3 => ?_)
  refine go 60 (by decide) ?_
  simp only [KX, KY, KZ, KW, KV, Nat.reduceAdd, Nat.reduceSub, Nat.reduceLeDiff, true_and, and_true, true_or, or_true, or_self, reduceCtorEq, if_true, if_false, not_false_eq_true, eq_self, c273, P3.2.2.2.1]
  refine MK.row (m := 372) (n := 12) (r := 90) (N := 12) P3 (by decide) (by decide) (by decide) P3.1.e90 (by decide) (by decide) (by decide) (fun k hk => by unfold kdat; rw [if_neg (show ¬ 372 + k < 4 by omega), if_neg (show ¬ 372 + k < 368 by omega), if_neg (show ¬ 372 + k < 372 by omega), if_pos (show 372 + k < 384 by omega), Nat.add_sub_cancel_left]) (fun h4 P4 => ?_)
  refine go 60 (by decide) ?_
  simp only [KX, KY, KZ, KW, KV, Nat.reduceAdd, Nat.reduceSub, Nat.reduceLeDiff, true_and, and_true, true_or, or_true, or_self, reduceCtorEq, if_true, if_false, not_false_eq_true, eq_self, c273, P4.2.2.2.1]
  refine MK.row (m := 384) (n := 48) (r := 91) (N := 48) P4 (by decide) (by decide) (by decide) P4.1.e91 (by decide) (by decide) (by decide) (fun k hk => by unfold kdat; rw [if_neg (show ¬ 384 + k < 4 by omega), if_neg (show ¬ 384 + k < 368 by omega), if_neg (show ¬ 384 + k < 372 by omega), if_neg (show ¬ 384 + k < 384 by omega), if_pos (show 384 + k < 432 by omega), Nat.add_sub_cancel_left]) (fun h5 P5 => ?_)
  refine go 60 (by decide) ?_
  simp only [KX, KY, KZ, KW, KV, Nat.reduceAdd, Nat.reduceSub, Nat.reduceLeDiff, true_and, and_true, true_or, or_true, or_self, reduceCtorEq, if_true, if_false, not_false_eq_true, eq_self, c273, P5.2.2.2.1]
  refine MK.row (m := 432) (n := 24) (r := 92) (N := 24) P5 (by decide) (by decide) (by decide) P5.1.e92 (by decide) (by decide) (by decide) (fun k hk => by unfold kdat; rw [if_neg (show ¬ 432 + k < 4 by omega), if_neg (show ¬ 432 + k < 368 by omega), if_neg (show ¬ 432 + k < 372 by omega), if_neg (show ¬ 432 + k < 384 by omega), if_neg (show ¬ 432 + k < 432 by omega), if_pos (show 432 + k < 456 by omega), Nat.add_sub_cancel_left]) (fun h6 P6 => ?_)
  refine go 60 (by decide) ?_
  simp only [KX, KY, KZ, KW, KV, Nat.reduceAdd, Nat.reduceSub, Nat.reduceLeDiff, true_and, and_true, true_or, or_true, or_self, reduceCtorEq, if_true, if_false, not_false_eq_true, eq_self, c273, P6.2.2.2.1]
  refine MK.row (m := 456) (n := 200) (r := 93) (N := 200) P6 (by decide) (by decide) (by decide) P6.1.e93 (by decide) (by decide) (by decide) (fun k hk => by unfold kdat; rw [if_neg (show ¬ 456 + k < 4 by omega), if_neg (show ¬ 456 + k < 368 by omega), if_neg (show ¬ 456 + k < 372 by omega), if_neg (show ¬ 456 + k < 384 by omega), if_neg (show ¬ 456 + k < 432 by omega), if_neg (show ¬ 456 + k < 456 by omega), Nat.add_sub_cancel_left]) (fun h7 P7 => ?_)
  refine go 60 (by decide) ?_
  simp only [KX, KY, KZ, KW, KV, Nat.reduceAdd, Nat.reduceSub, Nat.reduceLeDiff, true_and, and_true, true_or, or_true, or_self, reduceCtorEq, if_true, if_false, not_false_eq_true, eq_self, c273]
  exact k _ P7
theorem s274 {h : ma_H} {Q : ma_Q} (H : Sh h) (k : ∀ h1, (Sh h1 ∧ h1.1 = h.1 ∧ (∀ a, a ≠ 80 → a ≠ 113 → a ≠ 114 → h1.2.1 a = h.2.1 a) ∧ h1.2.1 80 = .inr (12, [.ref 81, .ref 82, .ref 83, .ref 84, .ref 85, .ref 86, .ref 87, .ref 88, .ref 89, .int (fi h 80 9), .ref 90, .int (fi h 80 11), .int (fi h 80 12), .ref 91, .int (fi h 80 14), .ref 92, .ref 93, .ref 94, .int (fi h 80 18), .int (fi h 80 19), .int (fi h 80 20), .int (fi h 80 21), .long (fj h 80 22), .int (fi h 80 23), .int (fi h 80 24), .ref 95, .ref 96, .ref 97, .int (fi h 80 28), .int (fi h 80 29), .int (fi h 80 30), .ref 98, .ref 99, .ref 100, .ref 101, .long (fj h 80 35), .long (fj h 80 36), .ref 102, .ref 103, .ref 104, .ref 105, .int (fi h 80 41), .int (fi h 80 42), .ref 106, .ref 107, .ref 108, .ref 109, .ref 110, .ref 111, .int (fi h 80 49), .int (fi h 80 50), .int (fi h 80 51), .ref 112, .int (fi h 80 53), .int (fi h 80 54), .int 1, .ref 113, .int (nI 656), .ref 114]) ∧ ∀ j, j < 656 → ai h1 113 j = kdat h j) → Q (some (.int 1)) h1) : ma_X 274 [.ref 80] h Q := by
  refine ma_enter (m := 274) (Or.inl (by decide)) (by show 1 ≤ mt_n 274; decide +kernel) ?_
  show At 274 Q 0 (mt_c 274) [some (.ref 80)] [] h
  refine go 60 (by decide) ?_
  simp only [KX, KY, KZ, KW, KV, Nat.reduceAdd, Nat.reduceSub, Nat.reduceLeDiff, true_and, and_true, true_or, or_true, or_self, reduceCtorEq, if_true, if_false, not_false_eq_true, eq_self, c274, H.e80]
  refine s273k H (fun h1 P => ?_)
  obtain ⟨P1, P2, P3, P4, P5, P6⟩ := P
  refine go 60 (by decide) ?_
  simp only [KX, KY, KZ, KW, KV, Nat.reduceAdd, Nat.reduceSub, Nat.reduceLeDiff, true_and, and_true, true_or, or_true, or_self, reduceCtorEq, if_true, if_false, not_false_eq_true, eq_self, c274, P4, List.set_cons_succ, List.set_cons_zero]
  refine ⟨by simp only [List.length_cons, List.length_nil]; omega, Or.inr rfl, ?_⟩
  exact k _ ⟨sh_set P1 rfl, P2, fun a a1 a2 a3 => (ma_set_ne _ _ a1).trans (P3 a a1 a2 a3), ma_set_at _ _ _, fun j hj => by rw [ai_ne _ _ (by decide)]; exact P5 j hj⟩
