/-! law: the class reads a COND -/
def tq (b : Nat → Nat) (n j : Nat) : Nat := qt b n (Ps b n j)
/-- what a reader of the class does -/
def SPC (hb : ma_H) (b : Nat → Nat) (n K cl : Nat) (m : Nat) (as : List Value) (pX : Nat → PR) : Prop := ∀ (hh : ma_H) (k : Nat) (C : List Int32) (Q : ma_Q), CP hb n cl hh k C.length → seg (ai hh 10) 0 C → k ≤ K → C.length ≤ k → (∀ h2, (pX k).1 = true → CP hb n cl h2 (pX k).2.1 (C.length + (pX k).2.2.1.length) → seg (ai h2 10) 0 (C ++ (pX k).2.2.1.map tc) → Q (some (.int 1)) h2) → (∀ h2 c, (pX k).1 = false → c ≤ 200 → CP hb n cl h2 (pX k).2.1 c → Q (some (.int 0)) h2) → ma_X m (.ref 2 :: as) hh Q
theorem tq_ne {hb : ma_H} {b : Nat → Nat} {n K : Nat} (T : TS hb b n K) (j : Nat) : tq b n j ≠ 263 := qt_ne T.2.2.2.1 n _
theorem tq_lt {hb : ma_H} {b : Nat → Nat} {n K : Nat} (T : TS hb b n K) (j : Nat) : tq b n j < 4006 := qt_lt T.2.2.2.1 n _
theorem tq_K {hb : ma_H} {b : Nat → Nat} {n K : Nat} (T : TS hb b n K) : tq b n K = 256 := T.end_
theorem tq_in {hb : ma_H} {b : Nat → Nat} {n K k : Nat} (T : TS hb b n K) (hk : k ≤ K) (h : tq b n k ≠ 256) : k + 1 ≤ K := T.lt hk h
theorem CP.e2 {hb hh : ma_H} {n cl k c : Nat} (C : CP hb n cl hh k c) : hh.2.1 2 = .inr (5, [.ref 3, .int (nI n), .ref 4, .ref 5, .ref 6, .int (nI k), .ref 7]) := C.2.2.2.1
theorem CP.e7 {hb hh : ma_H} {n cl k c : Nat} (C : CP hb n cl hh k c) : hh.2.1 7 = .inr (4, [.int (nI cl), .ref 8, .ref 9, .ref 10, .int (nI c)]) := C.2.2.2.2
theorem cv_q {q : Nat} (h : 3000 ≤ q) : cv q = nI (q - 3000) := if_pos h
theorem g73 {h : ma_H} {Q : ma_Q} {hb : ma_H} {b : Nat → Nat} {n K cl k c : Nat} (T : TS hb b n K) (C : CP hb n cl h k c) (hk : k ≤ K) {s : Nat} (hs : s < 256 ∨ s = 257 ∨ s = 258 ∨ s = 259 ∨ s = 260 ∨ s = 261 ∨ s = 262) {A : List Int32} (S : seg (ai h 10) 0 A) (k1 : tq b n k = s → k + 1 ≤ K → ∀ h1, CP hb n cl h1 (k + 1) c → seg (ai h1 10) 0 A → Q (some (.int 1)) h1) (k2 : ¬ tq b n k = s → Q (some (.int 0)) h) : ma_X 73 [.ref 2, .int (nI s)] h Q := by
  refine s73 T C hk (by omega) (fun z => ?_) (fun z => k2 (fun w => z ((cs_eq (by omega)).mpr w)))
  have y : tq b n k = s := (cs_eq (by omega)).mp z
  exact k1 y (tq_in T hk (by rw [y]; omega)) _ (C.at (k + 1)) (by rw [ai_ne _ _ (by decide)]; exact S)
theorem v73 {h : ma_H} {Q : ma_Q} {hb : ma_H} {b : Nat → Nat} {n K cl k c : Nat} (T : TS hb b n K) (C : CP hb n cl h k c) (hk : k ≤ K) {A : List Int32} (S : seg (ai h 10) 0 A) (k1 : 3000 ≤ tq b n k → k + 1 ≤ K → ∀ h1, CP hb n cl h1 (k + 1) c → seg (ai h1 10) 0 A → Q (some (.int 1)) h1) (k2 : ¬ 3000 ≤ tq b n k → Q (some (.int 0)) h) : ma_X 73 [.ref 2, .int (nI 263)] h Q := by
  refine s73 T C hk (by omega) (fun z => ?_) (fun z => k2 (fun w => z ((cs_263 (tq_ne T _)).mpr w)))
  have y : 3000 ≤ tq b n k := (cs_263 (tq_ne T _)).mp z
  exact k1 y (tq_in T hk (by omega)) _ (C.at (k + 1)) (by rw [ai_ne _ _ (by decide)]; exact S)
theorem g71 {h : ma_H} {Q : ma_Q} {hb : ma_H} {b : Nat → Nat} {n K cl k c : Nat} (T : TS hb b n K) (C : CP hb n cl h k c) (hk : k ≤ K) {s : Nat} (hs : s < 256) (k1 : tq b n k = s → Q (some (.int 1)) h) (k2 : ¬ tq b n k = s → Q (some (.int 0)) h) : ma_X 71 [.ref 2, .int (nI s)] h Q := by
  exact s71 T C hk (by omega) (fun z => k1 ((cs_eq (by omega)).mp z)) (fun z => k2 (fun w => z ((cs_eq (by omega)).mpr w)))
theorem g55 {h : ma_H} {Q : ma_Q} {hb : ma_H} {n cl k c : Nat} {v : Int32} {A : List Int32} (C : CP hb n cl h k c) (S : seg (ai h 10) 0 A) (e : c = A.length) (cb : c < 200) (k1 : ∀ h1, CP hb n cl h1 k (c + 1) → seg (ai h1 10) 0 (A ++ [v]) → Q none h1) : ma_X 55 [.ref 7, .int v] h Q := by
  refine s55 C (fun _ C5 => k1 _ C5 ?_) (fun z => absurd cb z) (by omega)
  rw [ai_ne _ _ (by decide), ai_at, e]
  exact seg_snoc S
theorem f55 {h : ma_H} {Q : ma_Q} {hb : ma_H} {n cl k c : Nat} {v : Int32} (C : CP hb n cl h k c) (cb : c ≤ 200) (k1 : ∀ h1 c1, c1 ≤ 200 → CP hb n cl h1 k c1 → Q none h1) : ma_X 55 [.ref 7, .int v] h Q := by
  exact s55 C (fun z C5 => k1 _ _ (by omega) C5) (fun _ => k1 _ _ cb C) cb
theorem s79 {hb : ma_H} {b : Nat → Nat} {n K cl : Nat} (T : TS hb b n K) : SPC hb b n K cl 79 [] (pCmp (tq b n)) := by
  intro hh k C Q CC S hk lc kT kF
  have K2 := T.1
  have rest : ∀ (o : Nat) (h3 : ma_H), o < 3 → tq b n (k + 1) = 60 + o → CP hb n cl h3 (k + 2) C.length → seg (ai h3 10) 0 C → k + 2 ≤ K → 3000 ≤ tq b n k → ma_X 74 [.ref 2] h3 (fun v h2 => At 79 Q 33 (0, 0) [some (.ref 2), some (.int (cv (tq b n k))), some (.int (nI o)), none] (v.toList ++ []) h2) := by
    intro o h3 ho eo C3 S3 k2 y
    refine s74 T C3 k2 ?_
    refine go 60 (by decide) ?_
    simp only [KX, KY, KZ, KW, KV, Nat.reduceAdd, Nat.reduceSub, Nat.reduceLeDiff, true_and, and_true, true_or, or_true, or_self, reduceCtorEq, if_true, if_false, not_false_eq_true, eq_self, c79, C3.e2, C3.e7]
    refine v73 T C3 k2 S3 (fun zz k3 h4 C4 S4 => ?_) (fun zz => ?_)
    · have pe : pCmp (tq b n) k = (true, k + 3, [(o, tq b n k - 3000, tq b n (k + 2) - 3000)], [(o, tq b n k - 3000, tq b n (k + 2) - 3000)]) := by
        unfold pCmp
        rw [if_pos y, if_pos (by omega), if_pos zz, show tq b n (k + 1) - 60 = o by omega]
      refine go 60 (by decide) ?_
      simp only [KX, KY, KZ, KW, KV, Nat.reduceAdd, Nat.reduceSub, Nat.reduceLeDiff, true_and, and_true, true_or, or_true, or_self, reduceCtorEq, if_true, if_false, not_false_eq_true, eq_self, c79, C4.e2, C4.e7]
      rw [cv_q y, show cv (qt b n (Ps b n (k + 2))) = nI (tq b n (k + 2) - 3000) from cv_q zz]
      have l1 := tq_lt T k
      have l2 := tq_lt T (k + 2)
      refine s54 (by omega) ho (by omega) ?_
      refine go 60 (by decide) ?_
      simp only [KX, KY, KZ, KW, KV, Nat.reduceAdd, Nat.reduceSub, Nat.reduceLeDiff, true_and, and_true, true_or, or_true, or_self, reduceCtorEq, if_true, if_false, not_false_eq_true, eq_self, c79, C4.e2, C4.e7]
      refine g55 C4 S4 rfl (by omega) (fun h5 C5 S5 => ?_)
      refine go 60 (by decide) ?_
      simp only [KX, KY, KZ, KW, KV, Nat.reduceAdd, Nat.reduceSub, Nat.reduceLeDiff, true_and, and_true, true_or, or_true, or_self, reduceCtorEq, if_true, if_false, not_false_eq_true, eq_self, c79, C5.e2, C5.e7]
      first
        | exact kT _ (by rw [pe]) (by rw [pe]; exact C5) (by rw [pe]; exact S5)
        | exact ⟨Or.inl rfl, kT _ (by rw [pe]) (by rw [pe]; exact C5) (by rw [pe]; exact S5)⟩
        | exact ⟨Or.inr rfl, kT _ (by rw [pe]) (by rw [pe]; exact C5) (by rw [pe]; exact S5)⟩
    · have pe : pCmp (tq b n) k = (false, k + 2, [], []) := by
        unfold pCmp
        rw [if_pos y, if_pos (by omega), if_neg zz]
      refine go 60 (by decide) ?_
      simp only [KX, KY, KZ, KW, KV, Nat.reduceAdd, Nat.reduceSub, Nat.reduceLeDiff, true_and, and_true, true_or, or_true, or_self, reduceCtorEq, if_true, if_false, not_false_eq_true, eq_self, c79, C3.e2, C3.e7]
      first
        | exact kF _ C.length (by rw [pe]) (by omega) (by rw [pe]; exact C3)
        | exact ⟨Or.inl rfl, kF _ C.length (by rw [pe]) (by omega) (by rw [pe]; exact C3)⟩
        | exact ⟨Or.inr rfl, kF _ C.length (by rw [pe]) (by omega) (by rw [pe]; exact C3)⟩
  refine ma_enter (m := 79) (Or.inl (by decide)) (by show 1 ≤ mt_n 79; decide +kernel) ?_
  show At 79 Q 0 (mt_c 79) [some (.ref 2), none, none, none] [] hh
  refine go 60 (by decide) ?_
  simp only [KX, KY, KZ, KW, KV, Nat.reduceAdd, Nat.reduceSub, Nat.reduceLeDiff, true_and, and_true, true_or, or_true, or_self, reduceCtorEq, if_true, if_false, not_false_eq_true, eq_self, c79, CC.e2, CC.e7]
  refine s74 T CC hk ?_
  refine go 60 (by decide) ?_
  simp only [KX, KY, KZ, KW, KV, Nat.reduceAdd, Nat.reduceSub, Nat.reduceLeDiff, true_and, and_true, true_or, or_true, or_self, reduceCtorEq, if_true, if_false, not_false_eq_true, eq_self, c79, CC.e2, CC.e7]
  refine v73 T CC hk S (fun y k1 h1 C1 S1 => ?_) (fun y => ?_)
  · refine go 60 (by decide) ?_
    simp only [KX, KY, KZ, KW, KV, Nat.reduceAdd, Nat.reduceSub, Nat.reduceLeDiff, true_and, and_true, true_or, or_true, or_self, reduceCtorEq, if_true, if_false, not_false_eq_true, eq_self, c79, C1.e2, C1.e7]
    refine g73 T C1 k1 (s := 61) (by decide) S1 (fun z1 k2 h2 C2 S2 => ?_) (fun z1 => ?_)
    · refine go 60 (by decide) ?_
      simp only [KX, KY, KZ, KW, KV, Nat.reduceAdd, Nat.reduceSub, Nat.reduceLeDiff, true_and, and_true, true_or, or_true, or_self, reduceCtorEq, if_true, if_false, not_false_eq_true, eq_self, c79, C2.e2, C2.e7]
      exact rest 1 _ (by decide) z1 C2 S2 k2 y
    · refine go 60 (by decide) ?_
      simp only [KX, KY, KZ, KW, KV, Nat.reduceAdd, Nat.reduceSub, Nat.reduceLeDiff, true_and, and_true, true_or, or_true, or_self, reduceCtorEq, if_true, if_false, not_false_eq_true, eq_self, c79, C1.e2, C1.e7]
      refine g73 T C1 k1 (s := 62) (by decide) S1 (fun z2 k2 h2 C2 S2 => ?_) (fun z2 => ?_)
      · refine go 60 (by decide) ?_
        simp only [KX, KY, KZ, KW, KV, Nat.reduceAdd, Nat.reduceSub, Nat.reduceLeDiff, true_and, and_true, true_or, or_true, or_self, reduceCtorEq, if_true, if_false, not_false_eq_true, eq_self, c79, C2.e2, C2.e7]
        exact rest 2 _ (by decide) z2 C2 S2 k2 y
      · refine go 60 (by decide) ?_
        simp only [KX, KY, KZ, KW, KV, Nat.reduceAdd, Nat.reduceSub, Nat.reduceLeDiff, true_and, and_true, true_or, or_true, or_self, reduceCtorEq, if_true, if_false, not_false_eq_true, eq_self, c79, C1.e2, C1.e7]
        refine g73 T C1 k1 (s := 60) (by decide) S1 (fun z3 k2 h2 C2 S2 => ?_) (fun z3 => ?_)
        · refine go 60 (by decide) ?_
          simp only [KX, KY, KZ, KW, KV, Nat.reduceAdd, Nat.reduceSub, Nat.reduceLeDiff, true_and, and_true, true_or, or_true, or_self, reduceCtorEq, if_true, if_false, not_false_eq_true, eq_self, c79, C2.e2, C2.e7]
          exact rest 0 _ (by decide) z3 C2 S2 k2 y
        · have pe : pCmp (tq b n) k = (false, k + 1, [], []) := by
            unfold pCmp
            rw [if_pos y, if_neg (by omega)]
          refine go 60 (by decide) ?_
          simp only [KX, KY, KZ, KW, KV, Nat.reduceAdd, Nat.reduceSub, Nat.reduceLeDiff, true_and, and_true, true_or, or_true, or_self, reduceCtorEq, if_true, if_false, not_false_eq_true, eq_self, c79, C1.e2, C1.e7]
          first
            | exact kF _ C.length (by rw [pe]) (by omega) (by rw [pe]; exact C1)
            | exact ⟨Or.inl rfl, kF _ C.length (by rw [pe]) (by omega) (by rw [pe]; exact C1)⟩
            | exact ⟨Or.inr rfl, kF _ C.length (by rw [pe]) (by omega) (by rw [pe]; exact C1)⟩
  · have pe : pCmp (tq b n) k = (false, k, [], []) := by
      unfold pCmp
      rw [if_neg y]
    refine go 60 (by decide) ?_
    simp only [KX, KY, KZ, KW, KV, Nat.reduceAdd, Nat.reduceSub, Nat.reduceLeDiff, true_and, and_true, true_or, or_true, or_self, reduceCtorEq, if_true, if_false, not_false_eq_true, eq_self, c79, CC.e2, CC.e7]
    first
      | exact kF _ C.length (by rw [pe]) (by omega) (by rw [pe]; exact CC)
      | exact ⟨Or.inl rfl, kF _ C.length (by rw [pe]) (by omega) (by rw [pe]; exact CC)⟩
      | exact ⟨Or.inr rfl, kF _ C.length (by rw [pe]) (by omega) (by rw [pe]; exact CC)⟩
theorem SPC.one_end {P : List Tok} {C : List Int32} {t : Tok} : (C ++ P.map tc) ++ [tc t] = C ++ (P ++ [t]).map tc := by
  rw [List.map_append, List.append_assoc]
  rfl
theorem seg_len {C : List Int32} {P : List Tok} : (C ++ P.map tc).length = C.length + P.length := by
  rw [List.length_append, List.length_map]
theorem sOne3 {hb : ma_H} {b : Nat → Nat} {n K cl : Nat} (T : TS hb b n K) : SPC hb b n K cl 284 [.int 3] (pOne (tq b n) none) := by
  intro hh k C Q CC S hk lc kT kF
  have K2 := T.1
  have R19 : ∀ nn h2, nots (tq b n) 200 k = nn → CP hb n cl h2 (k + nn) C.length → seg (ai h2 10) 0 C → ma_X 71 [.ref 2, .int 40] h2 (fun v h3 => At 284 Q 22 (0, 0) [some (.ref 2), some (.int 3), some (.int (nI (nn % 2))), some (.int (nI nn))] (v.toList ++ []) h3) := by
    intro nn h2 en C2 S2
    have hk2 : k + nn ≤ K := by rw [← en]; exact nots_ok (tq_K T) 200 k hk
    obtain ⟨w1, w2, w3⟩ := pIn_ok (q := tq b n) (tq_K T) (cnd := none) (fun c z => by cases z) _ hk2
    have F1 : ∀ h3, (pIn (tq b n) none (k + nn)).1 = true → CP hb n cl h3 (pIn (tq b n) none (k + nn)).2.1 (C.length + (pIn (tq b n) none (k + nn)).2.2.1.length) → seg (ai h3 10) 0 (C ++ (pIn (tq b n) none (k + nn)).2.2.1.map tc) → At 284 Q 43 (0, 0) [some (.ref 2), some (.int 3), some (.int (nI (nn % 2))), some (.int (nI nn))] [.int 1] h3 := by
      intro h3 ok3 C3 S3
      refine go 60 (by decide) ?_
      simp only [KX, KY, KZ, KW, KV, Nat.reduceAdd, Nat.reduceSub, Nat.reduceLeDiff, true_and, and_true, true_or, or_true, or_self, reduceCtorEq, if_true, if_false, not_false_eq_true, eq_self, c284, C3.e2, C3.e7]
      have pe : pOne (tq b n) none k = pNot nn (pIn (tq b n) none (k + nn)) := by show pNot _ _ = _; rw [en]
      by_cases pr : nn % 2 = 1
      · rw [if_neg (show ¬ nI (nn % 2) = 0 by rw [pr]; decide)]
        refine g55 C3 S3 seg_len.symm (by omega) (fun h5 C5 S5 => ?_)
        refine go 60 (by decide) ?_
        simp only [KX, KY, KZ, KW, KV, Nat.reduceAdd, Nat.reduceSub, Nat.reduceLeDiff, true_and, and_true, true_or, or_true, or_self, reduceCtorEq, if_true, if_false, not_false_eq_true, eq_self, c284, C5.e2, C5.e7]
        first
          | exact kT _ (by rw [pe]; exact ok3) (by rw [pe]; show CP hb n cl _ (pIn (tq b n) none (k + nn)).2.1 (C.length + ((pIn (tq b n) none (k + nn)).2.2.1 ++ (if nn % 2 = 1 then [tkN] else [])).length); rw [if_pos pr, List.length_append]; exact C5) (by rw [pe]; show seg _ 0 (C ++ ((pIn (tq b n) none (k + nn)).2.2.1 ++ (if nn % 2 = 1 then [tkN] else [])).map tc); rw [if_pos pr, ← SPC.one_end]; exact S5)
          | exact ⟨Or.inl rfl, kT _ (by rw [pe]; exact ok3) (by rw [pe]; show CP hb n cl _ (pIn (tq b n) none (k + nn)).2.1 (C.length + ((pIn (tq b n) none (k + nn)).2.2.1 ++ (if nn % 2 = 1 then [tkN] else [])).length); rw [if_pos pr, List.length_append]; exact C5) (by rw [pe]; show seg _ 0 (C ++ ((pIn (tq b n) none (k + nn)).2.2.1 ++ (if nn % 2 = 1 then [tkN] else [])).map tc); rw [if_pos pr, ← SPC.one_end]; exact S5)⟩
          | exact ⟨Or.inr rfl, kT _ (by rw [pe]; exact ok3) (by rw [pe]; show CP hb n cl _ (pIn (tq b n) none (k + nn)).2.1 (C.length + ((pIn (tq b n) none (k + nn)).2.2.1 ++ (if nn % 2 = 1 then [tkN] else [])).length); rw [if_pos pr, List.length_append]; exact C5) (by rw [pe]; show seg _ 0 (C ++ ((pIn (tq b n) none (k + nn)).2.2.1 ++ (if nn % 2 = 1 then [tkN] else [])).map tc); rw [if_pos pr, ← SPC.one_end]; exact S5)⟩
      · rw [if_pos (show nI (nn % 2) = 0 by rw [show nn % 2 = 0 by omega]; rfl)]
        first
          | exact kT _ (by rw [pe]; exact ok3) (by rw [pe]; show CP hb n cl _ (pIn (tq b n) none (k + nn)).2.1 (C.length + ((pIn (tq b n) none (k + nn)).2.2.1 ++ (if nn % 2 = 1 then [tkN] else [])).length); rw [if_neg pr, List.append_nil]; exact C3) (by rw [pe]; show seg _ 0 (C ++ ((pIn (tq b n) none (k + nn)).2.2.1 ++ (if nn % 2 = 1 then [tkN] else [])).map tc); rw [if_neg pr, List.append_nil]; exact S3)
          | exact ⟨Or.inl rfl, kT _ (by rw [pe]; exact ok3) (by rw [pe]; show CP hb n cl _ (pIn (tq b n) none (k + nn)).2.1 (C.length + ((pIn (tq b n) none (k + nn)).2.2.1 ++ (if nn % 2 = 1 then [tkN] else [])).length); rw [if_neg pr, List.append_nil]; exact C3) (by rw [pe]; show seg _ 0 (C ++ ((pIn (tq b n) none (k + nn)).2.2.1 ++ (if nn % 2 = 1 then [tkN] else [])).map tc); rw [if_neg pr, List.append_nil]; exact S3)⟩
          | exact ⟨Or.inr rfl, kT _ (by rw [pe]; exact ok3) (by rw [pe]; show CP hb n cl _ (pIn (tq b n) none (k + nn)).2.1 (C.length + ((pIn (tq b n) none (k + nn)).2.2.1 ++ (if nn % 2 = 1 then [tkN] else [])).length); rw [if_neg pr, List.append_nil]; exact C3) (by rw [pe]; show seg _ 0 (C ++ ((pIn (tq b n) none (k + nn)).2.2.1 ++ (if nn % 2 = 1 then [tkN] else [])).map tc); rw [if_neg pr, List.append_nil]; exact S3)⟩
    have F0 : ∀ h3 c3, (pIn (tq b n) none (k + nn)).1 = false → c3 ≤ 200 → CP hb n cl h3 (pIn (tq b n) none (k + nn)).2.1 c3 → At 284 Q 43 (0, 0) [some (.ref 2), some (.int 3), some (.int (nI (nn % 2))), some (.int (nI nn))] [.int 0] h3 := by
      intro h3 c3 ok3 cc C3
      refine go 60 (by decide) ?_
      simp only [KX, KY, KZ, KW, KV, Nat.reduceAdd, Nat.reduceSub, Nat.reduceLeDiff, true_and, and_true, true_or, or_true, or_self, reduceCtorEq, if_true, if_false, not_false_eq_true, eq_self, c284, C3.e2, C3.e7]
      have pe : pOne (tq b n) none k = pNot nn (pIn (tq b n) none (k + nn)) := by show pNot _ _ = _; rw [en]
      have pl : (pOne (tq b n) none k).2.1 = (pIn (tq b n) none (k + nn)).2.1 := by rw [pe]; rfl
      by_cases pr : nn % 2 = 1
      · rw [if_neg (show ¬ nI (nn % 2) = 0 by rw [pr]; decide)]
        refine f55 C3 cc (fun h5 c5 cc5 C5 => ?_)
        refine go 60 (by decide) ?_
        simp only [KX, KY, KZ, KW, KV, Nat.reduceAdd, Nat.reduceSub, Nat.reduceLeDiff, true_and, and_true, true_or, or_true, or_self, reduceCtorEq, if_true, if_false, not_false_eq_true, eq_self, c284, C5.e2, C5.e7]
        first
          | exact kF _ _ (by rw [pe]; exact ok3) cc5 (by rw [pl]; exact C5)
          | exact ⟨Or.inl rfl, kF _ _ (by rw [pe]; exact ok3) cc5 (by rw [pl]; exact C5)⟩
          | exact ⟨Or.inr rfl, kF _ _ (by rw [pe]; exact ok3) cc5 (by rw [pl]; exact C5)⟩
      · rw [if_pos (show nI (nn % 2) = 0 by rw [show nn % 2 = 0 by omega]; rfl)]
        first
          | exact kF _ _ (by rw [pe]; exact ok3) cc (by rw [pl]; exact C3)
          | exact ⟨Or.inl rfl, kF _ _ (by rw [pe]; exact ok3) cc (by rw [pl]; exact C3)⟩
          | exact ⟨Or.inr rfl, kF _ _ (by rw [pe]; exact ok3) cc (by rw [pl]; exact C3)⟩
    refine g71 T C2 hk2 (s := 40) (by decide) (fun y => ?_) (fun y => ?_)
    · have pin : (pIn (tq b n) none (k + nn)) = (false, k + nn, [], []) := if_pos y
      first
        | (with_reducible show At 284 _ 43 _ _ _ _)
        | (refine go 60 (by decide) ?_; simp only [KX, KY, KZ, KW, KV, Nat.reduceAdd, Nat.reduceSub, Nat.reduceLeDiff, true_and, and_true, true_or, or_true, or_self, reduceCtorEq, if_true, if_false, not_false_eq_true, eq_self, c284, C2.e2, C2.e7])
      trace_state
      exact F0 h2 C.length (by rw [pin]) (by omega) (by rw [pin]; exact C2)
    · have pin : (pIn (tq b n) none (k + nn)) = pCmp (tq b n) (k + nn) := if_neg y
      refine go 60 (by decide) ?_
      simp only [KX, KY, KZ, KW, KV, Nat.reduceAdd, Nat.reduceSub, Nat.reduceLeDiff, true_and, and_true, true_or, or_true, or_self, reduceCtorEq, if_true, if_false, not_false_eq_true, eq_self, c284, C2.e2, C2.e7]
      refine s79 T _ _ C _ C2 S2 hk2 (by omega) (fun h3 ok3 C3 S3 => ?_) (fun h3 c3 ok3 cc C3 => ?_)
      · rw [← pin] at ok3 C3 S3
        refine go 60 (by decide) ?_
        simp only [KX, KY, KZ, KW, KV, Nat.reduceAdd, Nat.reduceSub, Nat.reduceLeDiff, true_and, and_true, true_or, or_true, or_self, reduceCtorEq, if_true, if_false, not_false_eq_true, eq_self, c284, C3.e2, C3.e7]
        have pe : pOne (tq b n) none k = pNot nn (pIn (tq b n) none (k + nn)) := by show pNot _ _ = _; rw [en]
        by_cases pr : nn % 2 = 1
        · rw [if_neg (show ¬ nI (nn % 2) = 0 by rw [pr]; decide)]
          refine g55 C3 S3 seg_len.symm (by omega) (fun h5 C5 S5 => ?_)
          refine go 60 (by decide) ?_
          simp only [KX, KY, KZ, KW, KV, Nat.reduceAdd, Nat.reduceSub, Nat.reduceLeDiff, true_and, and_true, true_or, or_true, or_self, reduceCtorEq, if_true, if_false, not_false_eq_true, eq_self, c284, C5.e2, C5.e7]
          first
            | exact kT _ (by rw [pe]; exact ok3) (by rw [pe]; show CP hb n cl _ (pIn (tq b n) none (k + nn)).2.1 (C.length + ((pIn (tq b n) none (k + nn)).2.2.1 ++ (if nn % 2 = 1 then [tkN] else [])).length); rw [if_pos pr, List.length_append]; exact C5) (by rw [pe]; show seg _ 0 (C ++ ((pIn (tq b n) none (k + nn)).2.2.1 ++ (if nn % 2 = 1 then [tkN] else [])).map tc); rw [if_pos pr, ← SPC.one_end]; exact S5)
            | exact ⟨Or.inl rfl, kT _ (by rw [pe]; exact ok3) (by rw [pe]; show CP hb n cl _ (pIn (tq b n) none (k + nn)).2.1 (C.length + ((pIn (tq b n) none (k + nn)).2.2.1 ++ (if nn % 2 = 1 then [tkN] else [])).length); rw [if_pos pr, List.length_append]; exact C5) (by rw [pe]; show seg _ 0 (C ++ ((pIn (tq b n) none (k + nn)).2.2.1 ++ (if nn % 2 = 1 then [tkN] else [])).map tc); rw [if_pos pr, ← SPC.one_end]; exact S5)⟩
            | exact ⟨Or.inr rfl, kT _ (by rw [pe]; exact ok3) (by rw [pe]; show CP hb n cl _ (pIn (tq b n) none (k + nn)).2.1 (C.length + ((pIn (tq b n) none (k + nn)).2.2.1 ++ (if nn % 2 = 1 then [tkN] else [])).length); rw [if_pos pr, List.length_append]; exact C5) (by rw [pe]; show seg _ 0 (C ++ ((pIn (tq b n) none (k + nn)).2.2.1 ++ (if nn % 2 = 1 then [tkN] else [])).map tc); rw [if_pos pr, ← SPC.one_end]; exact S5)⟩
        · rw [if_pos (show nI (nn % 2) = 0 by rw [show nn % 2 = 0 by omega]; rfl)]
          first
            | exact kT _ (by rw [pe]; exact ok3) (by rw [pe]; show CP hb n cl _ (pIn (tq b n) none (k + nn)).2.1 (C.length + ((pIn (tq b n) none (k + nn)).2.2.1 ++ (if nn % 2 = 1 then [tkN] else [])).length); rw [if_neg pr, List.append_nil]; exact C3) (by rw [pe]; show seg _ 0 (C ++ ((pIn (tq b n) none (k + nn)).2.2.1 ++ (if nn % 2 = 1 then [tkN] else [])).map tc); rw [if_neg pr, List.append_nil]; exact S3)
            | exact ⟨Or.inl rfl, kT _ (by rw [pe]; exact ok3) (by rw [pe]; show CP hb n cl _ (pIn (tq b n) none (k + nn)).2.1 (C.length + ((pIn (tq b n) none (k + nn)).2.2.1 ++ (if nn % 2 = 1 then [tkN] else [])).length); rw [if_neg pr, List.append_nil]; exact C3) (by rw [pe]; show seg _ 0 (C ++ ((pIn (tq b n) none (k + nn)).2.2.1 ++ (if nn % 2 = 1 then [tkN] else [])).map tc); rw [if_neg pr, List.append_nil]; exact S3)⟩
            | exact ⟨Or.inr rfl, kT _ (by rw [pe]; exact ok3) (by rw [pe]; show CP hb n cl _ (pIn (tq b n) none (k + nn)).2.1 (C.length + ((pIn (tq b n) none (k + nn)).2.2.1 ++ (if nn % 2 = 1 then [tkN] else [])).length); rw [if_neg pr, List.append_nil]; exact C3) (by rw [pe]; show seg _ 0 (C ++ ((pIn (tq b n) none (k + nn)).2.2.1 ++ (if nn % 2 = 1 then [tkN] else [])).map tc); rw [if_neg pr, List.append_nil]; exact S3)⟩
      · rw [← pin] at ok3 C3
        refine go 60 (by decide) ?_
        simp only [KX, KY, KZ, KW, KV, Nat.reduceAdd, Nat.reduceSub, Nat.reduceLeDiff, true_and, and_true, true_or, or_true, or_self, reduceCtorEq, if_true, if_false, not_false_eq_true, eq_self, c284, C3.e2, C3.e7]
        have pe : pOne (tq b n) none k = pNot nn (pIn (tq b n) none (k + nn)) := by show pNot _ _ = _; rw [en]
        have pl : (pOne (tq b n) none k).2.1 = (pIn (tq b n) none (k + nn)).2.1 := by rw [pe]; rfl
        by_cases pr : nn % 2 = 1
        · rw [if_neg (show ¬ nI (nn % 2) = 0 by rw [pr]; decide)]
          refine f55 C3 cc (fun h5 c5 cc5 C5 => ?_)
          refine go 60 (by decide) ?_
          simp only [KX, KY, KZ, KW, KV, Nat.reduceAdd, Nat.reduceSub, Nat.reduceLeDiff, true_and, and_true, true_or, or_true, or_self, reduceCtorEq, if_true, if_false, not_false_eq_true, eq_self, c284, C5.e2, C5.e7]
          first
            | exact kF _ _ (by rw [pe]; exact ok3) cc5 (by rw [pl]; exact C5)
            | exact ⟨Or.inl rfl, kF _ _ (by rw [pe]; exact ok3) cc5 (by rw [pl]; exact C5)⟩
            | exact ⟨Or.inr rfl, kF _ _ (by rw [pe]; exact ok3) cc5 (by rw [pl]; exact C5)⟩
        · rw [if_pos (show nI (nn % 2) = 0 by rw [show nn % 2 = 0 by omega]; rfl)]
          first
            | exact kF _ _ (by rw [pe]; exact ok3) cc (by rw [pl]; exact C3)
            | exact ⟨Or.inl rfl, kF _ _ (by rw [pe]; exact ok3) cc (by rw [pl]; exact C3)⟩
            | exact ⟨Or.inr rfl, kF _ _ (by rw [pe]; exact ok3) cc (by rw [pl]; exact C3)⟩
  have lp : ∀ f i h2, i + f = 200 → nots (tq b n) 200 k = i + nots (tq b n) f (k + i) → k + i ≤ K → CP hb n cl h2 (k + i) C.length → seg (ai h2 10) 0 C → At 284 Q 4 (0, 0) [some (.ref 2), some (.int 3), some (.int (nI (i % 2))), some (.int (nI i))] [] h2 := by
    intro f
    induction f with
    | zero =>
      intro i h2 ei en ik C2 S2
      obtain rfl : i = 200 := by omega
      refine go 60 (by decide) ?_
      simp only [KX, KY, KZ, KW, KV, Nat.reduceAdd, Nat.reduceSub, Nat.reduceLeDiff, true_and, and_true, true_or, or_true, or_self, reduceCtorEq, if_true, if_false, not_false_eq_true, eq_self, c284, C2.e2, C2.e7]
      rw [if_neg (show ¬ nI 200 < (200 : Int32) from nI_nlt (Nat.le_refl _) (by decide))]
      exact R19 200 h2 en C2 S2
    | succ f ih =>
      intro i h2 ei en ik C2 S2
      have en : nots (tq b n) 200 k = i + if tq b n (k + i) = 262 then 1 + nots (tq b n) f (k + i + 1) else 0 := en
      refine go 60 (by decide) ?_
      simp only [KX, KY, KZ, KW, KV, Nat.reduceAdd, Nat.reduceSub, Nat.reduceLeDiff, true_and, and_true, true_or, or_true, or_self, reduceCtorEq, if_true, if_false, not_false_eq_true, eq_self, c284, C2.e2, C2.e7]
      rw [if_pos (show nI i < (200 : Int32) from nI_lt (b := 200) (by omega) (by decide))]
      refine g73 T C2 ik (s := 262) (by decide) S2 (fun y ik3 h3 C3 S3 => ?_) (fun y => ?_)
      · rw [if_pos y] at en
        have ih2 := ih (i + 1) h3 (by omega) (by rw [en, ← Nat.add_assoc, ← Nat.add_assoc]) ik3 C3 S3
        refine go 60 (by decide) ?_
        simp only [KX, KY, KZ, KW, KV, Nat.reduceAdd, Nat.reduceSub, Nat.reduceLeDiff, true_and, and_true, true_or, or_true, or_self, reduceCtorEq, if_true, if_false, not_false_eq_true, eq_self, c284, C3.e2, C3.e7]
        rcases (show i % 2 = 0 ∨ i % 2 = 1 by omega) with pr | pr
        · rw [show (i + 1) % 2 = 1 by omega] at ih2
          rw [if_pos (show nI (i % 2) = 0 by rw [pr]; rfl)]
          first
            | (with_reducible show At 284 _ 4 _ _ _ _)
            | (refine go 60 (by decide) ?_; simp only [KX, KY, KZ, KW, KV, Nat.reduceAdd, Nat.reduceSub, Nat.reduceLeDiff, true_and, and_true, true_or, or_true, or_self, reduceCtorEq, if_true, if_false, not_false_eq_true, eq_self, c284, C3.e2, C3.e7])
          first
            | (with_reducible show At 284 _ 4 _ _ _ _)
            | (refine go 60 (by decide) ?_; simp only [KX, KY, KZ, KW, KV, Nat.reduceAdd, Nat.reduceSub, Nat.reduceLeDiff, true_and, and_true, true_or, or_true, or_self, reduceCtorEq, if_true, if_false, not_false_eq_true, eq_self, c284, C3.e2, C3.e7])
          first
            | (with_reducible show At 284 _ 4 _ _ _ _)
            | (refine go 60 (by decide) ?_; simp only [KX, KY, KZ, KW, KV, Nat.reduceAdd, Nat.reduceSub, Nat.reduceLeDiff, true_and, and_true, true_or, or_true, or_self, reduceCtorEq, if_true, if_false, not_false_eq_true, eq_self, c284, C3.e2, C3.e7])
          rw [nI_1 i]
          exact At_le ih2 ⟨rfl, rfl, rfl, rfl, trivial⟩
        · rw [show (i + 1) % 2 = 0 by omega] at ih2
          rw [if_neg (show ¬ nI (i % 2) = 0 by rw [pr]; decide)]
          first
            | (with_reducible show At 284 _ 4 _ _ _ _)
            | (refine go 60 (by decide) ?_; simp only [KX, KY, KZ, KW, KV, Nat.reduceAdd, Nat.reduceSub, Nat.reduceLeDiff, true_and, and_true, true_or, or_true, or_self, reduceCtorEq, if_true, if_false, not_false_eq_true, eq_self, c284, C3.e2, C3.e7])
          first
            | (with_reducible show At 284 _ 4 _ _ _ _)
            | (refine go 60 (by decide) ?_; simp only [KX, KY, KZ, KW, KV, Nat.reduceAdd, Nat.reduceSub, Nat.reduceLeDiff, true_and, and_true, true_or, or_true, or_self, reduceCtorEq, if_true, if_false, not_false_eq_true, eq_self, c284, C3.e2, C3.e7])
          first
            | (with_reducible show At 284 _ 4 _ _ _ _)
            | (refine go 60 (by decide) ?_; simp only [KX, KY, KZ, KW, KV, Nat.reduceAdd, Nat.reduceSub, Nat.reduceLeDiff, true_and, and_true, true_or, or_true, or_self, reduceCtorEq, if_true, if_false, not_false_eq_true, eq_self, c284, C3.e2, C3.e7])
          rw [nI_1 i]
          exact At_le ih2 ⟨rfl, rfl, rfl, rfl, trivial⟩
      · rw [if_neg y, Nat.add_zero] at en
        refine go 60 (by decide) ?_
        simp only [KX, KY, KZ, KW, KV, Nat.reduceAdd, Nat.reduceSub, Nat.reduceLeDiff, true_and, and_true, true_or, or_true, or_self, reduceCtorEq, if_true, if_false, not_false_eq_true, eq_self, c284, C2.e2, C2.e7]
        exact R19 i h2 en C2 S2
  refine ma_enter (m := 284) (Or.inl (by decide)) (by show 2 ≤ mt_n 284; decide +kernel) ?_
  show At 284 Q 0 (mt_c 284) [some (.ref 2), some (.int 3), none, none] [] hh
  refine go 60 (by decide) ?_
  simp only [KX, KY, KZ, KW, KV, Nat.reduceAdd, Nat.reduceSub, Nat.reduceLeDiff, true_and, and_true, true_or, or_true, or_self, reduceCtorEq, if_true, if_false, not_false_eq_true, eq_self, c284, CC.e2, CC.e7]
  exact lp 200 0 hh rfl (by rw [Nat.zero_add]; rfl) hk CC S
theorem sOne2 {hb : ma_H} {b : Nat → Nat} {n K cl : Nat} (T : TS hb b n K) {pc3 : Nat → PR} (gc : PG (tq b n) K pc3) (sc : SPC hb b n K cl 282 [.int 3] pc3) : SPC hb b n K cl 281 [.int 2] (pOne (tq b n) (some pc3)) := by
  intro hh k C Q CC S hk lc kT kF
  have K2 := T.1
  have R19 : ∀ nn h2, nots (tq b n) 200 k = nn → CP hb n cl h2 (k + nn) C.length → seg (ai h2 10) 0 C → ma_X 71 [.ref 2, .int 40] h2 (fun v h3 => At 281 Q 22 (0, 0) [some (.ref 2), some (.int 2), some (.int (nI (nn % 2))), some (.int (nI nn))] (v.toList ++ []) h3) := by
    intro nn h2 en C2 S2
    have hk2 : k + nn ≤ K := by rw [← en]; exact nots_ok (tq_K T) 200 k hk
    obtain ⟨w1, w2, w3⟩ := pIn_ok (q := tq b n) (tq_K T) (cnd := (some pc3)) (fun c z => by cases z; exact gc) _ hk2
    have F1 : ∀ h3, (pIn (tq b n) (some pc3) (k + nn)).1 = true → CP hb n cl h3 (pIn (tq b n) (some pc3) (k + nn)).2.1 (C.length + (pIn (tq b n) (some pc3) (k + nn)).2.2.1.length) → seg (ai h3 10) 0 (C ++ (pIn (tq b n) (some pc3) (k + nn)).2.2.1.map tc) → At 281 Q 43 (0, 0) [some (.ref 2), some (.int 2), some (.int (nI (nn % 2))), some (.int (nI nn))] [.int 1] h3 := by
      intro h3 ok3 C3 S3
      refine go 60 (by decide) ?_
      simp only [KX, KY, KZ, KW, KV, Nat.reduceAdd, Nat.reduceSub, Nat.reduceLeDiff, true_and, and_true, true_or, or_true, or_self, reduceCtorEq, if_true, if_false, not_false_eq_true, eq_self, c281, C3.e2, C3.e7]
      have pe : pOne (tq b n) (some pc3) k = pNot nn (pIn (tq b n) (some pc3) (k + nn)) := by show pNot _ _ = _; rw [en]
      by_cases pr : nn % 2 = 1
      · rw [if_neg (show ¬ nI (nn % 2) = 0 by rw [pr]; decide)]
        refine g55 C3 S3 seg_len.symm (by omega) (fun h5 C5 S5 => ?_)
        refine go 60 (by decide) ?_
        simp only [KX, KY, KZ, KW, KV, Nat.reduceAdd, Nat.reduceSub, Nat.reduceLeDiff, true_and, and_true, true_or, or_true, or_self, reduceCtorEq, if_true, if_false, not_false_eq_true, eq_self, c281, C5.e2, C5.e7]
        first
          | exact kT _ (by rw [pe]; exact ok3) (by rw [pe]; show CP hb n cl _ (pIn (tq b n) (some pc3) (k + nn)).2.1 (C.length + ((pIn (tq b n) (some pc3) (k + nn)).2.2.1 ++ (if nn % 2 = 1 then [tkN] else [])).length); rw [if_pos pr, List.length_append]; exact C5) (by rw [pe]; show seg _ 0 (C ++ ((pIn (tq b n) (some pc3) (k + nn)).2.2.1 ++ (if nn % 2 = 1 then [tkN] else [])).map tc); rw [if_pos pr, ← SPC.one_end]; exact S5)
          | exact ⟨Or.inl rfl, kT _ (by rw [pe]; exact ok3) (by rw [pe]; show CP hb n cl _ (pIn (tq b n) (some pc3) (k + nn)).2.1 (C.length + ((pIn (tq b n) (some pc3) (k + nn)).2.2.1 ++ (if nn % 2 = 1 then [tkN] else [])).length); rw [if_pos pr, List.length_append]; exact C5) (by rw [pe]; show seg _ 0 (C ++ ((pIn (tq b n) (some pc3) (k + nn)).2.2.1 ++ (if nn % 2 = 1 then [tkN] else [])).map tc); rw [if_pos pr, ← SPC.one_end]; exact S5)⟩
          | exact ⟨Or.inr rfl, kT _ (by rw [pe]; exact ok3) (by rw [pe]; show CP hb n cl _ (pIn (tq b n) (some pc3) (k + nn)).2.1 (C.length + ((pIn (tq b n) (some pc3) (k + nn)).2.2.1 ++ (if nn % 2 = 1 then [tkN] else [])).length); rw [if_pos pr, List.length_append]; exact C5) (by rw [pe]; show seg _ 0 (C ++ ((pIn (tq b n) (some pc3) (k + nn)).2.2.1 ++ (if nn % 2 = 1 then [tkN] else [])).map tc); rw [if_pos pr, ← SPC.one_end]; exact S5)⟩
      · rw [if_pos (show nI (nn % 2) = 0 by rw [show nn % 2 = 0 by omega]; rfl)]
        first
          | exact kT _ (by rw [pe]; exact ok3) (by rw [pe]; show CP hb n cl _ (pIn (tq b n) (some pc3) (k + nn)).2.1 (C.length + ((pIn (tq b n) (some pc3) (k + nn)).2.2.1 ++ (if nn % 2 = 1 then [tkN] else [])).length); rw [if_neg pr, List.append_nil]; exact C3) (by rw [pe]; show seg _ 0 (C ++ ((pIn (tq b n) (some pc3) (k + nn)).2.2.1 ++ (if nn % 2 = 1 then [tkN] else [])).map tc); rw [if_neg pr, List.append_nil]; exact S3)
          | exact ⟨Or.inl rfl, kT _ (by rw [pe]; exact ok3) (by rw [pe]; show CP hb n cl _ (pIn (tq b n) (some pc3) (k + nn)).2.1 (C.length + ((pIn (tq b n) (some pc3) (k + nn)).2.2.1 ++ (if nn % 2 = 1 then [tkN] else [])).length); rw [if_neg pr, List.append_nil]; exact C3) (by rw [pe]; show seg _ 0 (C ++ ((pIn (tq b n) (some pc3) (k + nn)).2.2.1 ++ (if nn % 2 = 1 then [tkN] else [])).map tc); rw [if_neg pr, List.append_nil]; exact S3)⟩
          | exact ⟨Or.inr rfl, kT _ (by rw [pe]; exact ok3) (by rw [pe]; show CP hb n cl _ (pIn (tq b n) (some pc3) (k + nn)).2.1 (C.length + ((pIn (tq b n) (some pc3) (k + nn)).2.2.1 ++ (if nn % 2 = 1 then [tkN] else [])).length); rw [if_neg pr, List.append_nil]; exact C3) (by rw [pe]; show seg _ 0 (C ++ ((pIn (tq b n) (some pc3) (k + nn)).2.2.1 ++ (if nn % 2 = 1 then [tkN] else [])).map tc); rw [if_neg pr, List.append_nil]; exact S3)⟩
    have F0 : ∀ h3 c3, (pIn (tq b n) (some pc3) (k + nn)).1 = false → c3 ≤ 200 → CP hb n cl h3 (pIn (tq b n) (some pc3) (k + nn)).2.1 c3 → At 281 Q 43 (0, 0) [some (.ref 2), some (.int 2), some (.int (nI (nn % 2))), some (.int (nI nn))] [.int 0] h3 := by
      intro h3 c3 ok3 cc C3
      refine go 60 (by decide) ?_
      simp only [KX, KY, KZ, KW, KV, Nat.reduceAdd, Nat.reduceSub, Nat.reduceLeDiff, true_and, and_true, true_or, or_true, or_self, reduceCtorEq, if_true, if_false, not_false_eq_true, eq_self, c281, C3.e2, C3.e7]
      have pe : pOne (tq b n) (some pc3) k = pNot nn (pIn (tq b n) (some pc3) (k + nn)) := by show pNot _ _ = _; rw [en]
      have pl : (pOne (tq b n) (some pc3) k).2.1 = (pIn (tq b n) (some pc3) (k + nn)).2.1 := by rw [pe]; rfl
      by_cases pr : nn % 2 = 1
      · rw [if_neg (show ¬ nI (nn % 2) = 0 by rw [pr]; decide)]
        refine f55 C3 cc (fun h5 c5 cc5 C5 => ?_)
        refine go 60 (by decide) ?_
        simp only [KX, KY, KZ, KW, KV, Nat.reduceAdd, Nat.reduceSub, Nat.reduceLeDiff, true_and, and_true, true_or, or_true, or_self, reduceCtorEq, if_true, if_false, not_false_eq_true, eq_self, c281, C5.e2, C5.e7]
        first
          | exact kF _ _ (by rw [pe]; exact ok3) cc5 (by rw [pl]; exact C5)
          | exact ⟨Or.inl rfl, kF _ _ (by rw [pe]; exact ok3) cc5 (by rw [pl]; exact C5)⟩
          | exact ⟨Or.inr rfl, kF _ _ (by rw [pe]; exact ok3) cc5 (by rw [pl]; exact C5)⟩
      · rw [if_pos (show nI (nn % 2) = 0 by rw [show nn % 2 = 0 by omega]; rfl)]
        first
          | exact kF _ _ (by rw [pe]; exact ok3) cc (by rw [pl]; exact C3)
          | exact ⟨Or.inl rfl, kF _ _ (by rw [pe]; exact ok3) cc (by rw [pl]; exact C3)⟩
          | exact ⟨Or.inr rfl, kF _ _ (by rw [pe]; exact ok3) cc (by rw [pl]; exact C3)⟩
    refine g71 T C2 hk2 (s := 40) (by decide) (fun y => ?_) (fun y => ?_)
    · have pin : (pIn (tq b n) (some pc3) (k + nn)) = pBr (tq b n) (pc3 (k + nn + 1)) := if_pos y
      refine go 60 (by decide) ?_
      simp only [KX, KY, KZ, KW, KV, Nat.reduceAdd, Nat.reduceSub, Nat.reduceLeDiff, true_and, and_true, true_or, or_true, or_self, reduceCtorEq, if_true, if_false, not_false_eq_true, eq_self, c281, C2.e2, C2.e7]
      refine g73 T C2 hk2 (s := 40) (by decide) S2 (fun _ hk3 h3 C3 S3 => ?_) (fun y2 => absurd y y2)
      refine go 60 (by decide) ?_
      simp only [KX, KY, KZ, KW, KV, Nat.reduceAdd, Nat.reduceSub, Nat.reduceLeDiff, true_and, and_true, true_or, or_true, or_self, reduceCtorEq, if_true, if_false, not_false_eq_true, eq_self, c281, C3.e2, C3.e7]
      refine sc _ _ C _ C3 S3 hk3 (by omega) (fun h4 ok4 C4 S4 => ?_) (fun h4 c4 ok4 cc4 C4 => ?_)
      · obtain ⟨g1, g2, g3⟩ := gc _ hk3
        refine go 60 (by decide) ?_
        simp only [KX, KY, KZ, KW, KV, Nat.reduceAdd, Nat.reduceSub, Nat.reduceLeDiff, true_and, and_true, true_or, or_true, or_self, reduceCtorEq, if_true, if_false, not_false_eq_true, eq_self, c281, C4.e2, C4.e7]
        refine g73 T C4 g2 (s := 41) (by decide) S4 (fun y3 _ h5 C5 S5 => ?_) (fun y3 => ?_)
        · have pb : (pIn (tq b n) (some pc3) (k + nn)) = (true, (pc3 (k + nn + 1)).2.1 + 1, (pc3 (k + nn + 1)).2.2.1, (pc3 (k + nn + 1)).2.2.2) := by rw [pin]; unfold pBr; rw [if_pos ok4, if_pos y3]
          first
            | (with_reducible show At 281 _ 43 _ _ _ _)
            | (refine go 60 (by decide) ?_; simp only [KX, KY, KZ, KW, KV, Nat.reduceAdd, Nat.reduceSub, Nat.reduceLeDiff, true_and, and_true, true_or, or_true, or_self, reduceCtorEq, if_true, if_false, not_false_eq_true, eq_self, c281, C5.e2, C5.e7])
          first
            | (with_reducible show At 281 _ 43 _ _ _ _)
            | (refine go 60 (by decide) ?_; simp only [KX, KY, KZ, KW, KV, Nat.reduceAdd, Nat.reduceSub, Nat.reduceLeDiff, true_and, and_true, true_or, or_true, or_self, reduceCtorEq, if_true, if_false, not_false_eq_true, eq_self, c281, C5.e2, C5.e7])
          first
            | (with_reducible show At 281 _ 43 _ _ _ _)
            | (refine go 60 (by decide) ?_; simp only [KX, KY, KZ, KW, KV, Nat.reduceAdd, Nat.reduceSub, Nat.reduceLeDiff, true_and, and_true, true_or, or_true, or_self, reduceCtorEq, if_true, if_false, not_false_eq_true, eq_self, c281, C5.e2, C5.e7])
          exact F1 _ (by rw [pb]) (by rw [pb]; exact C5) (by rw [pb]; exact S5)
        · have pb : (pIn (tq b n) (some pc3) (k + nn)) = (false, (pc3 (k + nn + 1)).2.1, (pc3 (k + nn + 1)).2.2.1, (pc3 (k + nn + 1)).2.2.2) := by rw [pin]; unfold pBr; rw [if_pos ok4, if_neg y3]
          first
            | (with_reducible show At 281 _ 43 _ _ _ _)
            | (refine go 60 (by decide) ?_; simp only [KX, KY, KZ, KW, KV, Nat.reduceAdd, Nat.reduceSub, Nat.reduceLeDiff, true_and, and_true, true_or, or_true, or_self, reduceCtorEq, if_true, if_false, not_false_eq_true, eq_self, c281, C4.e2, C4.e7])
          first
            | (with_reducible show At 281 _ 43 _ _ _ _)
            | (refine go 60 (by decide) ?_; simp only [KX, KY, KZ, KW, KV, Nat.reduceAdd, Nat.reduceSub, Nat.reduceLeDiff, true_and, and_true, true_or, or_true, or_self, reduceCtorEq, if_true, if_false, not_false_eq_true, eq_self, c281, C4.e2, C4.e7])
          first
            | (with_reducible show At 281 _ 43 _ _ _ _)
            | (refine go 60 (by decide) ?_; simp only [KX, KY, KZ, KW, KV, Nat.reduceAdd, Nat.reduceSub, Nat.reduceLeDiff, true_and, and_true, true_or, or_true, or_self, reduceCtorEq, if_true, if_false, not_false_eq_true, eq_self, c281, C4.e2, C4.e7])
          exact F0 _ (C.length + (pc3 (k + nn + 1)).2.2.1.length) (by rw [pb]) (by have := g3; omega) (by rw [pb]; exact C4)
      · have pb : (pIn (tq b n) (some pc3) (k + nn)) = (pc3 (k + nn + 1)) := by rw [pin]; unfold pBr; rw [if_neg (by rw [ok4]; decide)]
        first
          | (with_reducible show At 281 _ 43 _ _ _ _)
          | (refine go 60 (by decide) ?_; simp only [KX, KY, KZ, KW, KV, Nat.reduceAdd, Nat.reduceSub, Nat.reduceLeDiff, true_and, and_true, true_or, or_true, or_self, reduceCtorEq, if_true, if_false, not_false_eq_true, eq_self, c281, C4.e2, C4.e7])
        first
          | (with_reducible show At 281 _ 43 _ _ _ _)
          | (refine go 60 (by decide) ?_; simp only [KX, KY, KZ, KW, KV, Nat.reduceAdd, Nat.reduceSub, Nat.reduceLeDiff, true_and, and_true, true_or, or_true, or_self, reduceCtorEq, if_true, if_false, not_false_eq_true, eq_self, c281, C4.e2, C4.e7])
        first
          | (with_reducible show At 281 _ 43 _ _ _ _)
          | (refine go 60 (by decide) ?_; simp only [KX, KY, KZ, KW, KV, Nat.reduceAdd, Nat.reduceSub, Nat.reduceLeDiff, true_and, and_true, true_or, or_true, or_self, reduceCtorEq, if_true, if_false, not_false_eq_true, eq_self, c281, C4.e2, C4.e7])
        exact F0 _ c4 (by rw [pb]; exact ok4) cc4 (by rw [pb]; exact C4)
    · have pin : (pIn (tq b n) (some pc3) (k + nn)) = pCmp (tq b n) (k + nn) := if_neg y
      refine go 60 (by decide) ?_
      simp only [KX, KY, KZ, KW, KV, Nat.reduceAdd, Nat.reduceSub, Nat.reduceLeDiff, true_and, and_true, true_or, or_true, or_self, reduceCtorEq, if_true, if_false, not_false_eq_true, eq_self, c281, C2.e2, C2.e7]
      refine s79 T _ _ C _ C2 S2 hk2 (by omega) (fun h3 ok3 C3 S3 => ?_) (fun h3 c3 ok3 cc C3 => ?_)
      · rw [← pin] at ok3 C3 S3
        refine go 60 (by decide) ?_
        simp only [KX, KY, KZ, KW, KV, Nat.reduceAdd, Nat.reduceSub, Nat.reduceLeDiff, true_and, and_true, true_or, or_true, or_self, reduceCtorEq, if_true, if_false, not_false_eq_true, eq_self, c281, C3.e2, C3.e7]
        have pe : pOne (tq b n) (some pc3) k = pNot nn (pIn (tq b n) (some pc3) (k + nn)) := by show pNot _ _ = _; rw [en]
        by_cases pr : nn % 2 = 1
        · rw [if_neg (show ¬ nI (nn % 2) = 0 by rw [pr]; decide)]
          refine g55 C3 S3 seg_len.symm (by omega) (fun h5 C5 S5 => ?_)
          refine go 60 (by decide) ?_
          simp only [KX, KY, KZ, KW, KV, Nat.reduceAdd, Nat.reduceSub, Nat.reduceLeDiff, true_and, and_true, true_or, or_true, or_self, reduceCtorEq, if_true, if_false, not_false_eq_true, eq_self, c281, C5.e2, C5.e7]
          first
            | exact kT _ (by rw [pe]; exact ok3) (by rw [pe]; show CP hb n cl _ (pIn (tq b n) (some pc3) (k + nn)).2.1 (C.length + ((pIn (tq b n) (some pc3) (k + nn)).2.2.1 ++ (if nn % 2 = 1 then [tkN] else [])).length); rw [if_pos pr, List.length_append]; exact C5) (by rw [pe]; show seg _ 0 (C ++ ((pIn (tq b n) (some pc3) (k + nn)).2.2.1 ++ (if nn % 2 = 1 then [tkN] else [])).map tc); rw [if_pos pr, ← SPC.one_end]; exact S5)
            | exact ⟨Or.inl rfl, kT _ (by rw [pe]; exact ok3) (by rw [pe]; show CP hb n cl _ (pIn (tq b n) (some pc3) (k + nn)).2.1 (C.length + ((pIn (tq b n) (some pc3) (k + nn)).2.2.1 ++ (if nn % 2 = 1 then [tkN] else [])).length); rw [if_pos pr, List.length_append]; exact C5) (by rw [pe]; show seg _ 0 (C ++ ((pIn (tq b n) (some pc3) (k + nn)).2.2.1 ++ (if nn % 2 = 1 then [tkN] else [])).map tc); rw [if_pos pr, ← SPC.one_end]; exact S5)⟩
            | exact ⟨Or.inr rfl, kT _ (by rw [pe]; exact ok3) (by rw [pe]; show CP hb n cl _ (pIn (tq b n) (some pc3) (k + nn)).2.1 (C.length + ((pIn (tq b n) (some pc3) (k + nn)).2.2.1 ++ (if nn % 2 = 1 then [tkN] else [])).length); rw [if_pos pr, List.length_append]; exact C5) (by rw [pe]; show seg _ 0 (C ++ ((pIn (tq b n) (some pc3) (k + nn)).2.2.1 ++ (if nn % 2 = 1 then [tkN] else [])).map tc); rw [if_pos pr, ← SPC.one_end]; exact S5)⟩
        · rw [if_pos (show nI (nn % 2) = 0 by rw [show nn % 2 = 0 by omega]; rfl)]
          first
            | exact kT _ (by rw [pe]; exact ok3) (by rw [pe]; show CP hb n cl _ (pIn (tq b n) (some pc3) (k + nn)).2.1 (C.length + ((pIn (tq b n) (some pc3) (k + nn)).2.2.1 ++ (if nn % 2 = 1 then [tkN] else [])).length); rw [if_neg pr, List.append_nil]; exact C3) (by rw [pe]; show seg _ 0 (C ++ ((pIn (tq b n) (some pc3) (k + nn)).2.2.1 ++ (if nn % 2 = 1 then [tkN] else [])).map tc); rw [if_neg pr, List.append_nil]; exact S3)
            | exact ⟨Or.inl rfl, kT _ (by rw [pe]; exact ok3) (by rw [pe]; show CP hb n cl _ (pIn (tq b n) (some pc3) (k + nn)).2.1 (C.length + ((pIn (tq b n) (some pc3) (k + nn)).2.2.1 ++ (if nn % 2 = 1 then [tkN] else [])).length); rw [if_neg pr, List.append_nil]; exact C3) (by rw [pe]; show seg _ 0 (C ++ ((pIn (tq b n) (some pc3) (k + nn)).2.2.1 ++ (if nn % 2 = 1 then [tkN] else [])).map tc); rw [if_neg pr, List.append_nil]; exact S3)⟩
            | exact ⟨Or.inr rfl, kT _ (by rw [pe]; exact ok3) (by rw [pe]; show CP hb n cl _ (pIn (tq b n) (some pc3) (k + nn)).2.1 (C.length + ((pIn (tq b n) (some pc3) (k + nn)).2.2.1 ++ (if nn % 2 = 1 then [tkN] else [])).length); rw [if_neg pr, List.append_nil]; exact C3) (by rw [pe]; show seg _ 0 (C ++ ((pIn (tq b n) (some pc3) (k + nn)).2.2.1 ++ (if nn % 2 = 1 then [tkN] else [])).map tc); rw [if_neg pr, List.append_nil]; exact S3)⟩
      · rw [← pin] at ok3 C3
        refine go 60 (by decide) ?_
        simp only [KX, KY, KZ, KW, KV, Nat.reduceAdd, Nat.reduceSub, Nat.reduceLeDiff, true_and, and_true, true_or, or_true, or_self, reduceCtorEq, if_true, if_false, not_false_eq_true, eq_self, c281, C3.e2, C3.e7]
        have pe : pOne (tq b n) (some pc3) k = pNot nn (pIn (tq b n) (some pc3) (k + nn)) := by show pNot _ _ = _; rw [en]
        have pl : (pOne (tq b n) (some pc3) k).2.1 = (pIn (tq b n) (some pc3) (k + nn)).2.1 := by rw [pe]; rfl
        by_cases pr : nn % 2 = 1
        · rw [if_neg (show ¬ nI (nn % 2) = 0 by rw [pr]; decide)]
          refine f55 C3 cc (fun h5 c5 cc5 C5 => ?_)
          refine go 60 (by decide) ?_
          simp only [KX, KY, KZ, KW, KV, Nat.reduceAdd, Nat.reduceSub, Nat.reduceLeDiff, true_and, and_true, true_or, or_true, or_self, reduceCtorEq, if_true, if_false, not_false_eq_true, eq_self, c281, C5.e2, C5.e7]
          first
            | exact kF _ _ (by rw [pe]; exact ok3) cc5 (by rw [pl]; exact C5)
            | exact ⟨Or.inl rfl, kF _ _ (by rw [pe]; exact ok3) cc5 (by rw [pl]; exact C5)⟩
            | exact ⟨Or.inr rfl, kF _ _ (by rw [pe]; exact ok3) cc5 (by rw [pl]; exact C5)⟩
        · rw [if_pos (show nI (nn % 2) = 0 by rw [show nn % 2 = 0 by omega]; rfl)]
          first
            | exact kF _ _ (by rw [pe]; exact ok3) cc (by rw [pl]; exact C3)
            | exact ⟨Or.inl rfl, kF _ _ (by rw [pe]; exact ok3) cc (by rw [pl]; exact C3)⟩
            | exact ⟨Or.inr rfl, kF _ _ (by rw [pe]; exact ok3) cc (by rw [pl]; exact C3)⟩
  have lp : ∀ f i h2, i + f = 200 → nots (tq b n) 200 k = i + nots (tq b n) f (k + i) → k + i ≤ K → CP hb n cl h2 (k + i) C.length → seg (ai h2 10) 0 C → At 281 Q 4 (0, 0) [some (.ref 2), some (.int 2), some (.int (nI (i % 2))), some (.int (nI i))] [] h2 := by
    intro f
    induction f with
    | zero =>
      intro i h2 ei en ik C2 S2
      obtain rfl : i = 200 := by omega
      refine go 60 (by decide) ?_
      simp only [KX, KY, KZ, KW, KV, Nat.reduceAdd, Nat.reduceSub, Nat.reduceLeDiff, true_and, and_true, true_or, or_true, or_self, reduceCtorEq, if_true, if_false, not_false_eq_true, eq_self, c281, C2.e2, C2.e7]
      rw [if_neg (show ¬ nI 200 < (200 : Int32) from nI_nlt (Nat.le_refl _) (by decide))]
      exact R19 200 h2 en C2 S2
    | succ f ih =>
      intro i h2 ei en ik C2 S2
      have en : nots (tq b n) 200 k = i + if tq b n (k + i) = 262 then 1 + nots (tq b n) f (k + i + 1) else 0 := en
      refine go 60 (by decide) ?_
      simp only [KX, KY, KZ, KW, KV, Nat.reduceAdd, Nat.reduceSub, Nat.reduceLeDiff, true_and, and_true, true_or, or_true, or_self, reduceCtorEq, if_true, if_false, not_false_eq_true, eq_self, c281, C2.e2, C2.e7]
      rw [if_pos (show nI i < (200 : Int32) from nI_lt (b := 200) (by omega) (by decide))]
      refine g73 T C2 ik (s := 262) (by decide) S2 (fun y ik3 h3 C3 S3 => ?_) (fun y => ?_)
      · rw [if_pos y] at en
        have ih2 := ih (i + 1) h3 (by omega) (by rw [en, ← Nat.add_assoc, ← Nat.add_assoc]) ik3 C3 S3
        refine go 60 (by decide) ?_
        simp only [KX, KY, KZ, KW, KV, Nat.reduceAdd, Nat.reduceSub, Nat.reduceLeDiff, true_and, and_true, true_or, or_true, or_self, reduceCtorEq, if_true, if_false, not_false_eq_true, eq_self, c281, C3.e2, C3.e7]
        rcases (show i % 2 = 0 ∨ i % 2 = 1 by omega) with pr | pr
        · rw [show (i + 1) % 2 = 1 by omega] at ih2
          rw [if_pos (show nI (i % 2) = 0 by rw [pr]; rfl)]
          first
            | (with_reducible show At 281 _ 4 _ _ _ _)
            | (refine go 60 (by decide) ?_; simp only [KX, KY, KZ, KW, KV, Nat.reduceAdd, Nat.reduceSub, Nat.reduceLeDiff, true_and, and_true, true_or, or_true, or_self, reduceCtorEq, if_true, if_false, not_false_eq_true, eq_self, c281, C3.e2, C3.e7])
          first
            | (with_reducible show At 281 _ 4 _ _ _ _)
            | (refine go 60 (by decide) ?_; simp only [KX, KY, KZ, KW, KV, Nat.reduceAdd, Nat.reduceSub, Nat.reduceLeDiff, true_and, and_true, true_or, or_true, or_self, reduceCtorEq, if_true, if_false, not_false_eq_true, eq_self, c281, C3.e2, C3.e7])
          first
            | (with_reducible show At 281 _ 4 _ _ _ _)
            | (refine go 60 (by decide) ?_; simp only [KX, KY, KZ, KW, KV, Nat.reduceAdd, Nat.reduceSub, Nat.reduceLeDiff, true_and, and_true, true_or, or_true, or_self, reduceCtorEq, if_true, if_false, not_false_eq_true, eq_self, c281, C3.e2, C3.e7])
          rw [nI_1 i]
          exact At_le ih2 ⟨rfl, rfl, rfl, rfl, trivial⟩
        · rw [show (i + 1) % 2 = 0 by omega] at ih2
          rw [if_neg (show ¬ nI (i % 2) = 0 by rw [pr]; decide)]
          first
            | (with_reducible show At 281 _ 4 _ _ _ _)
            | (refine go 60 (by decide) ?_; simp only [KX, KY, KZ, KW, KV, Nat.reduceAdd, Nat.reduceSub, Nat.reduceLeDiff, true_and, and_true, true_or, or_true, or_self, reduceCtorEq, if_true, if_false, not_false_eq_true, eq_self, c281, C3.e2, C3.e7])
          first
            | (with_reducible show At 281 _ 4 _ _ _ _)
            | (refine go 60 (by decide) ?_; simp only [KX, KY, KZ, KW, KV, Nat.reduceAdd, Nat.reduceSub, Nat.reduceLeDiff, true_and, and_true, true_or, or_true, or_self, reduceCtorEq, if_true, if_false, not_false_eq_true, eq_self, c281, C3.e2, C3.e7])
          first
            | (with_reducible show At 281 _ 4 _ _ _ _)
            | (refine go 60 (by decide) ?_; simp only [KX, KY, KZ, KW, KV, Nat.reduceAdd, Nat.reduceSub, Nat.reduceLeDiff, true_and, and_true, true_or, or_true, or_self, reduceCtorEq, if_true, if_false, not_false_eq_true, eq_self, c281, C3.e2, C3.e7])
          rw [nI_1 i]
          exact At_le ih2 ⟨rfl, rfl, rfl, rfl, trivial⟩
      · rw [if_neg y, Nat.add_zero] at en
        refine go 60 (by decide) ?_
        simp only [KX, KY, KZ, KW, KV, Nat.reduceAdd, Nat.reduceSub, Nat.reduceLeDiff, true_and, and_true, true_or, or_true, or_self, reduceCtorEq, if_true, if_false, not_false_eq_true, eq_self, c281, C2.e2, C2.e7]
        exact R19 i h2 en C2 S2
  refine ma_enter (m := 281) (Or.inl (by decide)) (by show 2 ≤ mt_n 281; decide +kernel) ?_
  show At 281 Q 0 (mt_c 281) [some (.ref 2), some (.int 2), none, none] [] hh
  refine go 60 (by decide) ?_
  simp only [KX, KY, KZ, KW, KV, Nat.reduceAdd, Nat.reduceSub, Nat.reduceLeDiff, true_and, and_true, true_or, or_true, or_self, reduceCtorEq, if_true, if_false, not_false_eq_true, eq_self, c281, CC.e2, CC.e7]
  exact lp 200 0 hh rfl (by rw [Nat.zero_add]; rfl) hk CC S
theorem sOne1 {hb : ma_H} {b : Nat → Nat} {n K cl : Nat} (T : TS hb b n K) {pc2 : Nat → PR} (gc : PG (tq b n) K pc2) (sc : SPC hb b n K cl 279 [.int 2] pc2) : SPC hb b n K cl 278 [.int 1] (pOne (tq b n) (some pc2)) := by
  intro hh k C Q CC S hk lc kT kF
  have K2 := T.1
  have R19 : ∀ nn h2, nots (tq b n) 200 k = nn → CP hb n cl h2 (k + nn) C.length → seg (ai h2 10) 0 C → ma_X 71 [.ref 2, .int 40] h2 (fun v h3 => At 278 Q 22 (0, 0) [some (.ref 2), some (.int 1), some (.int (nI (nn % 2))), some (.int (nI nn))] (v.toList ++ []) h3) := by
    intro nn h2 en C2 S2
    have hk2 : k + nn ≤ K := by rw [← en]; exact nots_ok (tq_K T) 200 k hk
    obtain ⟨w1, w2, w3⟩ := pIn_ok (q := tq b n) (tq_K T) (cnd := (some pc2)) (fun c z => by cases z; exact gc) _ hk2
    have F1 : ∀ h3, (pIn (tq b n) (some pc2) (k + nn)).1 = true → CP hb n cl h3 (pIn (tq b n) (some pc2) (k + nn)).2.1 (C.length + (pIn (tq b n) (some pc2) (k + nn)).2.2.1.length) → seg (ai h3 10) 0 (C ++ (pIn (tq b n) (some pc2) (k + nn)).2.2.1.map tc) → At 278 Q 43 (0, 0) [some (.ref 2), some (.int 1), some (.int (nI (nn % 2))), some (.int (nI nn))] [.int 1] h3 := by
      intro h3 ok3 C3 S3
      refine go 60 (by decide) ?_
      simp only [KX, KY, KZ, KW, KV, Nat.reduceAdd, Nat.reduceSub, Nat.reduceLeDiff, true_and, and_true, true_or, or_true, or_self, reduceCtorEq, if_true, if_false, not_false_eq_true, eq_self, c278, C3.e2, C3.e7]
      have pe : pOne (tq b n) (some pc2) k = pNot nn (pIn (tq b n) (some pc2) (k + nn)) := by show pNot _ _ = _; rw [en]
      by_cases pr : nn % 2 = 1
      · rw [if_neg (show ¬ nI (nn % 2) = 0 by rw [pr]; decide)]
        refine g55 C3 S3 seg_len.symm (by omega) (fun h5 C5 S5 => ?_)
        refine go 60 (by decide) ?_
        simp only [KX, KY, KZ, KW, KV, Nat.reduceAdd, Nat.reduceSub, Nat.reduceLeDiff, true_and, and_true, true_or, or_true, or_self, reduceCtorEq, if_true, if_false, not_false_eq_true, eq_self, c278, C5.e2, C5.e7]
        first
          | exact kT _ (by rw [pe]; exact ok3) (by rw [pe]; show CP hb n cl _ (pIn (tq b n) (some pc2) (k + nn)).2.1 (C.length + ((pIn (tq b n) (some pc2) (k + nn)).2.2.1 ++ (if nn % 2 = 1 then [tkN] else [])).length); rw [if_pos pr, List.length_append]; exact C5) (by rw [pe]; show seg _ 0 (C ++ ((pIn (tq b n) (some pc2) (k + nn)).2.2.1 ++ (if nn % 2 = 1 then [tkN] else [])).map tc); rw [if_pos pr, ← SPC.one_end]; exact S5)
          | exact ⟨Or.inl rfl, kT _ (by rw [pe]; exact ok3) (by rw [pe]; show CP hb n cl _ (pIn (tq b n) (some pc2) (k + nn)).2.1 (C.length + ((pIn (tq b n) (some pc2) (k + nn)).2.2.1 ++ (if nn % 2 = 1 then [tkN] else [])).length); rw [if_pos pr, List.length_append]; exact C5) (by rw [pe]; show seg _ 0 (C ++ ((pIn (tq b n) (some pc2) (k + nn)).2.2.1 ++ (if nn % 2 = 1 then [tkN] else [])).map tc); rw [if_pos pr, ← SPC.one_end]; exact S5)⟩
          | exact ⟨Or.inr rfl, kT _ (by rw [pe]; exact ok3) (by rw [pe]; show CP hb n cl _ (pIn (tq b n) (some pc2) (k + nn)).2.1 (C.length + ((pIn (tq b n) (some pc2) (k + nn)).2.2.1 ++ (if nn % 2 = 1 then [tkN] else [])).length); rw [if_pos pr, List.length_append]; exact C5) (by rw [pe]; show seg _ 0 (C ++ ((pIn (tq b n) (some pc2) (k + nn)).2.2.1 ++ (if nn % 2 = 1 then [tkN] else [])).map tc); rw [if_pos pr, ← SPC.one_end]; exact S5)⟩
      · rw [if_pos (show nI (nn % 2) = 0 by rw [show nn % 2 = 0 by omega]; rfl)]
        first
          | exact kT _ (by rw [pe]; exact ok3) (by rw [pe]; show CP hb n cl _ (pIn (tq b n) (some pc2) (k + nn)).2.1 (C.length + ((pIn (tq b n) (some pc2) (k + nn)).2.2.1 ++ (if nn % 2 = 1 then [tkN] else [])).length); rw [if_neg pr, List.append_nil]; exact C3) (by rw [pe]; show seg _ 0 (C ++ ((pIn (tq b n) (some pc2) (k + nn)).2.2.1 ++ (if nn % 2 = 1 then [tkN] else [])).map tc); rw [if_neg pr, List.append_nil]; exact S3)
          | exact ⟨Or.inl rfl, kT _ (by rw [pe]; exact ok3) (by rw [pe]; show CP hb n cl _ (pIn (tq b n) (some pc2) (k + nn)).2.1 (C.length + ((pIn (tq b n) (some pc2) (k + nn)).2.2.1 ++ (if nn % 2 = 1 then [tkN] else [])).length); rw [if_neg pr, List.append_nil]; exact C3) (by rw [pe]; show seg _ 0 (C ++ ((pIn (tq b n) (some pc2) (k + nn)).2.2.1 ++ (if nn % 2 = 1 then [tkN] else [])).map tc); rw [if_neg pr, List.append_nil]; exact S3)⟩
          | exact ⟨Or.inr rfl, kT _ (by rw [pe]; exact ok3) (by rw [pe]; show CP hb n cl _ (pIn (tq b n) (some pc2) (k + nn)).2.1 (C.length + ((pIn (tq b n) (some pc2) (k + nn)).2.2.1 ++ (if nn % 2 = 1 then [tkN] else [])).length); rw [if_neg pr, List.append_nil]; exact C3) (by rw [pe]; show seg _ 0 (C ++ ((pIn (tq b n) (some pc2) (k + nn)).2.2.1 ++ (if nn % 2 = 1 then [tkN] else [])).map tc); rw [if_neg pr, List.append_nil]; exact S3)⟩
    have F0 : ∀ h3 c3, (pIn (tq b n) (some pc2) (k + nn)).1 = false → c3 ≤ 200 → CP hb n cl h3 (pIn (tq b n) (some pc2) (k + nn)).2.1 c3 → At 278 Q 43 (0, 0) [some (.ref 2), some (.int 1), some (.int (nI (nn % 2))), some (.int (nI nn))] [.int 0] h3 := by
      intro h3 c3 ok3 cc C3
      refine go 60 (by decide) ?_
      simp only [KX, KY, KZ, KW, KV, Nat.reduceAdd, Nat.reduceSub, Nat.reduceLeDiff, true_and, and_true, true_or, or_true, or_self, reduceCtorEq, if_true, if_false, not_false_eq_true, eq_self, c278, C3.e2, C3.e7]
      have pe : pOne (tq b n) (some pc2) k = pNot nn (pIn (tq b n) (some pc2) (k + nn)) := by show pNot _ _ = _; rw [en]
      have pl : (pOne (tq b n) (some pc2) k).2.1 = (pIn (tq b n) (some pc2) (k + nn)).2.1 := by rw [pe]; rfl
      by_cases pr : nn % 2 = 1
      · rw [if_neg (show ¬ nI (nn % 2) = 0 by rw [pr]; decide)]
        refine f55 C3 cc (fun h5 c5 cc5 C5 => ?_)
        refine go 60 (by decide) ?_
        simp only [KX, KY, KZ, KW, KV, Nat.reduceAdd, Nat.reduceSub, Nat.reduceLeDiff, true_and, and_true, true_or, or_true, or_self, reduceCtorEq, if_true, if_false, not_false_eq_true, eq_self, c278, C5.e2, C5.e7]
        first
          | exact kF _ _ (by rw [pe]; exact ok3) cc5 (by rw [pl]; exact C5)
          | exact ⟨Or.inl rfl, kF _ _ (by rw [pe]; exact ok3) cc5 (by rw [pl]; exact C5)⟩
          | exact ⟨Or.inr rfl, kF _ _ (by rw [pe]; exact ok3) cc5 (by rw [pl]; exact C5)⟩
      · rw [if_pos (show nI (nn % 2) = 0 by rw [show nn % 2 = 0 by omega]; rfl)]
        first
          | exact kF _ _ (by rw [pe]; exact ok3) cc (by rw [pl]; exact C3)
          | exact ⟨Or.inl rfl, kF _ _ (by rw [pe]; exact ok3) cc (by rw [pl]; exact C3)⟩
          | exact ⟨Or.inr rfl, kF _ _ (by rw [pe]; exact ok3) cc (by rw [pl]; exact C3)⟩
    refine g71 T C2 hk2 (s := 40) (by decide) (fun y => ?_) (fun y => ?_)
    · have pin : (pIn (tq b n) (some pc2) (k + nn)) = pBr (tq b n) (pc2 (k + nn + 1)) := if_pos y
      refine go 60 (by decide) ?_
      simp only [KX, KY, KZ, KW, KV, Nat.reduceAdd, Nat.reduceSub, Nat.reduceLeDiff, true_and, and_true, true_or, or_true, or_self, reduceCtorEq, if_true, if_false, not_false_eq_true, eq_self, c278, C2.e2, C2.e7]
      refine g73 T C2 hk2 (s := 40) (by decide) S2 (fun _ hk3 h3 C3 S3 => ?_) (fun y2 => absurd y y2)
      refine go 60 (by decide) ?_
      simp only [KX, KY, KZ, KW, KV, Nat.reduceAdd, Nat.reduceSub, Nat.reduceLeDiff, true_and, and_true, true_or, or_true, or_self, reduceCtorEq, if_true, if_false, not_false_eq_true, eq_self, c278, C3.e2, C3.e7]
      refine sc _ _ C _ C3 S3 hk3 (by omega) (fun h4 ok4 C4 S4 => ?_) (fun h4 c4 ok4 cc4 C4 => ?_)
      · obtain ⟨g1, g2, g3⟩ := gc _ hk3
        refine go 60 (by decide) ?_
        simp only [KX, KY, KZ, KW, KV, Nat.reduceAdd, Nat.reduceSub, Nat.reduceLeDiff, true_and, and_true, true_or, or_true, or_self, reduceCtorEq, if_true, if_false, not_false_eq_true, eq_self, c278, C4.e2, C4.e7]
        refine g73 T C4 g2 (s := 41) (by decide) S4 (fun y3 _ h5 C5 S5 => ?_) (fun y3 => ?_)
        · have pb : (pIn (tq b n) (some pc2) (k + nn)) = (true, (pc2 (k + nn + 1)).2.1 + 1, (pc2 (k + nn + 1)).2.2.1, (pc2 (k + nn + 1)).2.2.2) := by rw [pin]; unfold pBr; rw [if_pos ok4, if_pos y3]
          first
            | (with_reducible show At 278 _ 43 _ _ _ _)
            | (refine go 60 (by decide) ?_; simp only [KX, KY, KZ, KW, KV, Nat.reduceAdd, Nat.reduceSub, Nat.reduceLeDiff, true_and, and_true, true_or, or_true, or_self, reduceCtorEq, if_true, if_false, not_false_eq_true, eq_self, c278, C5.e2, C5.e7])
          first
            | (with_reducible show At 278 _ 43 _ _ _ _)
            | (refine go 60 (by decide) ?_; simp only [KX, KY, KZ, KW, KV, Nat.reduceAdd, Nat.reduceSub, Nat.reduceLeDiff, true_and, and_true, true_or, or_true, or_self, reduceCtorEq, if_true, if_false, not_false_eq_true, eq_self, c278, C5.e2, C5.e7])
          first
            | (with_reducible show At 278 _ 43 _ _ _ _)
            | (refine go 60 (by decide) ?_; simp only [KX, KY, KZ, KW, KV, Nat.reduceAdd, Nat.reduceSub, Nat.reduceLeDiff, true_and, and_true, true_or, or_true, or_self, reduceCtorEq, if_true, if_false, not_false_eq_true, eq_self, c278, C5.e2, C5.e7])
          exact F1 _ (by rw [pb]) (by rw [pb]; exact C5) (by rw [pb]; exact S5)
        · have pb : (pIn (tq b n) (some pc2) (k + nn)) = (false, (pc2 (k + nn + 1)).2.1, (pc2 (k + nn + 1)).2.2.1, (pc2 (k + nn + 1)).2.2.2) := by rw [pin]; unfold pBr; rw [if_pos ok4, if_neg y3]
          first
            | (with_reducible show At 278 _ 43 _ _ _ _)
            | (refine go 60 (by decide) ?_; simp only [KX, KY, KZ, KW, KV, Nat.reduceAdd, Nat.reduceSub, Nat.reduceLeDiff, true_and, and_true, true_or, or_true, or_self, reduceCtorEq, if_true, if_false, not_false_eq_true, eq_self, c278, C4.e2, C4.e7])
          first
            | (with_reducible show At 278 _ 43 _ _ _ _)
            | (refine go 60 (by decide) ?_; simp only [KX, KY, KZ, KW, KV, Nat.reduceAdd, Nat.reduceSub, Nat.reduceLeDiff, true_and, and_true, true_or, or_true, or_self, reduceCtorEq, if_true, if_false, not_false_eq_true, eq_self, c278, C4.e2, C4.e7])
          first
            | (with_reducible show At 278 _ 43 _ _ _ _)
            | (refine go 60 (by decide) ?_; simp only [KX, KY, KZ, KW, KV, Nat.reduceAdd, Nat.reduceSub, Nat.reduceLeDiff, true_and, and_true, true_or, or_true, or_self, reduceCtorEq, if_true, if_false, not_false_eq_true, eq_self, c278, C4.e2, C4.e7])
          exact F0 _ (C.length + (pc2 (k + nn + 1)).2.2.1.length) (by rw [pb]) (by have := g3; omega) (by rw [pb]; exact C4)
      · have pb : (pIn (tq b n) (some pc2) (k + nn)) = (pc2 (k + nn + 1)) := by rw [pin]; unfold pBr; rw [if_neg (by rw [ok4]; decide)]
        first
          | (with_reducible show At 278 _ 43 _ _ _ _)
          | (refine go 60 (by decide) ?_; simp only [KX, KY, KZ, KW, KV, Nat.reduceAdd, Nat.reduceSub, Nat.reduceLeDiff, true_and, and_true, true_or, or_true, or_self, reduceCtorEq, if_true, if_false, not_false_eq_true, eq_self, c278, C4.e2, C4.e7])
        first
          | (with_reducible show At 278 _ 43 _ _ _ _)
          | (refine go 60 (by decide) ?_; simp only [KX, KY, KZ, KW, KV, Nat.reduceAdd, Nat.reduceSub, Nat.reduceLeDiff, true_and, and_true, true_or, or_true, or_self, reduceCtorEq, if_true, if_false, not_false_eq_true, eq_self, c278, C4.e2, C4.e7])
        first
          | (with_reducible show At 278 _ 43 _ _ _ _)
          | (refine go 60 (by decide) ?_; simp only [KX, KY, KZ, KW, KV, Nat.reduceAdd, Nat.reduceSub, Nat.reduceLeDiff, true_and, and_true, true_or, or_true, or_self, reduceCtorEq, if_true, if_false, not_false_eq_true, eq_self, c278, C4.e2, C4.e7])
        exact F0 _ c4 (by rw [pb]; exact ok4) cc4 (by rw [pb]; exact C4)
    · have pin : (pIn (tq b n) (some pc2) (k + nn)) = pCmp (tq b n) (k + nn) := if_neg y
      refine go 60 (by decide) ?_
      simp only [KX, KY, KZ, KW, KV, Nat.reduceAdd, Nat.reduceSub, Nat.reduceLeDiff, true_and, and_true, true_or, or_true, or_self, reduceCtorEq, if_true, if_false, not_false_eq_true, eq_self, c278, C2.e2, C2.e7]
      refine s79 T _ _ C _ C2 S2 hk2 (by omega) (fun h3 ok3 C3 S3 => ?_) (fun h3 c3 ok3 cc C3 => ?_)
      · rw [← pin] at ok3 C3 S3
        refine go 60 (by decide) ?_
        simp only [KX, KY, KZ, KW, KV, Nat.reduceAdd, Nat.reduceSub, Nat.reduceLeDiff, true_and, and_true, true_or, or_true, or_self, reduceCtorEq, if_true, if_false, not_false_eq_true, eq_self, c278, C3.e2, C3.e7]
        have pe : pOne (tq b n) (some pc2) k = pNot nn (pIn (tq b n) (some pc2) (k + nn)) := by show pNot _ _ = _; rw [en]
        by_cases pr : nn % 2 = 1
        · rw [if_neg (show ¬ nI (nn % 2) = 0 by rw [pr]; decide)]
          refine g55 C3 S3 seg_len.symm (by omega) (fun h5 C5 S5 => ?_)
          refine go 60 (by decide) ?_
          simp only [KX, KY, KZ, KW, KV, Nat.reduceAdd, Nat.reduceSub, Nat.reduceLeDiff, true_and, and_true, true_or, or_true, or_self, reduceCtorEq, if_true, if_false, not_false_eq_true, eq_self, c278, C5.e2, C5.e7]
          first
            | exact kT _ (by rw [pe]; exact ok3) (by rw [pe]; show CP hb n cl _ (pIn (tq b n) (some pc2) (k + nn)).2.1 (C.length + ((pIn (tq b n) (some pc2) (k + nn)).2.2.1 ++ (if nn % 2 = 1 then [tkN] else [])).length); rw [if_pos pr, List.length_append]; exact C5) (by rw [pe]; show seg _ 0 (C ++ ((pIn (tq b n) (some pc2) (k + nn)).2.2.1 ++ (if nn % 2 = 1 then [tkN] else [])).map tc); rw [if_pos pr, ← SPC.one_end]; exact S5)
            | exact ⟨Or.inl rfl, kT _ (by rw [pe]; exact ok3) (by rw [pe]; show CP hb n cl _ (pIn (tq b n) (some pc2) (k + nn)).2.1 (C.length + ((pIn (tq b n) (some pc2) (k + nn)).2.2.1 ++ (if nn % 2 = 1 then [tkN] else [])).length); rw [if_pos pr, List.length_append]; exact C5) (by rw [pe]; show seg _ 0 (C ++ ((pIn (tq b n) (some pc2) (k + nn)).2.2.1 ++ (if nn % 2 = 1 then [tkN] else [])).map tc); rw [if_pos pr, ← SPC.one_end]; exact S5)⟩
            | exact ⟨Or.inr rfl, kT _ (by rw [pe]; exact ok3) (by rw [pe]; show CP hb n cl _ (pIn (tq b n) (some pc2) (k + nn)).2.1 (C.length + ((pIn (tq b n) (some pc2) (k + nn)).2.2.1 ++ (if nn % 2 = 1 then [tkN] else [])).length); rw [if_pos pr, List.length_append]; exact C5) (by rw [pe]; show seg _ 0 (C ++ ((pIn (tq b n) (some pc2) (k + nn)).2.2.1 ++ (if nn % 2 = 1 then [tkN] else [])).map tc); rw [if_pos pr, ← SPC.one_end]; exact S5)⟩
        · rw [if_pos (show nI (nn % 2) = 0 by rw [show nn % 2 = 0 by omega]; rfl)]
          first
            | exact kT _ (by rw [pe]; exact ok3) (by rw [pe]; show CP hb n cl _ (pIn (tq b n) (some pc2) (k + nn)).2.1 (C.length + ((pIn (tq b n) (some pc2) (k + nn)).2.2.1 ++ (if nn % 2 = 1 then [tkN] else [])).length); rw [if_neg pr, List.append_nil]; exact C3) (by rw [pe]; show seg _ 0 (C ++ ((pIn (tq b n) (some pc2) (k + nn)).2.2.1 ++ (if nn % 2 = 1 then [tkN] else [])).map tc); rw [if_neg pr, List.append_nil]; exact S3)
            | exact ⟨Or.inl rfl, kT _ (by rw [pe]; exact ok3) (by rw [pe]; show CP hb n cl _ (pIn (tq b n) (some pc2) (k + nn)).2.1 (C.length + ((pIn (tq b n) (some pc2) (k + nn)).2.2.1 ++ (if nn % 2 = 1 then [tkN] else [])).length); rw [if_neg pr, List.append_nil]; exact C3) (by rw [pe]; show seg _ 0 (C ++ ((pIn (tq b n) (some pc2) (k + nn)).2.2.1 ++ (if nn % 2 = 1 then [tkN] else [])).map tc); rw [if_neg pr, List.append_nil]; exact S3)⟩
            | exact ⟨Or.inr rfl, kT _ (by rw [pe]; exact ok3) (by rw [pe]; show CP hb n cl _ (pIn (tq b n) (some pc2) (k + nn)).2.1 (C.length + ((pIn (tq b n) (some pc2) (k + nn)).2.2.1 ++ (if nn % 2 = 1 then [tkN] else [])).length); rw [if_neg pr, List.append_nil]; exact C3) (by rw [pe]; show seg _ 0 (C ++ ((pIn (tq b n) (some pc2) (k + nn)).2.2.1 ++ (if nn % 2 = 1 then [tkN] else [])).map tc); rw [if_neg pr, List.append_nil]; exact S3)⟩
      · rw [← pin] at ok3 C3
        refine go 60 (by decide) ?_
        simp only [KX, KY, KZ, KW, KV, Nat.reduceAdd, Nat.reduceSub, Nat.reduceLeDiff, true_and, and_true, true_or, or_true, or_self, reduceCtorEq, if_true, if_false, not_false_eq_true, eq_self, c278, C3.e2, C3.e7]
        have pe : pOne (tq b n) (some pc2) k = pNot nn (pIn (tq b n) (some pc2) (k + nn)) := by show pNot _ _ = _; rw [en]
        have pl : (pOne (tq b n) (some pc2) k).2.1 = (pIn (tq b n) (some pc2) (k + nn)).2.1 := by rw [pe]; rfl
        by_cases pr : nn % 2 = 1
        · rw [if_neg (show ¬ nI (nn % 2) = 0 by rw [pr]; decide)]
          refine f55 C3 cc (fun h5 c5 cc5 C5 => ?_)
          refine go 60 (by decide) ?_
          simp only [KX, KY, KZ, KW, KV, Nat.reduceAdd, Nat.reduceSub, Nat.reduceLeDiff, true_and, and_true, true_or, or_true, or_self, reduceCtorEq, if_true, if_false, not_false_eq_true, eq_self, c278, C5.e2, C5.e7]
          first
            | exact kF _ _ (by rw [pe]; exact ok3) cc5 (by rw [pl]; exact C5)
            | exact ⟨Or.inl rfl, kF _ _ (by rw [pe]; exact ok3) cc5 (by rw [pl]; exact C5)⟩
            | exact ⟨Or.inr rfl, kF _ _ (by rw [pe]; exact ok3) cc5 (by rw [pl]; exact C5)⟩
        · rw [if_pos (show nI (nn % 2) = 0 by rw [show nn % 2 = 0 by omega]; rfl)]
          first
            | exact kF _ _ (by rw [pe]; exact ok3) cc (by rw [pl]; exact C3)
            | exact ⟨Or.inl rfl, kF _ _ (by rw [pe]; exact ok3) cc (by rw [pl]; exact C3)⟩
            | exact ⟨Or.inr rfl, kF _ _ (by rw [pe]; exact ok3) cc (by rw [pl]; exact C3)⟩
  have lp : ∀ f i h2, i + f = 200 → nots (tq b n) 200 k = i + nots (tq b n) f (k + i) → k + i ≤ K → CP hb n cl h2 (k + i) C.length → seg (ai h2 10) 0 C → At 278 Q 4 (0, 0) [some (.ref 2), some (.int 1), some (.int (nI (i % 2))), some (.int (nI i))] [] h2 := by
    intro f
    induction f with
    | zero =>
      intro i h2 ei en ik C2 S2
      obtain rfl : i = 200 := by omega
      refine go 60 (by decide) ?_
      simp only [KX, KY, KZ, KW, KV, Nat.reduceAdd, Nat.reduceSub, Nat.reduceLeDiff, true_and, and_true, true_or, or_true, or_self, reduceCtorEq, if_true, if_false, not_false_eq_true, eq_self, c278, C2.e2, C2.e7]
      rw [if_neg (show ¬ nI 200 < (200 : Int32) from nI_nlt (Nat.le_refl _) (by decide))]
      exact R19 200 h2 en C2 S2
    | succ f ih =>
      intro i h2 ei en ik C2 S2
      have en : nots (tq b n) 200 k = i + if tq b n (k + i) = 262 then 1 + nots (tq b n) f (k + i + 1) else 0 := en
      refine go 60 (by decide) ?_
      simp only [KX, KY, KZ, KW, KV, Nat.reduceAdd, Nat.reduceSub, Nat.reduceLeDiff, true_and, and_true, true_or, or_true, or_self, reduceCtorEq, if_true, if_false, not_false_eq_true, eq_self, c278, C2.e2, C2.e7]
      rw [if_pos (show nI i < (200 : Int32) from nI_lt (b := 200) (by omega) (by decide))]
      refine g73 T C2 ik (s := 262) (by decide) S2 (fun y ik3 h3 C3 S3 => ?_) (fun y => ?_)
      · rw [if_pos y] at en
        have ih2 := ih (i + 1) h3 (by omega) (by rw [en, ← Nat.add_assoc, ← Nat.add_assoc]) ik3 C3 S3
        refine go 60 (by decide) ?_
        simp only [KX, KY, KZ, KW, KV, Nat.reduceAdd, Nat.reduceSub, Nat.reduceLeDiff, true_and, and_true, true_or, or_true, or_self, reduceCtorEq, if_true, if_false, not_false_eq_true, eq_self, c278, C3.e2, C3.e7]
        rcases (show i % 2 = 0 ∨ i % 2 = 1 by omega) with pr | pr
        · rw [show (i + 1) % 2 = 1 by omega] at ih2
          rw [if_pos (show nI (i % 2) = 0 by rw [pr]; rfl)]
          first
            | (with_reducible show At 278 _ 4 _ _ _ _)
            | (refine go 60 (by decide) ?_; simp only [KX, KY, KZ, KW, KV, Nat.reduceAdd, Nat.reduceSub, Nat.reduceLeDiff, true_and, and_true, true_or, or_true, or_self, reduceCtorEq, if_true, if_false, not_false_eq_true, eq_self, c278, C3.e2, C3.e7])
          first
            | (with_reducible show At 278 _ 4 _ _ _ _)
            | (refine go 60 (by decide) ?_; simp only [KX, KY, KZ, KW, KV, Nat.reduceAdd, Nat.reduceSub, Nat.reduceLeDiff, true_and, and_true, true_or, or_true, or_self, reduceCtorEq, if_true, if_false, not_false_eq_true, eq_self, c278, C3.e2, C3.e7])
          first
            | (with_reducible show At 278 _ 4 _ _ _ _)
            | (refine go 60 (by decide) ?_; simp only [KX, KY, KZ, KW, KV, Nat.reduceAdd, Nat.reduceSub, Nat.reduceLeDiff, true_and, and_true, true_or, or_true, or_self, reduceCtorEq, if_true, if_false, not_false_eq_true, eq_self, c278, C3.e2, C3.e7])
          rw [nI_1 i]
          exact At_le ih2 ⟨rfl, rfl, rfl, rfl, trivial⟩
        · rw [show (i + 1) % 2 = 0 by omega] at ih2
          rw [if_neg (show ¬ nI (i % 2) = 0 by rw [pr]; decide)]
          first
            | (with_reducible show At 278 _ 4 _ _ _ _)
            | (refine go 60 (by decide) ?_; simp only [KX, KY, KZ, KW, KV, Nat.reduceAdd, Nat.reduceSub, Nat.reduceLeDiff, true_and, and_true, true_or, or_true, or_self, reduceCtorEq, if_true, if_false, not_false_eq_true, eq_self, c278, C3.e2, C3.e7])
          first
            | (with_reducible show At 278 _ 4 _ _ _ _)
            | (refine go 60 (by decide) ?_; simp only [KX, KY, KZ, KW, KV, Nat.reduceAdd, Nat.reduceSub, Nat.reduceLeDiff, true_and, and_true, true_or, or_true, or_self, reduceCtorEq, if_true, if_false, not_false_eq_true, eq_self, c278, C3.e2, C3.e7])
          first
            | (with_reducible show At 278 _ 4 _ _ _ _)
            | (refine go 60 (by decide) ?_; simp only [KX, KY, KZ, KW, KV, Nat.reduceAdd, Nat.reduceSub, Nat.reduceLeDiff, true_and, and_true, true_or, or_true, or_self, reduceCtorEq, if_true, if_false, not_false_eq_true, eq_self, c278, C3.e2, C3.e7])
          rw [nI_1 i]
          exact At_le ih2 ⟨rfl, rfl, rfl, rfl, trivial⟩
      · rw [if_neg y, Nat.add_zero] at en
        refine go 60 (by decide) ?_
        simp only [KX, KY, KZ, KW, KV, Nat.reduceAdd, Nat.reduceSub, Nat.reduceLeDiff, true_and, and_true, true_or, or_true, or_self, reduceCtorEq, if_true, if_false, not_false_eq_true, eq_self, c278, C2.e2, C2.e7]
        exact R19 i h2 en C2 S2
  refine ma_enter (m := 278) (Or.inl (by decide)) (by show 2 ≤ mt_n 278; decide +kernel) ?_
  show At 278 Q 0 (mt_c 278) [some (.ref 2), some (.int 1), none, none] [] hh
  refine go 60 (by decide) ?_
  simp only [KX, KY, KZ, KW, KV, Nat.reduceAdd, Nat.reduceSub, Nat.reduceLeDiff, true_and, and_true, true_or, or_true, or_self, reduceCtorEq, if_true, if_false, not_false_eq_true, eq_self, c278, CC.e2, CC.e7]
  exact lp 200 0 hh rfl (by rw [Nat.zero_add]; rfl) hk CC S
theorem sOne0 {hb : ma_H} {b : Nat → Nat} {n K cl : Nat} (T : TS hb b n K) {pc1 : Nat → PR} (gc : PG (tq b n) K pc1) (sc : SPC hb b n K cl 276 [.int 1] pc1) : SPC hb b n K cl 78 [.int 0] (pOne (tq b n) (some pc1)) := by
  intro hh k C Q CC S hk lc kT kF
  have K2 := T.1
  have R19 : ∀ nn h2, nots (tq b n) 200 k = nn → CP hb n cl h2 (k + nn) C.length → seg (ai h2 10) 0 C → ma_X 71 [.ref 2, .int 40] h2 (fun v h3 => At 78 Q 22 (0, 0) [some (.ref 2), some (.int 0), some (.int (nI (nn % 2))), some (.int (nI nn))] (v.toList ++ []) h3) := by
    intro nn h2 en C2 S2
    have hk2 : k + nn ≤ K := by rw [← en]; exact nots_ok (tq_K T) 200 k hk
    obtain ⟨w1, w2, w3⟩ := pIn_ok (q := tq b n) (tq_K T) (cnd := (some pc1)) (fun c z => by cases z; exact gc) _ hk2
    have F1 : ∀ h3, (pIn (tq b n) (some pc1) (k + nn)).1 = true → CP hb n cl h3 (pIn (tq b n) (some pc1) (k + nn)).2.1 (C.length + (pIn (tq b n) (some pc1) (k + nn)).2.2.1.length) → seg (ai h3 10) 0 (C ++ (pIn (tq b n) (some pc1) (k + nn)).2.2.1.map tc) → At 78 Q 43 (0, 0) [some (.ref 2), some (.int 0), some (.int (nI (nn % 2))), some (.int (nI nn))] [.int 1] h3 := by
      intro h3 ok3 C3 S3
      refine go 60 (by decide) ?_
      simp only [KX, KY, KZ, KW, KV, Nat.reduceAdd, Nat.reduceSub, Nat.reduceLeDiff, true_and, and_true, true_or, or_true, or_self, reduceCtorEq, if_true, if_false, not_false_eq_true, eq_self, c78, C3.e2, C3.e7]
      have pe : pOne (tq b n) (some pc1) k = pNot nn (pIn (tq b n) (some pc1) (k + nn)) := by show pNot _ _ = _; rw [en]
      by_cases pr : nn % 2 = 1
      · rw [if_neg (show ¬ nI (nn % 2) = 0 by rw [pr]; decide)]
        refine g55 C3 S3 seg_len.symm (by omega) (fun h5 C5 S5 => ?_)
        refine go 60 (by decide) ?_
        simp only [KX, KY, KZ, KW, KV, Nat.reduceAdd, Nat.reduceSub, Nat.reduceLeDiff, true_and, and_true, true_or, or_true, or_self, reduceCtorEq, if_true, if_false, not_false_eq_true, eq_self, c78, C5.e2, C5.e7]
        first
          | exact kT _ (by rw [pe]; exact ok3) (by rw [pe]; show CP hb n cl _ (pIn (tq b n) (some pc1) (k + nn)).2.1 (C.length + ((pIn (tq b n) (some pc1) (k + nn)).2.2.1 ++ (if nn % 2 = 1 then [tkN] else [])).length); rw [if_pos pr, List.length_append]; exact C5) (by rw [pe]; show seg _ 0 (C ++ ((pIn (tq b n) (some pc1) (k + nn)).2.2.1 ++ (if nn % 2 = 1 then [tkN] else [])).map tc); rw [if_pos pr, ← SPC.one_end]; exact S5)
          | exact ⟨Or.inl rfl, kT _ (by rw [pe]; exact ok3) (by rw [pe]; show CP hb n cl _ (pIn (tq b n) (some pc1) (k + nn)).2.1 (C.length + ((pIn (tq b n) (some pc1) (k + nn)).2.2.1 ++ (if nn % 2 = 1 then [tkN] else [])).length); rw [if_pos pr, List.length_append]; exact C5) (by rw [pe]; show seg _ 0 (C ++ ((pIn (tq b n) (some pc1) (k + nn)).2.2.1 ++ (if nn % 2 = 1 then [tkN] else [])).map tc); rw [if_pos pr, ← SPC.one_end]; exact S5)⟩
          | exact ⟨Or.inr rfl, kT _ (by rw [pe]; exact ok3) (by rw [pe]; show CP hb n cl _ (pIn (tq b n) (some pc1) (k + nn)).2.1 (C.length + ((pIn (tq b n) (some pc1) (k + nn)).2.2.1 ++ (if nn % 2 = 1 then [tkN] else [])).length); rw [if_pos pr, List.length_append]; exact C5) (by rw [pe]; show seg _ 0 (C ++ ((pIn (tq b n) (some pc1) (k + nn)).2.2.1 ++ (if nn % 2 = 1 then [tkN] else [])).map tc); rw [if_pos pr, ← SPC.one_end]; exact S5)⟩
      · rw [if_pos (show nI (nn % 2) = 0 by rw [show nn % 2 = 0 by omega]; rfl)]
        first
          | exact kT _ (by rw [pe]; exact ok3) (by rw [pe]; show CP hb n cl _ (pIn (tq b n) (some pc1) (k + nn)).2.1 (C.length + ((pIn (tq b n) (some pc1) (k + nn)).2.2.1 ++ (if nn % 2 = 1 then [tkN] else [])).length); rw [if_neg pr, List.append_nil]; exact C3) (by rw [pe]; show seg _ 0 (C ++ ((pIn (tq b n) (some pc1) (k + nn)).2.2.1 ++ (if nn % 2 = 1 then [tkN] else [])).map tc); rw [if_neg pr, List.append_nil]; exact S3)
          | exact ⟨Or.inl rfl, kT _ (by rw [pe]; exact ok3) (by rw [pe]; show CP hb n cl _ (pIn (tq b n) (some pc1) (k + nn)).2.1 (C.length + ((pIn (tq b n) (some pc1) (k + nn)).2.2.1 ++ (if nn % 2 = 1 then [tkN] else [])).length); rw [if_neg pr, List.append_nil]; exact C3) (by rw [pe]; show seg _ 0 (C ++ ((pIn (tq b n) (some pc1) (k + nn)).2.2.1 ++ (if nn % 2 = 1 then [tkN] else [])).map tc); rw [if_neg pr, List.append_nil]; exact S3)⟩
          | exact ⟨Or.inr rfl, kT _ (by rw [pe]; exact ok3) (by rw [pe]; show CP hb n cl _ (pIn (tq b n) (some pc1) (k + nn)).2.1 (C.length + ((pIn (tq b n) (some pc1) (k + nn)).2.2.1 ++ (if nn % 2 = 1 then [tkN] else [])).length); rw [if_neg pr, List.append_nil]; exact C3) (by rw [pe]; show seg _ 0 (C ++ ((pIn (tq b n) (some pc1) (k + nn)).2.2.1 ++ (if nn % 2 = 1 then [tkN] else [])).map tc); rw [if_neg pr, List.append_nil]; exact S3)⟩
    have F0 : ∀ h3 c3, (pIn (tq b n) (some pc1) (k + nn)).1 = false → c3 ≤ 200 → CP hb n cl h3 (pIn (tq b n) (some pc1) (k + nn)).2.1 c3 → At 78 Q 43 (0, 0) [some (.ref 2), some (.int 0), some (.int (nI (nn % 2))), some (.int (nI nn))] [.int 0] h3 := by
      intro h3 c3 ok3 cc C3
      refine go 60 (by decide) ?_
      simp only [KX, KY, KZ, KW, KV, Nat.reduceAdd, Nat.reduceSub, Nat.reduceLeDiff, true_and, and_true, true_or, or_true, or_self, reduceCtorEq, if_true, if_false, not_false_eq_true, eq_self, c78, C3.e2, C3.e7]
      have pe : pOne (tq b n) (some pc1) k = pNot nn (pIn (tq b n) (some pc1) (k + nn)) := by show pNot _ _ = _; rw [en]
      have pl : (pOne (tq b n) (some pc1) k).2.1 = (pIn (tq b n) (some pc1) (k + nn)).2.1 := by rw [pe]; rfl
      by_cases pr : nn % 2 = 1
      · rw [if_neg (show ¬ nI (nn % 2) = 0 by rw [pr]; decide)]
        refine f55 C3 cc (fun h5 c5 cc5 C5 => ?_)
        refine go 60 (by decide) ?_
        simp only [KX, KY, KZ, KW, KV, Nat.reduceAdd, Nat.reduceSub, Nat.reduceLeDiff, true_and, and_true, true_or, or_true, or_self, reduceCtorEq, if_true, if_false, not_false_eq_true, eq_self, c78, C5.e2, C5.e7]
        first
          | exact kF _ _ (by rw [pe]; exact ok3) cc5 (by rw [pl]; exact C5)
          | exact ⟨Or.inl rfl, kF _ _ (by rw [pe]; exact ok3) cc5 (by rw [pl]; exact C5)⟩
          | exact ⟨Or.inr rfl, kF _ _ (by rw [pe]; exact ok3) cc5 (by rw [pl]; exact C5)⟩
      · rw [if_pos (show nI (nn % 2) = 0 by rw [show nn % 2 = 0 by omega]; rfl)]
        first
          | exact kF _ _ (by rw [pe]; exact ok3) cc (by rw [pl]; exact C3)
          | exact ⟨Or.inl rfl, kF _ _ (by rw [pe]; exact ok3) cc (by rw [pl]; exact C3)⟩
          | exact ⟨Or.inr rfl, kF _ _ (by rw [pe]; exact ok3) cc (by rw [pl]; exact C3)⟩
    refine g71 T C2 hk2 (s := 40) (by decide) (fun y => ?_) (fun y => ?_)
    · have pin : (pIn (tq b n) (some pc1) (k + nn)) = pBr (tq b n) (pc1 (k + nn + 1)) := if_pos y
      refine go 60 (by decide) ?_
      simp only [KX, KY, KZ, KW, KV, Nat.reduceAdd, Nat.reduceSub, Nat.reduceLeDiff, true_and, and_true, true_or, or_true, or_self, reduceCtorEq, if_true, if_false, not_false_eq_true, eq_self, c78, C2.e2, C2.e7]
      refine g73 T C2 hk2 (s := 40) (by decide) S2 (fun _ hk3 h3 C3 S3 => ?_) (fun y2 => absurd y y2)
      refine go 60 (by decide) ?_
      simp only [KX, KY, KZ, KW, KV, Nat.reduceAdd, Nat.reduceSub, Nat.reduceLeDiff, true_and, and_true, true_or, or_true, or_self, reduceCtorEq, if_true, if_false, not_false_eq_true, eq_self, c78, C3.e2, C3.e7]
      refine sc _ _ C _ C3 S3 hk3 (by omega) (fun h4 ok4 C4 S4 => ?_) (fun h4 c4 ok4 cc4 C4 => ?_)
      · obtain ⟨g1, g2, g3⟩ := gc _ hk3
        refine go 60 (by decide) ?_
        simp only [KX, KY, KZ, KW, KV, Nat.reduceAdd, Nat.reduceSub, Nat.reduceLeDiff, true_and, and_true, true_or, or_true, or_self, reduceCtorEq, if_true, if_false, not_false_eq_true, eq_self, c78, C4.e2, C4.e7]
        refine g73 T C4 g2 (s := 41) (by decide) S4 (fun y3 _ h5 C5 S5 => ?_) (fun y3 => ?_)
        · have pb : (pIn (tq b n) (some pc1) (k + nn)) = (true, (pc1 (k + nn + 1)).2.1 + 1, (pc1 (k + nn + 1)).2.2.1, (pc1 (k + nn + 1)).2.2.2) := by rw [pin]; unfold pBr; rw [if_pos ok4, if_pos y3]
          first
            | (with_reducible show At 78 _ 43 _ _ _ _)
            | (refine go 60 (by decide) ?_; simp only [KX, KY, KZ, KW, KV, Nat.reduceAdd, Nat.reduceSub, Nat.reduceLeDiff, true_and, and_true, true_or, or_true, or_self, reduceCtorEq, if_true, if_false, not_false_eq_true, eq_self, c78, C5.e2, C5.e7])
          first
            | (with_reducible show At 78 _ 43 _ _ _ _)
            | (refine go 60 (by decide) ?_; simp only [KX, KY, KZ, KW, KV, Nat.reduceAdd, Nat.reduceSub, Nat.reduceLeDiff, true_and, and_true, true_or, or_true, or_self, reduceCtorEq, if_true, if_false, not_false_eq_true, eq_self, c78, C5.e2, C5.e7])
          first
            | (with_reducible show At 78 _ 43 _ _ _ _)
            | (refine go 60 (by decide) ?_; simp only [KX, KY, KZ, KW, KV, Nat.reduceAdd, Nat.reduceSub, Nat.reduceLeDiff, true_and, and_true, true_or, or_true, or_self, reduceCtorEq, if_true, if_false, not_false_eq_true, eq_self, c78, C5.e2, C5.e7])
          exact F1 _ (by rw [pb]) (by rw [pb]; exact C5) (by rw [pb]; exact S5)
        · have pb : (pIn (tq b n) (some pc1) (k + nn)) = (false, (pc1 (k + nn + 1)).2.1, (pc1 (k + nn + 1)).2.2.1, (pc1 (k + nn + 1)).2.2.2) := by rw [pin]; unfold pBr; rw [if_pos ok4, if_neg y3]
          first
            | (with_reducible show At 78 _ 43 _ _ _ _)
            | (refine go 60 (by decide) ?_; simp only [KX, KY, KZ, KW, KV, Nat.reduceAdd, Nat.reduceSub, Nat.reduceLeDiff, true_and, and_true, true_or, or_true, or_self, reduceCtorEq, if_true, if_false, not_false_eq_true, eq_self, c78, C4.e2, C4.e7])
          first
            | (with_reducible show At 78 _ 43 _ _ _ _)
            | (refine go 60 (by decide) ?_; simp only [KX, KY, KZ, KW, KV, Nat.reduceAdd, Nat.reduceSub, Nat.reduceLeDiff, true_and, and_true, true_or, or_true, or_self, reduceCtorEq, if_true, if_false, not_false_eq_true, eq_self, c78, C4.e2, C4.e7])
          first
            | (with_reducible show At 78 _ 43 _ _ _ _)
            | (refine go 60 (by decide) ?_; simp only [KX, KY, KZ, KW, KV, Nat.reduceAdd, Nat.reduceSub, Nat.reduceLeDiff, true_and, and_true, true_or, or_true, or_self, reduceCtorEq, if_true, if_false, not_false_eq_true, eq_self, c78, C4.e2, C4.e7])
          exact F0 _ (C.length + (pc1 (k + nn + 1)).2.2.1.length) (by rw [pb]) (by have := g3; omega) (by rw [pb]; exact C4)
      · have pb : (pIn (tq b n) (some pc1) (k + nn)) = (pc1 (k + nn + 1)) := by rw [pin]; unfold pBr; rw [if_neg (by rw [ok4]; decide)]
        first
          | (with_reducible show At 78 _ 43 _ _ _ _)
          | (refine go 60 (by decide) ?_; simp only [KX, KY, KZ, KW, KV, Nat.reduceAdd, Nat.reduceSub, Nat.reduceLeDiff, true_and, and_true, true_or, or_true, or_self, reduceCtorEq, if_true, if_false, not_false_eq_true, eq_self, c78, C4.e2, C4.e7])
        first
          | (with_reducible show At 78 _ 43 _ _ _ _)
          | (refine go 60 (by decide) ?_; simp only [KX, KY, KZ, KW, KV, Nat.reduceAdd, Nat.reduceSub, Nat.reduceLeDiff, true_and, and_true, true_or, or_true, or_self, reduceCtorEq, if_true, if_false, not_false_eq_true, eq_self, c78, C4.e2, C4.e7])
        first
          | (with_reducible show At 78 _ 43 _ _ _ _)
          | (refine go 60 (by decide) ?_; simp only [KX, KY, KZ, KW, KV, Nat.reduceAdd, Nat.reduceSub, Nat.reduceLeDiff, true_and, and_true, true_or, or_true, or_self, reduceCtorEq, if_true, if_false, not_false_eq_true, eq_self, c78, C4.e2, C4.e7])
        exact F0 _ c4 (by rw [pb]; exact ok4) cc4 (by rw [pb]; exact C4)
    · have pin : (pIn (tq b n) (some pc1) (k + nn)) = pCmp (tq b n) (k + nn) := if_neg y
      refine go 60 (by decide) ?_
      simp only [KX, KY, KZ, KW, KV, Nat.reduceAdd, Nat.reduceSub, Nat.reduceLeDiff, true_and, and_true, true_or, or_true, or_self, reduceCtorEq, if_true, if_false, not_false_eq_true, eq_self, c78, C2.e2, C2.e7]
      refine s79 T _ _ C _ C2 S2 hk2 (by omega) (fun h3 ok3 C3 S3 => ?_) (fun h3 c3 ok3 cc C3 => ?_)
      · rw [← pin] at ok3 C3 S3
        refine go 60 (by decide) ?_
        simp only [KX, KY, KZ, KW, KV, Nat.reduceAdd, Nat.reduceSub, Nat.reduceLeDiff, true_and, and_true, true_or, or_true, or_self, reduceCtorEq, if_true, if_false, not_false_eq_true, eq_self, c78, C3.e2, C3.e7]
        have pe : pOne (tq b n) (some pc1) k = pNot nn (pIn (tq b n) (some pc1) (k + nn)) := by show pNot _ _ = _; rw [en]
        by_cases pr : nn % 2 = 1
        · rw [if_neg (show ¬ nI (nn % 2) = 0 by rw [pr]; decide)]
          refine g55 C3 S3 seg_len.symm (by omega) (fun h5 C5 S5 => ?_)
          refine go 60 (by decide) ?_
          simp only [KX, KY, KZ, KW, KV, Nat.reduceAdd, Nat.reduceSub, Nat.reduceLeDiff, true_and, and_true, true_or, or_true, or_self, reduceCtorEq, if_true, if_false, not_false_eq_true, eq_self, c78, C5.e2, C5.e7]
          first
            | exact kT _ (by rw [pe]; exact ok3) (by rw [pe]; show CP hb n cl _ (pIn (tq b n) (some pc1) (k + nn)).2.1 (C.length + ((pIn (tq b n) (some pc1) (k + nn)).2.2.1 ++ (if nn % 2 = 1 then [tkN] else [])).length); rw [if_pos pr, List.length_append]; exact C5) (by rw [pe]; show seg _ 0 (C ++ ((pIn (tq b n) (some pc1) (k + nn)).2.2.1 ++ (if nn % 2 = 1 then [tkN] else [])).map tc); rw [if_pos pr, ← SPC.one_end]; exact S5)
            | exact ⟨Or.inl rfl, kT _ (by rw [pe]; exact ok3) (by rw [pe]; show CP hb n cl _ (pIn (tq b n) (some pc1) (k + nn)).2.1 (C.length + ((pIn (tq b n) (some pc1) (k + nn)).2.2.1 ++ (if nn % 2 = 1 then [tkN] else [])).length); rw [if_pos pr, List.length_append]; exact C5) (by rw [pe]; show seg _ 0 (C ++ ((pIn (tq b n) (some pc1) (k + nn)).2.2.1 ++ (if nn % 2 = 1 then [tkN] else [])).map tc); rw [if_pos pr, ← SPC.one_end]; exact S5)⟩
            | exact ⟨Or.inr rfl, kT _ (by rw [pe]; exact ok3) (by rw [pe]; show CP hb n cl _ (pIn (tq b n) (some pc1) (k + nn)).2.1 (C.length + ((pIn (tq b n) (some pc1) (k + nn)).2.2.1 ++ (if nn % 2 = 1 then [tkN] else [])).length); rw [if_pos pr, List.length_append]; exact C5) (by rw [pe]; show seg _ 0 (C ++ ((pIn (tq b n) (some pc1) (k + nn)).2.2.1 ++ (if nn % 2 = 1 then [tkN] else [])).map tc); rw [if_pos pr, ← SPC.one_end]; exact S5)⟩
        · rw [if_pos (show nI (nn % 2) = 0 by rw [show nn % 2 = 0 by omega]; rfl)]
          first
            | exact kT _ (by rw [pe]; exact ok3) (by rw [pe]; show CP hb n cl _ (pIn (tq b n) (some pc1) (k + nn)).2.1 (C.length + ((pIn (tq b n) (some pc1) (k + nn)).2.2.1 ++ (if nn % 2 = 1 then [tkN] else [])).length); rw [if_neg pr, List.append_nil]; exact C3) (by rw [pe]; show seg _ 0 (C ++ ((pIn (tq b n) (some pc1) (k + nn)).2.2.1 ++ (if nn % 2 = 1 then [tkN] else [])).map tc); rw [if_neg pr, List.append_nil]; exact S3)
            | exact ⟨Or.inl rfl, kT _ (by rw [pe]; exact ok3) (by rw [pe]; show CP hb n cl _ (pIn (tq b n) (some pc1) (k + nn)).2.1 (C.length + ((pIn (tq b n) (some pc1) (k + nn)).2.2.1 ++ (if nn % 2 = 1 then [tkN] else [])).length); rw [if_neg pr, List.append_nil]; exact C3) (by rw [pe]; show seg _ 0 (C ++ ((pIn (tq b n) (some pc1) (k + nn)).2.2.1 ++ (if nn % 2 = 1 then [tkN] else [])).map tc); rw [if_neg pr, List.append_nil]; exact S3)⟩
            | exact ⟨Or.inr rfl, kT _ (by rw [pe]; exact ok3) (by rw [pe]; show CP hb n cl _ (pIn (tq b n) (some pc1) (k + nn)).2.1 (C.length + ((pIn (tq b n) (some pc1) (k + nn)).2.2.1 ++ (if nn % 2 = 1 then [tkN] else [])).length); rw [if_neg pr, List.append_nil]; exact C3) (by rw [pe]; show seg _ 0 (C ++ ((pIn (tq b n) (some pc1) (k + nn)).2.2.1 ++ (if nn % 2 = 1 then [tkN] else [])).map tc); rw [if_neg pr, List.append_nil]; exact S3)⟩
      · rw [← pin] at ok3 C3
        refine go 60 (by decide) ?_
        simp only [KX, KY, KZ, KW, KV, Nat.reduceAdd, Nat.reduceSub, Nat.reduceLeDiff, true_and, and_true, true_or, or_true, or_self, reduceCtorEq, if_true, if_false, not_false_eq_true, eq_self, c78, C3.e2, C3.e7]
        have pe : pOne (tq b n) (some pc1) k = pNot nn (pIn (tq b n) (some pc1) (k + nn)) := by show pNot _ _ = _; rw [en]
        have pl : (pOne (tq b n) (some pc1) k).2.1 = (pIn (tq b n) (some pc1) (k + nn)).2.1 := by rw [pe]; rfl
        by_cases pr : nn % 2 = 1
        · rw [if_neg (show ¬ nI (nn % 2) = 0 by rw [pr]; decide)]
          refine f55 C3 cc (fun h5 c5 cc5 C5 => ?_)
          refine go 60 (by decide) ?_
          simp only [KX, KY, KZ, KW, KV, Nat.reduceAdd, Nat.reduceSub, Nat.reduceLeDiff, true_and, and_true, true_or, or_true, or_self, reduceCtorEq, if_true, if_false, not_false_eq_true, eq_self, c78, C5.e2, C5.e7]
          first
            | exact kF _ _ (by rw [pe]; exact ok3) cc5 (by rw [pl]; exact C5)
            | exact ⟨Or.inl rfl, kF _ _ (by rw [pe]; exact ok3) cc5 (by rw [pl]; exact C5)⟩
            | exact ⟨Or.inr rfl, kF _ _ (by rw [pe]; exact ok3) cc5 (by rw [pl]; exact C5)⟩
        · rw [if_pos (show nI (nn % 2) = 0 by rw [show nn % 2 = 0 by omega]; rfl)]
          first
            | exact kF _ _ (by rw [pe]; exact ok3) cc (by rw [pl]; exact C3)
            | exact ⟨Or.inl rfl, kF _ _ (by rw [pe]; exact ok3) cc (by rw [pl]; exact C3)⟩
            | exact ⟨Or.inr rfl, kF _ _ (by rw [pe]; exact ok3) cc (by rw [pl]; exact C3)⟩
  have lp : ∀ f i h2, i + f = 200 → nots (tq b n) 200 k = i + nots (tq b n) f (k + i) → k + i ≤ K → CP hb n cl h2 (k + i) C.length → seg (ai h2 10) 0 C → At 78 Q 4 (0, 0) [some (.ref 2), some (.int 0), some (.int (nI (i % 2))), some (.int (nI i))] [] h2 := by
    intro f
    induction f with
    | zero =>
      intro i h2 ei en ik C2 S2
      obtain rfl : i = 200 := by omega
      refine go 60 (by decide) ?_
      simp only [KX, KY, KZ, KW, KV, Nat.reduceAdd, Nat.reduceSub, Nat.reduceLeDiff, true_and, and_true, true_or, or_true, or_self, reduceCtorEq, if_true, if_false, not_false_eq_true, eq_self, c78, C2.e2, C2.e7]
      rw [if_neg (show ¬ nI 200 < (200 : Int32) from nI_nlt (Nat.le_refl _) (by decide))]
      exact R19 200 h2 en C2 S2
    | succ f ih =>
      intro i h2 ei en ik C2 S2
      have en : nots (tq b n) 200 k = i + if tq b n (k + i) = 262 then 1 + nots (tq b n) f (k + i + 1) else 0 := en
      refine go 60 (by decide) ?_
      simp only [KX, KY, KZ, KW, KV, Nat.reduceAdd, Nat.reduceSub, Nat.reduceLeDiff, true_and, and_true, true_or, or_true, or_self, reduceCtorEq, if_true, if_false, not_false_eq_true, eq_self, c78, C2.e2, C2.e7]
      rw [if_pos (show nI i < (200 : Int32) from nI_lt (b := 200) (by omega) (by decide))]
      refine g73 T C2 ik (s := 262) (by decide) S2 (fun y ik3 h3 C3 S3 => ?_) (fun y => ?_)
      · rw [if_pos y] at en
        have ih2 := ih (i + 1) h3 (by omega) (by rw [en, ← Nat.add_assoc, ← Nat.add_assoc]) ik3 C3 S3
        refine go 60 (by decide) ?_
        simp only [KX, KY, KZ, KW, KV, Nat.reduceAdd, Nat.reduceSub, Nat.reduceLeDiff, true_and, and_true, true_or, or_true, or_self, reduceCtorEq, if_true, if_false, not_false_eq_true, eq_self, c78, C3.e2, C3.e7]
        rcases (show i % 2 = 0 ∨ i % 2 = 1 by omega) with pr | pr
        · rw [show (i + 1) % 2 = 1 by omega] at ih2
          rw [if_pos (show nI (i % 2) = 0 by rw [pr]; rfl)]
          first
            | (with_reducible show At 78 _ 4 _ _ _ _)
            | (refine go 60 (by decide) ?_; simp only [KX, KY, KZ, KW, KV, Nat.reduceAdd, Nat.reduceSub, Nat.reduceLeDiff, true_and, and_true, true_or, or_true, or_self, reduceCtorEq, if_true, if_false, not_false_eq_true, eq_self, c78, C3.e2, C3.e7])
          first
            | (with_reducible show At 78 _ 4 _ _ _ _)
            | (refine go 60 (by decide) ?_; simp only [KX, KY, KZ, KW, KV, Nat.reduceAdd, Nat.reduceSub, Nat.reduceLeDiff, true_and, and_true, true_or, or_true, or_self, reduceCtorEq, if_true, if_false, not_false_eq_true, eq_self, c78, C3.e2, C3.e7])
          first
            | (with_reducible show At 78 _ 4 _ _ _ _)
            | (refine go 60 (by decide) ?_; simp only [KX, KY, KZ, KW, KV, Nat.reduceAdd, Nat.reduceSub, Nat.reduceLeDiff, true_and, and_true, true_or, or_true, or_self, reduceCtorEq, if_true, if_false, not_false_eq_true, eq_self, c78, C3.e2, C3.e7])
          rw [nI_1 i]
          exact At_le ih2 ⟨rfl, rfl, rfl, rfl, trivial⟩
        · rw [show (i + 1) % 2 = 0 by omega] at ih2
          rw [if_neg (show ¬ nI (i % 2) = 0 by rw [pr]; decide)]
          first
            | (with_reducible show At 78 _ 4 _ _ _ _)
            | (refine go 60 (by decide) ?_; simp only [KX, KY, KZ, KW, KV, Nat.reduceAdd, Nat.reduceSub, Nat.reduceLeDiff, true_and, and_true, true_or, or_true, or_self, reduceCtorEq, if_true, if_false, not_false_eq_true, eq_self, c78, C3.e2, C3.e7])
          first
            | (with_reducible show At 78 _ 4 _ _ _ _)
            | (refine go 60 (by decide) ?_; simp only [KX, KY, KZ, KW, KV, Nat.reduceAdd, Nat.reduceSub, Nat.reduceLeDiff, true_and, and_true, true_or, or_true, or_self, reduceCtorEq, if_true, if_false, not_false_eq_true, eq_self, c78, C3.e2, C3.e7])
          first
            | (with_reducible show At 78 _ 4 _ _ _ _)
            | (refine go 60 (by decide) ?_; simp only [KX, KY, KZ, KW, KV, Nat.reduceAdd, Nat.reduceSub, Nat.reduceLeDiff, true_and, and_true, true_or, or_true, or_self, reduceCtorEq, if_true, if_false, not_false_eq_true, eq_self, c78, C3.e2, C3.e7])
          rw [nI_1 i]
          exact At_le ih2 ⟨rfl, rfl, rfl, rfl, trivial⟩
      · rw [if_neg y, Nat.add_zero] at en
        refine go 60 (by decide) ?_
        simp only [KX, KY, KZ, KW, KV, Nat.reduceAdd, Nat.reduceSub, Nat.reduceLeDiff, true_and, and_true, true_or, or_true, or_self, reduceCtorEq, if_true, if_false, not_false_eq_true, eq_self, c78, C2.e2, C2.e7]
        exact R19 i h2 en C2 S2
  refine ma_enter (m := 78) (Or.inl (by decide)) (by show 2 ≤ mt_n 78; decide +kernel) ?_
  show At 78 Q 0 (mt_c 78) [some (.ref 2), some (.int 0), none, none] [] hh
  refine go 60 (by decide) ?_
  simp only [KX, KY, KZ, KW, KV, Nat.reduceAdd, Nat.reduceSub, Nat.reduceLeDiff, true_and, and_true, true_or, or_true, or_self, reduceCtorEq, if_true, if_false, not_false_eq_true, eq_self, c78, CC.e2, CC.e7]
  exact lp 200 0 hh rfl (by rw [Nat.zero_add]; rfl) hk CC S
