/-! law: the class reads a LAW -/
/-- the token at which CLAUSE i begins -/
def LK (q : Nat → Nat) : Nat → Nat
  | 0 => 0
  | i + 1 => (pCl q (LK q i)).1.2.1
/-- the steps before CLAUSE i -/
def LC (q : Nat → Nat) : Nat → List Tok
  | 0 => []
  | i + 1 => LC q i ++ (pCl q (LK q i)).1.2.2.1
def LNf (q : Nat → Nat) : Nat → Nat → Nat
  | 0, i => i
  | f + 1, i => if q (LK q i) = 256 then i else if (pCl q (LK q i)).1.1 = true then LNf q f (i + 1) else i
/-- how many CLAUSES fit -/
def LN (q : Nat → Nat) : Nat := LNf q 8 0
/-- the token that does not fit -/
def LF (q : Nat → Nat) : Nat := if LN q < 8 then (pCl q (LK q (LN q))).1.2.1 else LK q (LN q)
theorem LN_all {q : Nat → Nat} : ∀ f i, i + f = 8 → LNf q f i ≤ 8 ∧ i ≤ LNf q f i ∧ ∀ j, i ≤ j → j < LNf q f i → q (LK q j) ≠ 256 ∧ (pCl q (LK q j)).1.1 = true
  | 0, i, e => ⟨by show i ≤ 8; omega, Nat.le_refl _, fun j a b => by
      have b : j < i := b
      omega⟩
  | f + 1, i, e => by
    show (if q (LK q i) = 256 then i else if (pCl q (LK q i)).1.1 = true then LNf q f (i + 1) else i) ≤ 8 ∧ i ≤ (if q (LK q i) = 256 then i else if (pCl q (LK q i)).1.1 = true then LNf q f (i + 1) else i) ∧ ∀ j, i ≤ j → j < (if q (LK q i) = 256 then i else if (pCl q (LK q i)).1.1 = true then LNf q f (i + 1) else i) → q (LK q j) ≠ 256 ∧ (pCl q (LK q j)).1.1 = true
    by_cases a : q (LK q i) = 256
    · rw [if_pos a]
      exact ⟨by omega, Nat.le_refl _, fun j c d => by omega⟩
    · rw [if_neg a]
      by_cases c : (pCl q (LK q i)).1.1 = true
      · rw [if_pos c]
        obtain ⟨x1, x2, x3⟩ := LN_all f (i + 1) (by omega)
        refine ⟨x1, by omega, fun j y z => ?_⟩
        rcases Nat.lt_or_ge i j with w | w
        · exact x3 j w z
        · obtain rfl : i = j := by omega
          exact ⟨a, c⟩
      · rw [if_neg c]
        exact ⟨by omega, Nat.le_refl _, fun j y z => by omega⟩
theorem pCl_ok {q : Nat → Nat} {K : Nat} (e : q K = 256) : ∀ k, k ≤ K → k ≤ (pCl q k).1.2.1 ∧ (pCl q k).1.2.1 ≤ K ∧ (pCl q k).1.2.2.1.length ≤ (pCl q k).1.2.1 - k := by
  intro k hk
  obtain ⟨a1, a2, a3⟩ := pHd_ok e hk
  obtain ⟨b1, b2, b3⟩ := pBd_ok (u := (pHd q k).2.2) e a2
  unfold pCl
  by_cases x : (pHd q k).1 = true
  · rw [if_pos x]
    by_cases y : (pBd q (pHd q k).2.1 (pHd q k).2.2).1 = true
    · rw [if_pos y]
      by_cases z : q (pBd q (pHd q k).2.1 (pHd q k).2.2).2.1 = 59
      · rw [if_pos z]
        have ne : (pBd q (pHd q k).2.1 (pHd q k).2.2).2.1 ≠ K := fun w => by rw [w, e] at z; exact absurd z (by decide)
        exact ⟨by show k ≤ (pBd q (pHd q k).2.1 (pHd q k).2.2).2.1 + 1; omega, by show (pBd q (pHd q k).2.1 (pHd q k).2.2).2.1 + 1 ≤ K; omega, by show (pBd q (pHd q k).2.1 (pHd q k).2.2).2.2.1.length ≤ (pBd q (pHd q k).2.1 (pHd q k).2.2).2.1 + 1 - k; omega⟩
      · rw [if_neg z]
        exact ⟨by show k ≤ (pBd q (pHd q k).2.1 (pHd q k).2.2).2.1; omega, b2, Nat.zero_le _⟩
    · rw [if_neg y]
      exact ⟨by show k ≤ (pBd q (pHd q k).2.1 (pHd q k).2.2).2.1; omega, b2, Nat.zero_le _⟩
  · rw [if_neg x]
    exact ⟨a1, a2, Nat.zero_le _⟩
theorem LK_ok {q : Nat → Nat} {K : Nat} (e : q K = 256) : ∀ i, LK q i ≤ K ∧ (LC q i).length ≤ LK q i
  | 0 => ⟨Nat.zero_le _, Nat.zero_le _⟩
  | i + 1 => by
    obtain ⟨x1, x2⟩ := LK_ok e i
    obtain ⟨y1, y2, y3⟩ := pCl_ok e (LK q i) x1
    refine ⟨y2, ?_⟩
    show (LC q i ++ (pCl q (LK q i)).1.2.2.1).length ≤ (pCl q (LK q i)).1.2.1
    rw [List.length_append]
    omega
/-- i CLAUSES stand -/
def LSt (hb h2 : ma_H) (q : Nat → Nat) (n i : Nat) : Prop := Sh h2 ∧ h2.1 = hb.1 ∧ (∀ a, a ≠ 2 → a ≠ 7 → a ≠ 8 → a ≠ 9 → a ≠ 10 → h2.2.1 a = hb.2.1 a) ∧ h2.2.1 2 = rO n (LK q i) ∧ h2.2.1 7 = lO i (LC q i).length ∧ seg (ai h2 10) 0 ((LC q i).map tc) ∧ ∀ j, j < i → ai h2 8 j = kd (pCl q (LK q j)).2 ∧ ai h2 9 j = nI (LC q (j + 1)).length
theorem LSt.nx {hb h2 h3 : ma_H} {q : Nat → Nat} {n i : Nat} (L : LSt hb h2 q n i) (C : CN h2 h3 n i ((LC q i).map tc).length (pCl q (LK q i)).1.2.1 (pCl q (LK q i)).1.2.2.1.length (pCl q (LK q i)).2) (S : seg (ai h3 10) 0 ((LC q i).map tc ++ (pCl q (LK q i)).1.2.2.1.map tc)) : LSt hb h3 q n (i + 1) := by
  obtain ⟨l1, l2, l3, l4, l5, l6, l7⟩ := L
  obtain ⟨c1, c2, c3, c4, c5, c6, c7⟩ := C
  rw [List.length_map] at c5 c7
  have el : (LC q i).length + (pCl q (LK q i)).1.2.2.1.length = (LC q (i + 1)).length := by
    show _ = (LC q i ++ (pCl q (LK q i)).1.2.2.1).length
    rw [List.length_append]
  refine ⟨c1, c2.trans l2, fun a a2 a7 a8 a9 a10 => (c3 a a2 a7 a8 a9 a10).trans (l3 a a2 a7 a8 a9 a10), c4, by rw [← el]; exact c5, ?_, fun j hj => ?_⟩
  · show seg _ 0 ((LC q i ++ (pCl q (LK q i)).1.2.2.1).map tc)
    rw [List.map_append]
    exact S
  · rw [c6, c7, el]
    unfold upd
    by_cases z : j = i
    · rw [if_pos z, if_pos z, z]
      exact ⟨rfl, rfl⟩
    · rw [if_neg z, if_neg z]
      exact l7 j (by omega)
/-- the class' answer of a LAW: the token, or none -/
def LAn (h h2 : ma_H) (q : Nat → Nat) : Prop := Sh h2 ∧ h2.1 = h.1 ∧ (∀ a, ¬ (2 ≤ a ∧ a ≤ 10) → h2.2.1 a = h.2.1 a) ∧ h2.2.1 7 = lO (LN q) (LC q (LN q)).length ∧ seg (ai h2 10) 0 ((LC q (LN q)).map tc) ∧ ∀ j, j < LN q → ai h2 8 j = kd (pCl q (LK q j)).2 ∧ ai h2 9 j = nI (LC q (j + 1)).length
def LXn (h h2 : ma_H) : Prop := Sh h2 ∧ h2.1 = h.1 ∧ (∀ a, ¬ (2 ≤ a ∧ a ≤ 10) → h2.2.1 a = h.2.1 a)
theorem t63 {h hb : ma_H} {Q : ma_Q} {b : Nat → Nat} {n K : Nat} (T : TS hb b n K) (L0 : LSt hb h (tq b n) n 0) : (∀ h2, tq b n (LK (tq b n) (LN (tq b n))) = 256 → LSt hb h2 (tq b n) n (LN (tq b n)) → Q (some (.int (-1))) h2) → (∀ h2, tq b n (LK (tq b n) (LN (tq b n))) ≠ 256 → (Sh h2 ∧ h2.1 = hb.1 ∧ (∀ a, a ≠ 2 → a ≠ 7 → a ≠ 8 → a ≠ 9 → a ≠ 10 → h2.2.1 a = hb.2.1 a)) → Q (some (.int (nI (Ps b n (LF (tq b n)))))) h2) → At 63 Q 35 (0, 0) [some (.ref 2), some (.ref 1), some (.int (nI n)), some (.ref 7), some (.int 1), some (.int (nI 0))] [] h := by
  intro kA kX
  have K2 := T.1
  obtain ⟨n8, -, nal⟩ := LN_all (q := tq b n) 8 0 rfl
  have E1 : ∀ i h2, i = LN (tq b n) → LSt hb h2 (tq b n) n i → (tq b n (LK (tq b n) i) ≠ 256 → LK (tq b n) i = LF (tq b n)) → ma_X 71 [.ref 2, .int 256] h2 (fun v h3 => At 63 Q 52 (0, 0) [some (.ref 2), some (.ref 1), some (.int (nI n)), some (.ref 7), some (.int 1), some (.int (nI i))] (v.toList ++ []) h3) := by
    intro i h2 ei L lf
    obtain ⟨l1, l2, l3, l4, l5, l6, l7⟩ := id L
    have e2 : h2.2.1 2 = .inr (5, [.ref 3, .int (nI n), .ref 4, .ref 5, .ref 6, .int (nI (LK (tq b n) i)), .ref 7]) := l4
    have T2 : TS h2 b n K := T.cong (fun a ha => l3 a (by omega) (by omega) (by omega) (by omega) (by omega))
    have C2 : CP h2 n i h2 (LK (tq b n) i) (LC (tq b n) i).length := ⟨l1, rfl, fun _ _ _ _ => rfl, l4, l5⟩
    have kk := (LK_ok (tq_K T) i).1
    refine s71 T2 C2 kk (s := 256) (by decide) (fun z => ?_) (fun z => ?_)
    · have z := (cs_eq (by decide)).mp z
      refine go 60 (by decide) ?_
      simp only [KX, KY, KZ, KW, KV, Nat.reduceAdd, Nat.reduceSub, Nat.reduceLeDiff, true_and, and_true, true_or, or_true, or_self, reduceCtorEq, if_true, if_false, not_false_eq_true, eq_self, c63, e2]
      subst ei
      first
        | exact kA h2 z L
        | exact ⟨Or.inl rfl, kA h2 z L⟩
        | exact ⟨Or.inr rfl, kA h2 z L⟩
    · have z : tq b n (LK (tq b n) i) ≠ 256 := fun w => z ((cs_eq (by decide)).mpr w)
      refine go 60 (by decide) ?_
      simp only [KX, KY, KZ, KW, KV, Nat.reduceAdd, Nat.reduceSub, Nat.reduceLeDiff, true_and, and_true, true_or, or_true, or_self, reduceCtorEq, if_true, if_false, not_false_eq_true, eq_self, c63, e2]
      refine s72 T2 C2 kk ?_
      refine go 60 (by decide) ?_
      simp only [KX, KY, KZ, KW, KV, Nat.reduceAdd, Nat.reduceSub, Nat.reduceLeDiff, true_and, and_true, true_or, or_true, or_self, reduceCtorEq, if_true, if_false, not_false_eq_true, eq_self, c63, e2]
      show Q (some (.int (nI (Ps b n (LK (tq b n) i))))) h2
      rw [lf z]
      exact kX h2 (by rw [← ei]; exact z) ⟨l1, l2, l3⟩
  have E0 : ∀ i h2 h3, i = LN (tq b n) → LSt hb h2 (tq b n) n i → i < 8 → tq b n (LK (tq b n) i) ≠ 256 → CX h2 h3 n (pCl (tq b n) (LK (tq b n) i)).1.2.1 → ma_X 71 [.ref 2, .int 256] h3 (fun v h4 => At 63 Q 52 (0, 0) [some (.ref 2), some (.ref 1), some (.int (nI n)), some (.ref 7), some (.int 0), some (.int (nI (i + 1)))] (v.toList ++ []) h4) := by
    intro i h2 h3 ei L i8 ne X
    obtain ⟨l1, l2, l3, l4, l5, l6, l7⟩ := L
    obtain ⟨x1, x2, x3, x4, cl, c, x5⟩ := X
    have e2 : h3.2.1 2 = .inr (5, [.ref 3, .int (nI n), .ref 4, .ref 5, .ref 6, .int (nI (pCl (tq b n) (LK (tq b n) i)).1.2.1), .ref 7]) := x4
    have T2 : TS h3 b n K := (T.cong (hh := h2) (fun a ha => l3 a (by omega) (by omega) (by omega) (by omega) (by omega))).cong (fun a ha => x3 a (by omega) (by omega) (by omega) (by omega) (by omega))
    have C2 : CP h3 n cl h3 (pCl (tq b n) (LK (tq b n) i)).1.2.1 c := ⟨x1, rfl, fun _ _ _ _ => rfl, x4, x5⟩
    have kk := (LK_ok (tq_K T) i).1
    obtain ⟨g1, g2, g3⟩ := pCl_ok (tq_K T) _ kk
    have ef : (pCl (tq b n) (LK (tq b n) i)).1.2.1 = LF (tq b n) := by unfold LF; rw [← ei, if_pos i8]
    have D : Sh h3 ∧ h3.1 = hb.1 ∧ (∀ a, a ≠ 2 → a ≠ 7 → a ≠ 8 → a ≠ 9 → a ≠ 10 → h3.2.1 a = hb.2.1 a) := ⟨x1, x2.trans l2, fun a a2 a7 a8 a9 a10 => (x3 a a2 a7 a8 a9 a10).trans (l3 a a2 a7 a8 a9 a10)⟩
    refine s71 T2 C2 g2 (s := 256) (by decide) (fun z => ?_) (fun z => ?_)
    · refine go 60 (by decide) ?_
      simp only [KX, KY, KZ, KW, KV, Nat.reduceAdd, Nat.reduceSub, Nat.reduceLeDiff, true_and, and_true, true_or, or_true, or_self, reduceCtorEq, if_true, if_false, not_false_eq_true, eq_self, c63, e2]
      refine s72 T2 C2 g2 ?_
      refine go 60 (by decide) ?_
      simp only [KX, KY, KZ, KW, KV, Nat.reduceAdd, Nat.reduceSub, Nat.reduceLeDiff, true_and, and_true, true_or, or_true, or_self, reduceCtorEq, if_true, if_false, not_false_eq_true, eq_self, c63, e2]
      show Q (some (.int (nI (Ps b n (pCl (tq b n) (LK (tq b n) i)).1.2.1)))) h3
      rw [ef]
      exact kX h3 (by rw [← ei]; exact ne) D
    · refine go 60 (by decide) ?_
      simp only [KX, KY, KZ, KW, KV, Nat.reduceAdd, Nat.reduceSub, Nat.reduceLeDiff, true_and, and_true, true_or, or_true, or_self, reduceCtorEq, if_true, if_false, not_false_eq_true, eq_self, c63, e2]
      refine s72 T2 C2 g2 ?_
      refine go 60 (by decide) ?_
      simp only [KX, KY, KZ, KW, KV, Nat.reduceAdd, Nat.reduceSub, Nat.reduceLeDiff, true_and, and_true, true_or, or_true, or_self, reduceCtorEq, if_true, if_false, not_false_eq_true, eq_self, c63, e2]
      show Q (some (.int (nI (Ps b n (pCl (tq b n) (LK (tq b n) i)).1.2.1)))) h3
      rw [ef]
      exact kX h3 (by rw [← ei]; exact ne) D
  have lp : ∀ f i h2, i + f = 8 → LNf (tq b n) f i = LN (tq b n) → LSt hb h2 (tq b n) n i → At 63 Q 35 (0, 0) [some (.ref 2), some (.ref 1), some (.int (nI n)), some (.ref 7), some (.int 1), some (.int (nI i))] [] h2 := by
    intro f
    induction f with
    | zero =>
      intro i h2 ei en L
      obtain rfl : i = 8 := by omega
      have en : 8 = LN (tq b n) := en
      have e2 : h2.2.1 2 = .inr (5, [.ref 3, .int (nI n), .ref 4, .ref 5, .ref 6, .int (nI (LK (tq b n) 8)), .ref 7]) := L.2.2.2.1
      refine go 60 (by decide) ?_
      simp only [KX, KY, KZ, KW, KV, Nat.reduceAdd, Nat.reduceSub, Nat.reduceLeDiff, true_and, and_true, true_or, or_true, or_self, reduceCtorEq, if_true, if_false, not_false_eq_true, eq_self, c63, e2]
      rw [if_neg (show ¬ nI 8 < (8 : Int32) from nI_nlt (Nat.le_refl _) (by decide))]
      refine E1 8 h2 en L (fun _ => ?_)
      unfold LF
      rw [← en, if_neg (by decide)]
    | succ f ih =>
      intro i h2 ei en L
      have en : (if tq b n (LK (tq b n) i) = 256 then i else if (pCl (tq b n) (LK (tq b n) i)).1.1 = true then LNf (tq b n) f (i + 1) else i) = LN (tq b n) := en
      obtain ⟨l1, l2, l3, l4, l5, l6, l7⟩ := id L
      have e2 : h2.2.1 2 = .inr (5, [.ref 3, .int (nI n), .ref 4, .ref 5, .ref 6, .int (nI (LK (tq b n) i)), .ref 7]) := l4
      have T2 : TS h2 b n K := T.cong (fun a ha => l3 a (by omega) (by omega) (by omega) (by omega) (by omega))
      have C2 : CP h2 n i h2 (LK (tq b n) i) ((LC (tq b n) i).map tc).length := ⟨l1, rfl, fun _ _ _ _ => rfl, l4, by rw [List.length_map]; exact l5⟩
      obtain ⟨kk, kl⟩ := LK_ok (tq_K T) i
      refine go 60 (by decide) ?_
      simp only [KX, KY, KZ, KW, KV, Nat.reduceAdd, Nat.reduceSub, Nat.reduceLeDiff, true_and, and_true, true_or, or_true, or_self, reduceCtorEq, if_true, if_false, not_false_eq_true, eq_self, c63, e2]
      rw [if_pos (show nI i < (8 : Int32) from nI_lt (b := 8) (by omega) (by decide))]
      try (refine go 60 (by decide) ?_; simp only [KX, KY, KZ, KW, KV, Nat.reduceAdd, Nat.reduceSub, Nat.reduceLeDiff, true_and, and_true, true_or, or_true, or_self, reduceCtorEq, if_true, if_false, not_false_eq_true, eq_self, c63, e2])
      refine s71 T2 C2 kk (s := 256) (by decide) (fun z => ?_) (fun z => ?_)
      · have z : tq b n (LK (tq b n) i) = 256 := (cs_eq (by decide)).mp z
        rw [if_pos z] at en
        refine go 60 (by decide) ?_
        simp only [KX, KY, KZ, KW, KV, Nat.reduceAdd, Nat.reduceSub, Nat.reduceLeDiff, true_and, and_true, true_or, or_true, or_self, reduceCtorEq, if_true, if_false, not_false_eq_true, eq_self, c63, e2]
        exact E1 i h2 en L (fun w => absurd z w)
      · have z : ¬ tq b n (LK (tq b n) i) = 256 := fun w => z ((cs_eq (by decide)).mpr w)
        rw [if_neg z] at en
        refine go 60 (by decide) ?_
        simp only [KX, KY, KZ, KW, KV, Nat.reduceAdd, Nat.reduceSub, Nat.reduceLeDiff, true_and, and_true, true_or, or_true, or_self, reduceCtorEq, if_true, if_false, not_false_eq_true, eq_self, c63, e2]
        refine s75 T2 C2 l6 kk (by rw [List.length_map]; exact kl) (by omega) (fun h3 ok C3 S3 => ?_) (fun h3 ok C3 => ?_)
        · rw [if_pos ok] at en
          have L3 := L.nx C3 S3
          first
            | (with_reducible show At 63 _ 35 _ _ _ _)
            | (refine go 60 (by decide) ?_; simp only [KX, KY, KZ, KW, KV, Nat.reduceAdd, Nat.reduceSub, Nat.reduceLeDiff, true_and, and_true, true_or, or_true, or_self, reduceCtorEq, if_true, if_false, not_false_eq_true, eq_self, c63, e2])
          first
            | (with_reducible show At 63 _ 35 _ _ _ _)
            | (refine go 60 (by decide) ?_; simp only [KX, KY, KZ, KW, KV, Nat.reduceAdd, Nat.reduceSub, Nat.reduceLeDiff, true_and, and_true, true_or, or_true, or_self, reduceCtorEq, if_true, if_false, not_false_eq_true, eq_self, c63, e2])
          first
            | (with_reducible show At 63 _ 35 _ _ _ _)
            | (refine go 60 (by decide) ?_; simp only [KX, KY, KZ, KW, KV, Nat.reduceAdd, Nat.reduceSub, Nat.reduceLeDiff, true_and, and_true, true_or, or_true, or_self, reduceCtorEq, if_true, if_false, not_false_eq_true, eq_self, c63, e2])
          rw [nI_1 i]
          exact ih (i + 1) h3 (by omega) en L3
        · rw [if_neg (by rw [ok]; exact Bool.false_ne_true)] at en
          have ex := E0 i h2 h3 en L (by omega) z C3
          clear e2
          have e2 : h3.2.1 2 = .inr (5, [.ref 3, .int (nI n), .ref 4, .ref 5, .ref 6, .int (nI (pCl (tq b n) (LK (tq b n) i)).1.2.1), .ref 7]) := C3.2.2.2.1
          first
            | (with_reducible show At 63 _ 35 _ _ _ _)
            | (refine go 60 (by decide) ?_; simp only [KX, KY, KZ, KW, KV, Nat.reduceAdd, Nat.reduceSub, Nat.reduceLeDiff, true_and, and_true, true_or, or_true, or_self, reduceCtorEq, if_true, if_false, not_false_eq_true, eq_self, c63, e2])
          first
            | (with_reducible show At 63 _ 35 _ _ _ _)
            | (refine go 60 (by decide) ?_; simp only [KX, KY, KZ, KW, KV, Nat.reduceAdd, Nat.reduceSub, Nat.reduceLeDiff, true_and, and_true, true_or, or_true, or_self, reduceCtorEq, if_true, if_false, not_false_eq_true, eq_self, c63, e2])
          first
            | (with_reducible show At 63 _ 35 _ _ _ _)
            | (refine go 60 (by decide) ?_; simp only [KX, KY, KZ, KW, KV, Nat.reduceAdd, Nat.reduceSub, Nat.reduceLeDiff, true_and, and_true, true_or, or_true, or_self, reduceCtorEq, if_true, if_false, not_false_eq_true, eq_self, c63, e2])
          rw [nI_1 i]
          refine go 60 (by decide) ?_
          simp only [KX, KY, KZ, KW, KV, Nat.reduceAdd, Nat.reduceSub, Nat.reduceLeDiff, true_and, and_true, true_or, or_true, or_self, reduceCtorEq, if_true, if_false, not_false_eq_true, eq_self, c63, e2]
          split
          · exact ex
          · exact ex
  have nn : LNf (tq b n) 8 0 = LN (tq b n) := rfl
  exact lp 8 0 h rfl nn L0
