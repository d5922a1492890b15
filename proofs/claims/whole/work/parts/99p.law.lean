/-! law: the class reads a CLAUSE -/
/-- the head of a CLAUSE: does it fit, the next token, the kind (6: pick) -/
def pHd (q : Nat → Nat) (k : Nat) : Bool × Nat × Nat := if q k = 257 then if 3000 ≤ q (k + 1) ∧ q (k + 1) ≤ 3005 then (true, k + 2, q (k + 1) - 3000) else (false, k + 1, 0) else if q k = 258 then (true, k + 1, 6) else (false, k, 6)
/-- its COND -/
def pBd (q : Nat → Nat) (k u : Nat) : PR := if u = 6 ∨ q k ≠ 59 then if q k = 259 then pC0 q (k + 1) else (false, k, [], []) else (true, k, [], [])
/-- does it fit, the next token, the kind, the steps -/
def pCl (q : Nat → Nat) (k : Nat) : PR × Nat := if (pHd q k).1 then if (pBd q (pHd q k).2.1 (pHd q k).2.2).1 then if q (pBd q (pHd q k).2.1 (pHd q k).2.2).2.1 = 59 then ((true, (pBd q (pHd q k).2.1 (pHd q k).2.2).2.1 + 1, (pBd q (pHd q k).2.1 (pHd q k).2.2).2.2), (pHd q k).2.2) else ((false, (pBd q (pHd q k).2.1 (pHd q k).2.2).2.1, [], []), 0) else ((false, (pBd q (pHd q k).2.1 (pHd q k).2.2).2.1, [], []), 0) else ((false, (pHd q k).2.1, [], []), 0)
def kd (u : Nat) : Int32 := if u = 6 then -1 else nI u
theorem pHd_ok {q : Nat → Nat} {K : Nat} (e : q K = 256) {k : Nat} (hk : k ≤ K) : k ≤ (pHd q k).2.1 ∧ (pHd q k).2.1 ≤ K ∧ (pHd q k).2.2 ≤ 6 := by
  have ne : ∀ j, j ≤ K → q j ≠ 256 → j + 1 ≤ K := fun j hj z => by
    rcases Nat.lt_or_ge j K with c | c
    · exact c
    · exact absurd (by rw [show j = K by omega]; exact e) z
  unfold pHd
  by_cases a : q k = 257
  · rw [if_pos a]
    have k1 := ne k hk (by omega)
    by_cases b : 3000 ≤ q (k + 1) ∧ q (k + 1) ≤ 3005
    · rw [if_pos b]
      have k2 := ne (k + 1) k1 (by omega)
      exact ⟨by show k ≤ k + 2; omega, k2, by show q (k + 1) - 3000 ≤ 6; omega⟩
    · rw [if_neg b]
      exact ⟨by show k ≤ k + 1; omega, k1, Nat.zero_le _⟩
  · rw [if_neg a]
    by_cases b : q k = 258
    · rw [if_pos b]
      exact ⟨by show k ≤ k + 1; omega, ne k hk (by omega), Nat.le_refl _⟩
    · rw [if_neg b]
      exact ⟨Nat.le_refl _, hk, Nat.le_refl _⟩
theorem pBd_ok {q : Nat → Nat} {K : Nat} (e : q K = 256) {k u : Nat} (hk : k ≤ K) : k ≤ (pBd q k u).2.1 ∧ (pBd q k u).2.1 ≤ K ∧ (pBd q k u).2.2.1.length ≤ (pBd q k u).2.1 - k := by
  unfold pBd
  by_cases a : u = 6 ∨ q k ≠ 59
  · rw [if_pos a]
    by_cases b : q k = 259
    · rw [if_pos b]
      have k1 : k + 1 ≤ K := by
        rcases Nat.lt_or_ge k K with c | c
        · exact c
        · exact absurd (by rw [show k = K by omega]; exact e : q k = 256) (by omega)
      obtain ⟨x1, x2, x3⟩ := gC0 e (k + 1) k1
      exact ⟨by omega, x2, by omega⟩
    · rw [if_neg b]
      exact ⟨Nat.le_refl _, hk, Nat.zero_le _⟩
  · rw [if_neg a]
    exact ⟨Nat.le_refl _, hk, Nat.zero_le _⟩
theorem TS.cong {hb hh : ma_H} {b : Nat → Nat} {n K : Nat} (T : TS hb b n K) (e : ∀ a, a = 4 ∨ a = 5 ∨ a = 6 → hh.2.1 a = hb.2.1 a) : TS hh b n K := by
  obtain ⟨t1, t2, t3, t4, t5, t6, t7, t8⟩ := T
  exact ⟨t1, t2, t3, t4, t5, fun j hj => by rw [ai_c (e 5 (by decide))]; exact t6 j hj, fun j hj => by rw [ai_c (e 4 (by decide))]; exact t7 j hj, fun j hj => by rw [ai_c (e 6 (by decide))]; exact t8 j hj⟩
/-- one CLAUSE more -/
def CN (hh h2 : ma_H) (n i c j d u : Nat) : Prop := Sh h2 ∧ h2.1 = hh.1 ∧ (∀ a, a ≠ 2 → a ≠ 7 → a ≠ 8 → a ≠ 9 → a ≠ 10 → h2.2.1 a = hh.2.1 a) ∧ h2.2.1 2 = rO n j ∧ h2.2.1 7 = lO (i + 1) (c + d) ∧ ai h2 8 = upd (ai hh 8) i (kd u) ∧ ai h2 9 = upd (ai hh 9) i (nI (c + d))
/-- none more: the reader at the fault -/
def CX (hh h2 : ma_H) (n j : Nat) : Prop := Sh h2 ∧ h2.1 = hh.1 ∧ (∀ a, a ≠ 2 → a ≠ 7 → a ≠ 8 → a ≠ 9 → a ≠ 10 → h2.2.1 a = hh.2.1 a) ∧ h2.2.1 2 = rO n j ∧ ∃ cl c, h2.2.1 7 = lO cl c
theorem g56 {h : ma_H} {Q : ma_Q} {hb : ma_H} {n i k c u : Nat} (C : CP hb n i h k c) (i8 : i < 8) (k1 : CP (ma_set (ma_set h 8 (.inl (.int, 8, .inl (upd (ai h 8) i (kd u))))) 9 (.inl (.int, 8, .inl (upd (ai h 9) i (nI c))))) n (i + 1) (ma_set (ma_set (ma_set h 8 (.inl (.int, 8, .inl (upd (ai h 8) i (kd u))))) 9 (.inl (.int, 8, .inl (upd (ai h 9) i (nI c))))) 7 (lO (i + 1) c)) k c → Q none (ma_set (ma_set (ma_set h 8 (.inl (.int, 8, .inl (upd (ai h 8) i (kd u))))) 9 (.inl (.int, 8, .inl (upd (ai h 9) i (nI c))))) 7 (lO (i + 1) c))) : ma_X 56 [.ref 7, .int (kd u)] h Q := by
  obtain ⟨C1, c2, c3, c4, c5⟩ := C
  have e7 : h.2.1 7 = .inr (4, [.int (nI i), .ref 8, .ref 9, .ref 10, .int (nI c)]) := c5
  have e7b : ∀ x, (ma_set h 8 x).2.1 7 = .inr (4, [.int (nI i), .ref 8, .ref 9, .ref 10, .int (nI c)]) := fun x => (ma_set_ne _ _ (by decide)).trans c5
  have e7c : ∀ x y, (ma_set (ma_set h 8 x) 9 y).2.1 7 = .inr (4, [.int (nI i), .ref 8, .ref 9, .ref 10, .int (nI c)]) := fun x y => (ma_set_ne _ _ (by decide)).trans ((ma_set_ne _ _ (by decide)).trans c5)
  have e9b : ∀ x, (ma_set h 8 x).2.1 9 = .inl (.int, 8, .inl (ai h 9)) := fun x => (ma_set_ne _ _ (by decide)).trans C1.e9
  refine ma_enter (m := 56) (Or.inl (by decide)) (by show 2 ≤ mt_n 56; decide +kernel) ?_
  show At 56 Q 0 (mt_c 56) [some (.ref 7), some (.int (kd u))] [] h
  refine go 60 (by decide) ?_
  simp only [KX, KY, KZ, KW, KV, Nat.reduceAdd, Nat.reduceSub, Nat.reduceLeDiff, true_and, and_true, true_or, or_true, or_self, reduceCtorEq, if_true, if_false, not_false_eq_true, eq_self, c56, e7, e7b, e7c, C1.e8, C1.e9, e9b, List.set_cons_succ, List.set_cons_zero]
  rw [if_pos (show nI i < (8 : Int32) from nI_lt (b := 8) i8 (by decide)), nI_clamp (show i < 2 ^ 31 by omega), nI_1 i]
  refine ⟨nI_in (show i < 8 by omega) (by decide), ?_⟩
  try (refine go 60 (by decide) ?_; simp only [KX, KY, KZ, KW, KV, Nat.reduceAdd, Nat.reduceSub, Nat.reduceLeDiff, true_and, and_true, true_or, or_true, or_self, reduceCtorEq, if_true, if_false, not_false_eq_true, eq_self, c56, e7, e7b, e7c, C1.e8, C1.e9, e9b, List.set_cons_succ, List.set_cons_zero])
  refine ⟨nI_in (show i < 8 by omega) (by decide), by simp only [List.length_cons, List.length_nil]; omega, trivial, ?_⟩
  exact k1 ⟨sh_set (sh_set (sh_set C1 rfl) rfl) rfl, rfl, fun a _ a7 _ => ma_set_ne _ _ a7, (ma_set_ne _ _ (by decide)).trans ((ma_set_ne _ _ (by decide)).trans ((ma_set_ne _ _ (by decide)).trans c4)), ma_set_at _ _ _⟩
theorem mkCN {hb h h4 h6 : ma_H} {n i k c0 k4 c4 k6 d u : Nat} (C : CP hb n i h k c0) (C4 : CP hb n i h4 k4 c4) (C6 : CP (ma_set (ma_set h4 8 (.inl (.int, 8, .inl (upd (ai h4 8) i (kd u))))) 9 (.inl (.int, 8, .inl (upd (ai h4 9) i (nI c4))))) n (i + 1) h6 k6 c4) (e : c4 = c0 + d) : CN h h6 n i c0 k6 d u := by
  obtain ⟨C1, c2, c3, c4_, c5⟩ := C
  obtain ⟨D1, d2, d3, d4, d5⟩ := C4
  obtain ⟨E1, e2, e3, e4, e5⟩ := C6
  refine ⟨E1, e2.trans (d2.trans c2.symm), fun a a2 a7 a8 a9 a10 => ?_, e4, by rw [e] at e5; exact e5, ?_, ?_⟩
  · rw [e3 a a2 a7 a10, ma_set_ne _ _ a9, ma_set_ne _ _ a8, d3 a a2 a7 a10, c3 a a2 a7 a10]
  · rw [ai_c (e3 8 (by decide) (by decide) (by decide)), ai_ne _ _ (by decide), ai_at, ai_c (d3 8 (by decide) (by decide) (by decide)), ai_c (c3 8 (by decide) (by decide) (by decide))]
  · rw [ai_c (e3 9 (by decide) (by decide) (by decide)), ai_at, ai_c (d3 9 (by decide) (by decide) (by decide)), ai_c (c3 9 (by decide) (by decide) (by decide)), e]
theorem mkCX {hb h h4 : ma_H} {n i k c0 i4 k4 c4 : Nat} (C : CP hb n i h k c0) (C4 : CP hb n i4 h4 k4 c4) : CX h h4 n k4 := by
  obtain ⟨C1, c2, c3, c4_, c5⟩ := C
  obtain ⟨D1, d2, d3, d4, d5⟩ := C4
  exact ⟨D1, d2.trans c2.symm, fun a a2 a7 a8 a9 a10 => (d3 a a2 a7 a10).trans (c3 a a2 a7 a10).symm, d4, _, _, d5⟩
theorem mkCX6 {hb h h4 h6 : ma_H} {n i k c0 k4 c4 k6 u : Nat} (C : CP hb n i h k c0) (C4 : CP hb n i h4 k4 c4) (C6 : CP (ma_set (ma_set h4 8 (.inl (.int, 8, .inl (upd (ai h4 8) i (kd u))))) 9 (.inl (.int, 8, .inl (upd (ai h4 9) i (nI c4))))) n (i + 1) h6 k6 c4) : CX h h6 n k6 := by
  obtain ⟨C1, c2, c3, c4_, c5⟩ := C
  obtain ⟨D1, d2, d3, d4, d5⟩ := C4
  obtain ⟨E1, e2, e3, e4, e5⟩ := C6
  exact ⟨E1, e2.trans (d2.trans c2.symm), fun a a2 a7 a8 a9 a10 => by rw [e3 a a2 a7 a10, ma_set_ne _ _ a9, ma_set_ne _ _ a8, d3 a a2 a7 a10, c3 a a2 a7 a10], e4, _, _, e5⟩
theorem kd_6 {u : Nat} (h : u < 6) : kd u = nI u := if_neg (by omega)
theorem s75 {h : ma_H} {Q : ma_Q} {hb : ma_H} {b : Nat → Nat} {n K i k : Nat} {A : List Int32} (T : TS hb b n K) (C : CP hb n i h k A.length) (S : seg (ai h 10) 0 A) (hk : k ≤ K) (lc : A.length ≤ k) (i8 : i < 8) (k1 : ∀ h2, (pCl (tq b n) k).1.1 = true → CN h h2 n i A.length (pCl (tq b n) k).1.2.1 (pCl (tq b n) k).1.2.2.1.length (pCl (tq b n) k).2 → seg (ai h2 10) 0 (A ++ (pCl (tq b n) k).1.2.2.1.map tc) → Q (some (.int 1)) h2) (k2 : ∀ h2, (pCl (tq b n) k).1.1 = false → CX h h2 n (pCl (tq b n) k).1.2.1 → Q (some (.int 0)) h2) : ma_X 75 [.ref 2] h Q := by
  have K2 := T.1
  obtain ⟨a1, a2, a3⟩ := pHd_ok (tq_K T) hk
  have R56 : ∀ h4 k4 c4 u, CP hb n i h4 k4 c4 → (pHd (tq b n) k).1 = true → u = (pHd (tq b n) k).2.2 → (pBd (tq b n) (pHd (tq b n) k).2.1 (pHd (tq b n) k).2.2).1 = true → k4 = (pBd (tq b n) (pHd (tq b n) k).2.1 (pHd (tq b n) k).2.2).2.1 → c4 = A.length + (pBd (tq b n) (pHd (tq b n) k).2.1 (pHd (tq b n) k).2.2).2.2.1.length → k4 ≤ K → seg (ai h4 10) 0 (A ++ (pBd (tq b n) (pHd (tq b n) k).2.1 (pHd (tq b n) k).2.2).2.2.1.map tc) → ma_X 56 [.ref 7, .int (kd u)] h4 (fun v h3 => At 75 Q 50 (0, 0) [some (.ref 2), some (.int (kd u))] (v.toList ++ []) h3) := by
    intro h4 k4 c4 u C4 ho eu bo ek ec k4K S4
    refine g56 C4 i8 (fun C5 => ?_)
    have T5 := (T.cong (hh := h4) (fun a ha => C4.2.2.1 a (by omega) (by omega) (by omega)))
    have T6 : TS (ma_set (ma_set h4 8 (.inl (.int, 8, .inl (upd (ai h4 8) i (kd u))))) 9 (.inl (.int, 8, .inl (upd (ai h4 9) i (nI c4))))) b n K := T5.cong (fun a ha => by rw [ma_set_ne _ _ (show a ≠ 9 by omega), ma_set_ne _ _ (show a ≠ 8 by omega)])
    have S5 : seg (ai (ma_set (ma_set (ma_set h4 8 (.inl (.int, 8, .inl (upd (ai h4 8) i (kd u))))) 9 (.inl (.int, 8, .inl (upd (ai h4 9) i (nI c4))))) 7 (lO (i + 1) c4)) 10) 0 (A ++ (pBd (tq b n) (pHd (tq b n) k).2.1 (pHd (tq b n) k).2.2).2.2.1.map tc) := by rw [ai_ne _ _ (by decide), ai_ne _ _ (by decide), ai_ne _ _ (by decide)]; exact S4
    generalize ma_set (ma_set (ma_set h4 8 (.inl (.int, 8, .inl (upd (ai h4 8) i (kd u))))) 9 (.inl (.int, 8, .inl (upd (ai h4 9) i (nI c4))))) 7 (lO (i + 1) c4) = h5 at C5 S5 ⊢
    refine go 60 (by decide) ?_
    simp only [KX, KY, KZ, KW, KV, Nat.reduceAdd, Nat.reduceSub, Nat.reduceLeDiff, true_and, and_true, true_or, or_true, or_self, reduceCtorEq, if_true, if_false, not_false_eq_true, eq_self, c75, C5.e2, C5.e7]
    refine g73 T6 C5 k4K (s := 59) (by decide) S5 (fun y k5 h6 C6 S6 => ?_) (fun y => ?_)
    · have pe : (pCl (tq b n) k) = ((true, (pBd (tq b n) (pHd (tq b n) k).2.1 (pHd (tq b n) k).2.2).2.1 + 1, (pBd (tq b n) (pHd (tq b n) k).2.1 (pHd (tq b n) k).2.2).2.2), (pHd (tq b n) k).2.2) := by
        unfold pCl
        rw [if_pos ho, if_pos bo, if_pos (by rw [← ek]; exact y)]
      try (refine go 60 (by decide) ?_; simp only [KX, KY, KZ, KW, KV, Nat.reduceAdd, Nat.reduceSub, Nat.reduceLeDiff, true_and, and_true, true_or, or_true, or_self, reduceCtorEq, if_true, if_false, not_false_eq_true, eq_self, c75, C6.e2, C6.e7])
      first
        | exact k1 _ (by rw [pe]) (by rw [pe]; subst ek; subst eu; exact mkCN C C4 C6 ec) (by rw [pe]; exact S6)
        | exact ⟨Or.inl rfl, k1 _ (by rw [pe]) (by rw [pe]; subst ek; subst eu; exact mkCN C C4 C6 ec) (by rw [pe]; exact S6)⟩
        | exact ⟨Or.inr rfl, k1 _ (by rw [pe]) (by rw [pe]; subst ek; subst eu; exact mkCN C C4 C6 ec) (by rw [pe]; exact S6)⟩
    · have pe : (pCl (tq b n) k) = ((false, (pBd (tq b n) (pHd (tq b n) k).2.1 (pHd (tq b n) k).2.2).2.1, [], []), 0) := by
        unfold pCl
        rw [if_pos ho, if_pos bo, if_neg (by rw [← ek]; exact y)]
      try (refine go 60 (by decide) ?_; simp only [KX, KY, KZ, KW, KV, Nat.reduceAdd, Nat.reduceSub, Nat.reduceLeDiff, true_and, and_true, true_or, or_true, or_self, reduceCtorEq, if_true, if_false, not_false_eq_true, eq_self, c75, C5.e2, C5.e7])
      first
        | exact k2 _ (by rw [pe]) (by rw [pe]; subst ek; exact mkCX6 C C4 C5)
        | exact ⟨Or.inl rfl, k2 _ (by rw [pe]) (by rw [pe]; subst ek; exact mkCX6 C C4 C5)⟩
        | exact ⟨Or.inr rfl, k2 _ (by rw [pe]) (by rw [pe]; subst ek; exact mkCX6 C C4 C5)⟩
  have R73 : ∀ h4 u, CP hb n i h4 (pHd (tq b n) k).2.1 A.length → (pHd (tq b n) k).1 = true → u = (pHd (tq b n) k).2.2 → (u = 6 ∨ ¬ tq b n (pHd (tq b n) k).2.1 = 59) → seg (ai h4 10) 0 A → ma_X 73 [.ref 2, .int 259] h4 (fun v h3 => At 75 Q 39 (0, 0) [some (.ref 2), some (.int (kd u))] (v.toList ++ []) h3) := by
    intro h4 u C4 ho eu cd S4
    have bd : (pBd (tq b n) (pHd (tq b n) k).2.1 (pHd (tq b n) k).2.2) = if tq b n (pHd (tq b n) k).2.1 = 259 then pC0 (tq b n) ((pHd (tq b n) k).2.1 + 1) else (false, (pHd (tq b n) k).2.1, [], []) := by
      unfold pBd
      rw [if_pos (by rw [← eu]; exact cd)]
    refine g73 T C4 a2 (s := 259) (by decide) S4 (fun y k5 h5 C5 S5 => ?_) (fun y => ?_)
    · rw [if_pos y] at bd
      obtain ⟨g1, g2, g3⟩ := gC0 (tq_K T) _ k5
      refine go 60 (by decide) ?_
      simp only [KX, KY, KZ, KW, KV, Nat.reduceAdd, Nat.reduceSub, Nat.reduceLeDiff, true_and, and_true, true_or, or_true, or_self, reduceCtorEq, if_true, if_false, not_false_eq_true, eq_self, c75, C5.e2, C5.e7]
      refine sC0 T _ _ A _ C5 S5 k5 (by omega) (fun h6 ok6 C6 S6 => ?_) (fun h6 c6 ok6 cc6 C6 => ?_)
      · refine go 60 (by decide) ?_
        simp only [KX, KY, KZ, KW, KV, Nat.reduceAdd, Nat.reduceSub, Nat.reduceLeDiff, true_and, and_true, true_or, or_true, or_self, reduceCtorEq, if_true, if_false, not_false_eq_true, eq_self, c75, C6.e2, C6.e7]
        exact R56 _ _ _ u C6 ho eu (by rw [bd]; exact ok6) (by rw [bd]) (by rw [bd]) g2 (by rw [bd]; exact S6)
      · have pe : (pCl (tq b n) k) = ((false, (pBd (tq b n) (pHd (tq b n) k).2.1 (pHd (tq b n) k).2.2).2.1, [], []), 0) := by
          unfold pCl
          rw [if_pos ho, if_neg (by rw [bd, ok6]; decide)]
        refine go 60 (by decide) ?_
        simp only [KX, KY, KZ, KW, KV, Nat.reduceAdd, Nat.reduceSub, Nat.reduceLeDiff, true_and, and_true, true_or, or_true, or_self, reduceCtorEq, if_true, if_false, not_false_eq_true, eq_self, c75, C6.e2, C6.e7]
        first
          | exact k2 _ (by rw [pe]) (by rw [pe, bd]; exact mkCX C C6)
          | exact ⟨Or.inl rfl, k2 _ (by rw [pe]) (by rw [pe, bd]; exact mkCX C C6)⟩
          | exact ⟨Or.inr rfl, k2 _ (by rw [pe]) (by rw [pe, bd]; exact mkCX C C6)⟩
    · rw [if_neg y] at bd
      have pe : (pCl (tq b n) k) = ((false, (pBd (tq b n) (pHd (tq b n) k).2.1 (pHd (tq b n) k).2.2).2.1, [], []), 0) := by
        unfold pCl
        rw [if_pos ho, if_neg (by rw [bd]; exact Bool.false_ne_true)]
      refine go 60 (by decide) ?_
      simp only [KX, KY, KZ, KW, KV, Nat.reduceAdd, Nat.reduceSub, Nat.reduceLeDiff, true_and, and_true, true_or, or_true, or_self, reduceCtorEq, if_true, if_false, not_false_eq_true, eq_self, c75, C4.e2, C4.e7]
      first
        | exact k2 _ (by rw [pe]) (by rw [pe, bd]; exact mkCX C C4)
        | exact ⟨Or.inl rfl, k2 _ (by rw [pe]) (by rw [pe, bd]; exact mkCX C C4)⟩
        | exact ⟨Or.inr rfl, k2 _ (by rw [pe]) (by rw [pe, bd]; exact mkCX C C4)⟩
  have R71 : ∀ h4 u, CP hb n i h4 (pHd (tq b n) k).2.1 A.length → (pHd (tq b n) k).1 = true → u = (pHd (tq b n) k).2.2 → u < 6 → seg (ai h4 10) 0 A → ma_X 71 [.ref 2, .int 59] h4 (fun v h3 => At 75 Q 35 (0, 0) [some (.ref 2), some (.int (kd u))] (v.toList ++ []) h3) := by
    intro h4 u C4 ho eu u6 S4
    refine g71 T C4 a2 (s := 59) (by decide) (fun y => ?_) (fun y => ?_)
    · have bd : (pBd (tq b n) (pHd (tq b n) k).2.1 (pHd (tq b n) k).2.2) = (true, (pHd (tq b n) k).2.1, [], []) := by
        unfold pBd
        rw [if_neg (fun z => z.elim (fun w => by omega) (fun w => w y))]
      refine go 60 (by decide) ?_
      simp only [KX, KY, KZ, KW, KV, Nat.reduceAdd, Nat.reduceSub, Nat.reduceLeDiff, true_and, and_true, true_or, or_true, or_self, reduceCtorEq, if_true, if_false, not_false_eq_true, eq_self, c75, C4.e2, C4.e7]
      exact R56 _ _ _ u C4 ho eu (by rw [bd]) (by rw [bd]) (by rw [bd]; rfl) a2 (by rw [bd]; show seg _ 0 (A ++ []); rw [List.append_nil]; exact S4)
    · refine go 60 (by decide) ?_
      simp only [KX, KY, KZ, KW, KV, Nat.reduceAdd, Nat.reduceSub, Nat.reduceLeDiff, true_and, and_true, true_or, or_true, or_self, reduceCtorEq, if_true, if_false, not_false_eq_true, eq_self, c75, C4.e2, C4.e7]
      exact R73 _ u C4 ho eu (Or.inr y) S4
  refine ma_enter (m := 75) (Or.inl (by decide)) (by show 1 ≤ mt_n 75; decide +kernel) ?_
  show At 75 Q 0 (mt_c 75) [some (.ref 2), none] [] h
  refine go 60 (by decide) ?_
  simp only [KX, KY, KZ, KW, KV, Nat.reduceAdd, Nat.reduceSub, Nat.reduceLeDiff, true_and, and_true, true_or, or_true, or_self, reduceCtorEq, if_true, if_false, not_false_eq_true, eq_self, c75, C.e2, C.e7]
  refine g73 T C hk (s := 257) (by decide) S (fun y k5 h5 C5 S5 => ?_) (fun y => ?_)
  · refine go 60 (by decide) ?_
    simp only [KX, KY, KZ, KW, KV, Nat.reduceAdd, Nat.reduceSub, Nat.reduceLeDiff, true_and, and_true, true_or, or_true, or_self, reduceCtorEq, if_true, if_false, not_false_eq_true, eq_self, c75, C5.e2, C5.e7]
    refine s74 T C5 k5 ?_
    have ql := tq_lt T (k + 1)
    by_cases z : 3000 ≤ tq b n (k + 1) ∧ tq b n (k + 1) ≤ 3005
    · have hd : (pHd (tq b n) k) = (true, k + 2, tq b n (k + 1) - 3000) := by
        unfold pHd
        rw [if_pos y, if_pos z]
      rw [show cv (qt b n (Ps b n (k + 1))) = kd (tq b n (k + 1) - 3000) by rw [kd_6 (by omega)]; exact cv_q z.1]
      have k6 := tq_in T k5 (by omega)
      have kn : ¬ kd (tq b n (k + 1) - 3000) < 0 := by rw [kd_6 (by omega)]; exact nI_pos (by omega)
      have kl : kd (tq b n (k + 1) - 3000) ≤ 5 := by rw [kd_6 (by omega)]; exact nI_le (b := 5) (by omega) (by decide)
      have km : ¬ kd (tq b n (k + 1) - 3000) = -1 := by
        rw [kd_6 (by omega)]
        intro w
        rw [kd_6 (by omega), w] at kn
        exact kn (by decide)
      have C6 := C5.at (k + 1 + 1)
      have S6 : seg (ai (ma_set h5 2 (rO n (k + 1 + 1))) 10) 0 A := by rw [ai_ne _ _ (by decide)]; exact S5
      refine go 60 (by decide) ?_
      simp only [KX, KY, KZ, KW, KV, Nat.reduceAdd, Nat.reduceSub, Nat.reduceLeDiff, true_and, and_true, true_or, or_true, or_self, reduceCtorEq, if_true, if_false, not_false_eq_true, eq_self, c75, C5.e2, C5.e7, List.set_cons_succ, List.set_cons_zero]
      rw [if_neg kn]
      rw [if_pos kl]
      rw [nI_1 (k + 1)]
      refine ⟨by simp only [List.length_cons, List.length_nil]; omega, trivial, ?_⟩
      rw [if_neg km]
      exact ⟨rfl, R71 _ (tq b n (k + 1) - 3000) (by rw [hd]; exact C6) (by rw [hd]) (by rw [hd]) (by omega) S6⟩
    · have hd : (pHd (tq b n) k) = (false, k + 1, 0) := by
        unfold pHd
        rw [if_pos y, if_neg z]
      have pe : (pCl (tq b n) k) = ((false, k + 1, [], []), 0) := by
        unfold pCl
        rw [if_neg (by rw [hd]; exact Bool.false_ne_true), hd]
      by_cases w : 3000 ≤ tq b n (k + 1)
      · rw [show cv (qt b n (Ps b n (k + 1))) = nI (tq b n (k + 1) - 3000) from cv_q w]
        refine go 60 (by decide) ?_
        simp only [KX, KY, KZ, KW, KV, Nat.reduceAdd, Nat.reduceSub, Nat.reduceLeDiff, true_and, and_true, true_or, or_true, or_self, reduceCtorEq, if_true, if_false, not_false_eq_true, eq_self, c75, C5.e2, C5.e7]
        rw [if_neg (nI_pos (by omega))]
        rw [if_neg (show ¬ nI (tq b n (k + 1) - 3000) ≤ 5 from Int32.not_le.mpr (show (5 : Int32) < nI (tq b n (k + 1) - 3000) from nI_lt (a := 5) (by omega) (by omega)))]
        try (refine go 60 (by decide) ?_; simp only [KX, KY, KZ, KW, KV, Nat.reduceAdd, Nat.reduceSub, Nat.reduceLeDiff, true_and, and_true, true_or, or_true, or_self, reduceCtorEq, if_true, if_false, not_false_eq_true, eq_self, c75, C5.e2, C5.e7])
        first
          | exact k2 _ (by rw [pe]) (by rw [pe]; exact mkCX C C5)
          | exact ⟨Or.inl rfl, k2 _ (by rw [pe]) (by rw [pe]; exact mkCX C C5)⟩
          | exact ⟨Or.inr rfl, k2 _ (by rw [pe]) (by rw [pe]; exact mkCX C C5)⟩
      · rw [show cv (qt b n (Ps b n (k + 1))) = -1 from if_neg w]
        refine go 60 (by decide) ?_
        simp only [KX, KY, KZ, KW, KV, Nat.reduceAdd, Nat.reduceSub, Nat.reduceLeDiff, true_and, and_true, true_or, or_true, or_self, reduceCtorEq, if_true, if_false, not_false_eq_true, eq_self, c75, C5.e2, C5.e7]
        first
          | exact k2 _ (by rw [pe]) (by rw [pe]; exact mkCX C C5)
          | exact ⟨Or.inl rfl, k2 _ (by rw [pe]) (by rw [pe]; exact mkCX C C5)⟩
          | exact ⟨Or.inr rfl, k2 _ (by rw [pe]) (by rw [pe]; exact mkCX C C5)⟩
  · refine go 60 (by decide) ?_
    simp only [KX, KY, KZ, KW, KV, Nat.reduceAdd, Nat.reduceSub, Nat.reduceLeDiff, true_and, and_true, true_or, or_true, or_self, reduceCtorEq, if_true, if_false, not_false_eq_true, eq_self, c75, C.e2, C.e7]
    refine g73 T C hk (s := 258) (by decide) S (fun z k5 h5 C5 S5 => ?_) (fun z => ?_)
    · have hd : (pHd (tq b n) k) = (true, k + 1, 6) := by
        unfold pHd
        rw [if_neg y, if_pos z]
      refine go 60 (by decide) ?_
      simp only [KX, KY, KZ, KW, KV, Nat.reduceAdd, Nat.reduceSub, Nat.reduceLeDiff, true_and, and_true, true_or, or_true, or_self, reduceCtorEq, if_true, if_false, not_false_eq_true, eq_self, c75, C5.e2, C5.e7]
      exact R73 _ 6 (by rw [hd]; exact C5) (by rw [hd]) (by rw [hd]) (Or.inl rfl) S5
    · have hd : (pHd (tq b n) k) = (false, k, 6) := by
        unfold pHd
        rw [if_neg y, if_neg z]
      have pe : (pCl (tq b n) k) = ((false, k, [], []), 0) := by
        unfold pCl
        rw [if_neg (by rw [hd]; exact Bool.false_ne_true), hd]
      refine go 60 (by decide) ?_
      simp only [KX, KY, KZ, KW, KV, Nat.reduceAdd, Nat.reduceSub, Nat.reduceLeDiff, true_and, and_true, true_or, or_true, or_self, reduceCtorEq, if_true, if_false, not_false_eq_true, eq_self, c75, C.e2, C.e7]
      first
        | exact k2 _ (by rw [pe]) (by rw [pe]; exact mkCX C C)
        | exact ⟨Or.inl rfl, k2 _ (by rw [pe]) (by rw [pe]; exact mkCX C C)⟩
        | exact ⟨Or.inr rfl, k2 _ (by rw [pe]) (by rw [pe]; exact mkCX C C)⟩
