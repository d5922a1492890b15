/-! BODIES: grows, takes, shares, tells of the class -/
/-- THE TRACE: how many, which -/
abbrev TT : Type := Nat × (Nat → Int32)
def push (b : Int32) (T : TT) : TT := if T.1 < 30 then (T.1 + 1, upd T.2 T.1 b) else T
theorem push_le {b : Int32} {T : TT} (h : T.1 ≤ 30) : (push b T).1 ≤ 30 := by
  unfold push
  split
  · show T.1 + 1 ≤ 30
    omega
  · exact h
def gP (i x : Int32) (T : TT) : Int32 × TT := (x + i, push 10 T)
def gA (i x : Int32) (T : TT) : Int32 × TT := ((gP i x (push 40 T)).1 * 3, (gP i x (push 40 T)).2)
def gro (kk : Nat) (i x : Int32) (T : TT) : Int32 × TT := match kk with
  | 2 => (0 - (gP i x (push 30 T)).1, (gP i x (push 30 T)).2)
  | 3 => gA i x T
  | 4 => ((gA i x (push 51 T)).1 - i, (gA i x (push 51 T)).2)
  | _ => gP i x T
def tP (kk : Nat) (i x : Int32) (T : TT) : Int32 × TT := ((gro kk i x (push 11 T)).1 * 2, (gro kk i x (push 11 T)).2)
def tL (kk : Nat) (i a x : Int32) (T : TT) : Int32 × TT := ((tP kk i x (push 20 T)).1 - a, (tP kk i x (push 20 T)).2)
def tA (kk : Nat) (i a x : Int32) (T : TT) : Int32 × TT := ((tL kk i a x (push 41 T)).1 + (gro kk i i (tL kk i a x (push 41 T)).2).1, (gro kk i i (tL kk i a x (push 41 T)).2).2)
def tak (kk : Nat) (i a x : Int32) (T : TT) : Int32 × TT := match kk with
  | 1 => tL 1 i a x T
  | 3 => tA 3 i a x T
  | 4 => tA 4 i a x T
  | k => tP k i x T
def sPv (i a x : Int32) : Int32 := if a - i = 0 then 0 else x / (a - i)
def sPp (i a : Int32) : Int32 := if a - i = 0 then 1 else 0
def sha (kk : Nat) (i a x : Int32) (T : TT) : Int32 × TT := match kk with
  | 4 => (sPv i a (x + 2) ^^^ 1, push 12 (push 50 T))
  | 5 => if sPp i a = 0 then (sPv i a x + (gro 5 i a (push 12 (push 61 T))).1, (gro 5 i a (push 12 (push 61 T))).2) else (0, push 12 (push 61 T))
  | _ => (sPv i a x, push 12 T)
def lP (kk : Nat) (i a x : Int32) (T : TT) : Int32 × TT := ((tak kk i a x (push 13 T)).1 ^^^ a, (tak kk i a x (push 13 T)).2)
def tel (kk : Nat) (i a x : Int32) (T : TT) : Int32 × TT := match kk with
  | 2 => ((lP 2 i a x (push 31 T)).1 + sPv i a i, push 12 (lP 2 i a x (push 31 T)).2)
  | 5 => ((lP 5 i a x (push 60 T)).1 * 2, (lP 5 i a x (push 60 T)).2)
  | k => lP k i a x T
def telp (kk : Nat) (i a : Int32) : Int32 := match kk with
  | 2 => sPp i a
  | _ => 0
/-- the class' heap with this TRACE -/
def hb (h : ma_H) (T : TT) (p : Int32) : ma_H := ma_set (ma_set h 28 (.inl (.int, 30, .inl T.2))) 27 (.inr (9, [.ref 28, .int (nI T.1), .int p]))
theorem hb_27 (h : ma_H) (T : TT) (p : Int32) : (hb h T p).2.1 27 = .inr (9, [.ref 28, .int (nI T.1), .int p]) := ma_set_at _ _ _
theorem hb_28 (h : ma_H) (T : TT) (p : Int32) : (hb h T p).2.1 28 = .inl (.int, 30, .inl T.2) := (ma_set_ne _ _ (by decide)).trans (ma_set_at _ _ _)
theorem hb_ne (h : ma_H) (T : TT) (p : Int32) {q : Nat} (h1 : q ≠ 27) (h2 : q ≠ 28) : (hb h T p).2.1 q = h.2.1 q := (ma_set_ne _ _ h1).trans (ma_set_ne _ _ h2)
theorem hb_push (h : ma_H) (T : TT) (p : Int32) (b : Int32) (ht : T.1 < 30) : ma_set (ma_set (hb h T p) 27 (.inr (9, [.ref 28, .int (nI (T.1 + 1)), .int p]))) 28 (.inl (.int, 30, .inl (upd T.2 T.1 b))) = hb h (push b T) p := by
  unfold hb push
  rw [if_pos ht, ma_set_set, ma_set_swap _ (show 27 ≠ 28 by decide), ma_set_set]
theorem hb_p (h : ma_H) (T : TT) (p p2 : Int32) : ma_set (hb h T p) 27 (.inr (9, [.ref 28, .int (nI T.1), .int p2])) = hb h T p2 := by
  unfold hb
  rw [ma_set_set]
theorem x47 {h : ma_H} {Q : ma_Q} {g ci : Nat} {kx i a : Int32} (g1 : g ≠ 27) (g2 : g ≠ 28) (e : h.2.1 g = .inr (ci, [.int kx, .int i, .int a, .ref 27])) (u : me_un 3 ci = true) {x : Int32} {T : TT} (hT : T.1 ≤ 30) {pp : Int32} (k : At 47 Q 18 (0, 0) [some (.ref g), some (.int x)] [] (hb h (push 10 T) pp)) : ma_X 47 [.ref g, .int x] (hb h T pp) Q := by
  have he : ∀ T p, (hb h T p).2.1 g = _ := fun T p => (hb_ne h T p g1 g2).trans e
  have he2 : ∀ T p c, (ma_set (hb h T p) 27 c).2.1 g = _ := fun T p c => (ma_set_ne _ _ g1).trans (he T p)
  refine ma_enter (m := 47) (Or.inl (by decide)) (by show 2 ≤ mt_n 47; decide +kernel) ?_
  show At 47 Q 0 (0, 0) [some (.ref g), some (.int x)] [] (hb h T pp)
  refine go 4 (by decide) ?_
  simp only [KX, KY, KZ, KW, KV, Nat.reduceAdd, Nat.reduceSub, Nat.reduceLeDiff, true_and, and_true, true_or, or_true, or_self, reduceCtorEq, if_true, if_false, not_false_eq_true, eq_self, c47, he, u, hb_27, hb_28, ma_set_at]
  by_cases c : T.1 < 30
  · rw [if_pos (show nI T.1 < (30 : Int32) from nI_lt c (by decide))]
    refine go 12 (by decide) ?_
    simp only [KX, KY, KZ, KW, KV, Nat.reduceAdd, Nat.reduceSub, Nat.reduceLeDiff, true_and, and_true, true_or, or_true, or_self, reduceCtorEq, if_true, if_false, not_false_eq_true, eq_self, c47, he, u, hb_27, hb_28, ma_set_at, he2, List.set_cons_succ, List.set_cons_zero, show ∀ T p c, (ma_set (hb h T p) 27 c).2.1 28 = .inl (.int, 30, .inl T.2) from fun T p c => (ma_set_ne _ _ (by decide)).trans (hb_28 h T p)]
    refine ⟨by simp only [List.length_cons, List.length_nil]; omega, trivial, nI_in c (by decide), ?_⟩
    rw [nI_clamp (by omega), nI_1, hb_push h T pp 10 c]
    exact k
  · have e0 : push 10 T = T := if_neg c
    rw [e0] at k
    by_cases c2 : nI T.1 < (30 : Int32)
    · rw [if_pos c2]
      exact absurd ((nI_ltI (show T.1 < 2 ^ 31 by omega) (show 30 < 2 ^ 31 by decide)).mp c2) c
    · rw [if_neg c2]
      exact k
theorem x48 {h : ma_H} {Q : ma_Q} {g ci : Nat} {kx i a : Int32} (g1 : g ≠ 27) (g2 : g ≠ 28) (e : h.2.1 g = .inr (ci, [.int kx, .int i, .int a, .ref 27])) (u : me_un 3 ci = true) {x : Int32} {T : TT} (hT : T.1 ≤ 30) {pp : Int32} (k : At 48 Q 18 (0, 0) [some (.ref g), some (.int x)] [] (hb h (push 11 T) pp)) : ma_X 48 [.ref g, .int x] (hb h T pp) Q := by
  have he : ∀ T p, (hb h T p).2.1 g = _ := fun T p => (hb_ne h T p g1 g2).trans e
  have he2 : ∀ T p c, (ma_set (hb h T p) 27 c).2.1 g = _ := fun T p c => (ma_set_ne _ _ g1).trans (he T p)
  refine ma_enter (m := 48) (Or.inl (by decide)) (by show 2 ≤ mt_n 48; decide +kernel) ?_
  show At 48 Q 0 (0, 0) [some (.ref g), some (.int x)] [] (hb h T pp)
  refine go 4 (by decide) ?_
  simp only [KX, KY, KZ, KW, KV, Nat.reduceAdd, Nat.reduceSub, Nat.reduceLeDiff, true_and, and_true, true_or, or_true, or_self, reduceCtorEq, if_true, if_false, not_false_eq_true, eq_self, c48, he, u, hb_27, hb_28, ma_set_at]
  by_cases c : T.1 < 30
  · rw [if_pos (show nI T.1 < (30 : Int32) from nI_lt c (by decide))]
    refine go 12 (by decide) ?_
    simp only [KX, KY, KZ, KW, KV, Nat.reduceAdd, Nat.reduceSub, Nat.reduceLeDiff, true_and, and_true, true_or, or_true, or_self, reduceCtorEq, if_true, if_false, not_false_eq_true, eq_self, c48, he, u, hb_27, hb_28, ma_set_at, he2, List.set_cons_succ, List.set_cons_zero, show ∀ T p c, (ma_set (hb h T p) 27 c).2.1 28 = .inl (.int, 30, .inl T.2) from fun T p c => (ma_set_ne _ _ (by decide)).trans (hb_28 h T p)]
    refine ⟨by simp only [List.length_cons, List.length_nil]; omega, trivial, nI_in c (by decide), ?_⟩
    rw [nI_clamp (by omega), nI_1, hb_push h T pp 11 c]
    exact k
  · have e0 : push 11 T = T := if_neg c
    rw [e0] at k
    by_cases c2 : nI T.1 < (30 : Int32)
    · rw [if_pos c2]
      exact absurd ((nI_ltI (show T.1 < 2 ^ 31 by omega) (show 30 < 2 ^ 31 by decide)).mp c2) c
    · rw [if_neg c2]
      exact k
theorem x49 {h : ma_H} {Q : ma_Q} {g ci : Nat} {kx i a : Int32} (g1 : g ≠ 27) (g2 : g ≠ 28) (e : h.2.1 g = .inr (ci, [.int kx, .int i, .int a, .ref 27])) (u : me_un 3 ci = true) {x : Int32} {T : TT} (hT : T.1 ≤ 30) {pp : Int32} (k : At 49 Q 18 (0, 0) [some (.ref g), some (.int x), none] [] (hb h (push 12 T) pp)) : ma_X 49 [.ref g, .int x] (hb h T pp) Q := by
  have he : ∀ T p, (hb h T p).2.1 g = _ := fun T p => (hb_ne h T p g1 g2).trans e
  have he2 : ∀ T p c, (ma_set (hb h T p) 27 c).2.1 g = _ := fun T p c => (ma_set_ne _ _ g1).trans (he T p)
  refine ma_enter (m := 49) (Or.inl (by decide)) (by show 2 ≤ mt_n 49; decide +kernel) ?_
  show At 49 Q 0 (0, 0) [some (.ref g), some (.int x), none] [] (hb h T pp)
  refine go 4 (by decide) ?_
  simp only [KX, KY, KZ, KW, KV, Nat.reduceAdd, Nat.reduceSub, Nat.reduceLeDiff, true_and, and_true, true_or, or_true, or_self, reduceCtorEq, if_true, if_false, not_false_eq_true, eq_self, c49, he, u, hb_27, hb_28, ma_set_at]
  by_cases c : T.1 < 30
  · rw [if_pos (show nI T.1 < (30 : Int32) from nI_lt c (by decide))]
    refine go 12 (by decide) ?_
    simp only [KX, KY, KZ, KW, KV, Nat.reduceAdd, Nat.reduceSub, Nat.reduceLeDiff, true_and, and_true, true_or, or_true, or_self, reduceCtorEq, if_true, if_false, not_false_eq_true, eq_self, c49, he, u, hb_27, hb_28, ma_set_at, he2, List.set_cons_succ, List.set_cons_zero, show ∀ T p c, (ma_set (hb h T p) 27 c).2.1 28 = .inl (.int, 30, .inl T.2) from fun T p c => (ma_set_ne _ _ (by decide)).trans (hb_28 h T p)]
    refine ⟨by simp only [List.length_cons, List.length_nil]; omega, trivial, nI_in c (by decide), ?_⟩
    rw [nI_clamp (by omega), nI_1, hb_push h T pp 12 c]
    exact k
  · have e0 : push 12 T = T := if_neg c
    rw [e0] at k
    by_cases c2 : nI T.1 < (30 : Int32)
    · rw [if_pos c2]
      exact absurd ((nI_ltI (show T.1 < 2 ^ 31 by omega) (show 30 < 2 ^ 31 by decide)).mp c2) c
    · rw [if_neg c2]
      exact k
theorem x50 {h : ma_H} {Q : ma_Q} {g ci : Nat} {kx i a : Int32} (g1 : g ≠ 27) (g2 : g ≠ 28) (e : h.2.1 g = .inr (ci, [.int kx, .int i, .int a, .ref 27])) (u : me_un 3 ci = true) {x : Int32} {T : TT} (hT : T.1 ≤ 30) {pp : Int32} (k : At 50 Q 18 (0, 0) [some (.ref g), some (.int x)] [] (hb h (push 13 T) pp)) : ma_X 50 [.ref g, .int x] (hb h T pp) Q := by
  have he : ∀ T p, (hb h T p).2.1 g = _ := fun T p => (hb_ne h T p g1 g2).trans e
  have he2 : ∀ T p c, (ma_set (hb h T p) 27 c).2.1 g = _ := fun T p c => (ma_set_ne _ _ g1).trans (he T p)
  refine ma_enter (m := 50) (Or.inl (by decide)) (by show 2 ≤ mt_n 50; decide +kernel) ?_
  show At 50 Q 0 (0, 0) [some (.ref g), some (.int x)] [] (hb h T pp)
  refine go 4 (by decide) ?_
  simp only [KX, KY, KZ, KW, KV, Nat.reduceAdd, Nat.reduceSub, Nat.reduceLeDiff, true_and, and_true, true_or, or_true, or_self, reduceCtorEq, if_true, if_false, not_false_eq_true, eq_self, c50, he, u, hb_27, hb_28, ma_set_at]
  by_cases c : T.1 < 30
  · rw [if_pos (show nI T.1 < (30 : Int32) from nI_lt c (by decide))]
    refine go 12 (by decide) ?_
    simp only [KX, KY, KZ, KW, KV, Nat.reduceAdd, Nat.reduceSub, Nat.reduceLeDiff, true_and, and_true, true_or, or_true, or_self, reduceCtorEq, if_true, if_false, not_false_eq_true, eq_self, c50, he, u, hb_27, hb_28, ma_set_at, he2, List.set_cons_succ, List.set_cons_zero, show ∀ T p c, (ma_set (hb h T p) 27 c).2.1 28 = .inl (.int, 30, .inl T.2) from fun T p c => (ma_set_ne _ _ (by decide)).trans (hb_28 h T p)]
    refine ⟨by simp only [List.length_cons, List.length_nil]; omega, trivial, nI_in c (by decide), ?_⟩
    rw [nI_clamp (by omega), nI_1, hb_push h T pp 13 c]
    exact k
  · have e0 : push 13 T = T := if_neg c
    rw [e0] at k
    by_cases c2 : nI T.1 < (30 : Int32)
    · rw [if_pos c2]
      exact absurd ((nI_ltI (show T.1 < 2 ^ 31 by omega) (show 30 < 2 ^ 31 by decide)).mp c2) c
    · rw [if_neg c2]
      exact k
theorem x82 {h : ma_H} {Q : ma_Q} {g ci : Nat} {kx i a : Int32} (g1 : g ≠ 27) (g2 : g ≠ 28) (e : h.2.1 g = .inr (ci, [.int kx, .int i, .int a, .ref 27])) (u : me_un 6 ci = true) {x : Int32} {T : TT} (hT : T.1 ≤ 30) {pp : Int32} (k : At 82 Q 18 (0, 0) [some (.ref g), some (.int x)] [] (hb h (push 30 T) pp)) : ma_X 82 [.ref g, .int x] (hb h T pp) Q := by
  have he : ∀ T p, (hb h T p).2.1 g = _ := fun T p => (hb_ne h T p g1 g2).trans e
  have he2 : ∀ T p c, (ma_set (hb h T p) 27 c).2.1 g = _ := fun T p c => (ma_set_ne _ _ g1).trans (he T p)
  refine ma_enter (m := 82) (Or.inl (by decide)) (by show 2 ≤ mt_n 82; decide +kernel) ?_
  show At 82 Q 0 (0, 0) [some (.ref g), some (.int x)] [] (hb h T pp)
  refine go 4 (by decide) ?_
  simp only [KX, KY, KZ, KW, KV, Nat.reduceAdd, Nat.reduceSub, Nat.reduceLeDiff, true_and, and_true, true_or, or_true, or_self, reduceCtorEq, if_true, if_false, not_false_eq_true, eq_self, c82, he, u, hb_27, hb_28, ma_set_at]
  by_cases c : T.1 < 30
  · rw [if_pos (show nI T.1 < (30 : Int32) from nI_lt c (by decide))]
    refine go 12 (by decide) ?_
    simp only [KX, KY, KZ, KW, KV, Nat.reduceAdd, Nat.reduceSub, Nat.reduceLeDiff, true_and, and_true, true_or, or_true, or_self, reduceCtorEq, if_true, if_false, not_false_eq_true, eq_self, c82, he, u, hb_27, hb_28, ma_set_at, he2, List.set_cons_succ, List.set_cons_zero, show ∀ T p c, (ma_set (hb h T p) 27 c).2.1 28 = .inl (.int, 30, .inl T.2) from fun T p c => (ma_set_ne _ _ (by decide)).trans (hb_28 h T p)]
    refine ⟨by simp only [List.length_cons, List.length_nil]; omega, trivial, nI_in c (by decide), ?_⟩
    rw [nI_clamp (by omega), nI_1, hb_push h T pp 30 c]
    exact k
  · have e0 : push 30 T = T := if_neg c
    rw [e0] at k
    by_cases c2 : nI T.1 < (30 : Int32)
    · rw [if_pos c2]
      exact absurd ((nI_ltI (show T.1 < 2 ^ 31 by omega) (show 30 < 2 ^ 31 by decide)).mp c2) c
    · rw [if_neg c2]
      exact k
theorem x83 {h : ma_H} {Q : ma_Q} {g ci : Nat} {kx i a : Int32} (g1 : g ≠ 27) (g2 : g ≠ 28) (e : h.2.1 g = .inr (ci, [.int kx, .int i, .int a, .ref 27])) (u : me_un 6 ci = true) {x : Int32} {T : TT} (hT : T.1 ≤ 30) {pp : Int32} (k : At 83 Q 18 (0, 0) [some (.ref g), some (.int x), none] [] (hb h (push 31 T) pp)) : ma_X 83 [.ref g, .int x] (hb h T pp) Q := by
  have he : ∀ T p, (hb h T p).2.1 g = _ := fun T p => (hb_ne h T p g1 g2).trans e
  have he2 : ∀ T p c, (ma_set (hb h T p) 27 c).2.1 g = _ := fun T p c => (ma_set_ne _ _ g1).trans (he T p)
  refine ma_enter (m := 83) (Or.inl (by decide)) (by show 2 ≤ mt_n 83; decide +kernel) ?_
  show At 83 Q 0 (0, 0) [some (.ref g), some (.int x), none] [] (hb h T pp)
  refine go 4 (by decide) ?_
  simp only [KX, KY, KZ, KW, KV, Nat.reduceAdd, Nat.reduceSub, Nat.reduceLeDiff, true_and, and_true, true_or, or_true, or_self, reduceCtorEq, if_true, if_false, not_false_eq_true, eq_self, c83, he, u, hb_27, hb_28, ma_set_at]
  by_cases c : T.1 < 30
  · rw [if_pos (show nI T.1 < (30 : Int32) from nI_lt c (by decide))]
    refine go 12 (by decide) ?_
    simp only [KX, KY, KZ, KW, KV, Nat.reduceAdd, Nat.reduceSub, Nat.reduceLeDiff, true_and, and_true, true_or, or_true, or_self, reduceCtorEq, if_true, if_false, not_false_eq_true, eq_self, c83, he, u, hb_27, hb_28, ma_set_at, he2, List.set_cons_succ, List.set_cons_zero, show ∀ T p c, (ma_set (hb h T p) 27 c).2.1 28 = .inl (.int, 30, .inl T.2) from fun T p c => (ma_set_ne _ _ (by decide)).trans (hb_28 h T p)]
    refine ⟨by simp only [List.length_cons, List.length_nil]; omega, trivial, nI_in c (by decide), ?_⟩
    rw [nI_clamp (by omega), nI_1, hb_push h T pp 31 c]
    exact k
  · have e0 : push 31 T = T := if_neg c
    rw [e0] at k
    by_cases c2 : nI T.1 < (30 : Int32)
    · rw [if_pos c2]
      exact absurd ((nI_ltI (show T.1 < 2 ^ 31 by omega) (show 30 < 2 ^ 31 by decide)).mp c2) c
    · rw [if_neg c2]
      exact k
theorem x86 {h : ma_H} {Q : ma_Q} {g ci : Nat} {kx i a : Int32} (g1 : g ≠ 27) (g2 : g ≠ 28) (e : h.2.1 g = .inr (ci, [.int kx, .int i, .int a, .ref 27])) (u : me_un 7 ci = true) {x : Int32} {T : TT} (hT : T.1 ≤ 30) {pp : Int32} (k : At 86 Q 18 (0, 0) [some (.ref g), some (.int x)] [] (hb h (push 20 T) pp)) : ma_X 86 [.ref g, .int x] (hb h T pp) Q := by
  have he : ∀ T p, (hb h T p).2.1 g = _ := fun T p => (hb_ne h T p g1 g2).trans e
  have he2 : ∀ T p c, (ma_set (hb h T p) 27 c).2.1 g = _ := fun T p c => (ma_set_ne _ _ g1).trans (he T p)
  refine ma_enter (m := 86) (Or.inl (by decide)) (by show 2 ≤ mt_n 86; decide +kernel) ?_
  show At 86 Q 0 (0, 0) [some (.ref g), some (.int x)] [] (hb h T pp)
  refine go 4 (by decide) ?_
  simp only [KX, KY, KZ, KW, KV, Nat.reduceAdd, Nat.reduceSub, Nat.reduceLeDiff, true_and, and_true, true_or, or_true, or_self, reduceCtorEq, if_true, if_false, not_false_eq_true, eq_self, c86, he, u, hb_27, hb_28, ma_set_at]
  by_cases c : T.1 < 30
  · rw [if_pos (show nI T.1 < (30 : Int32) from nI_lt c (by decide))]
    refine go 12 (by decide) ?_
    simp only [KX, KY, KZ, KW, KV, Nat.reduceAdd, Nat.reduceSub, Nat.reduceLeDiff, true_and, and_true, true_or, or_true, or_self, reduceCtorEq, if_true, if_false, not_false_eq_true, eq_self, c86, he, u, hb_27, hb_28, ma_set_at, he2, List.set_cons_succ, List.set_cons_zero, show ∀ T p c, (ma_set (hb h T p) 27 c).2.1 28 = .inl (.int, 30, .inl T.2) from fun T p c => (ma_set_ne _ _ (by decide)).trans (hb_28 h T p)]
    refine ⟨by simp only [List.length_cons, List.length_nil]; omega, trivial, nI_in c (by decide), ?_⟩
    rw [nI_clamp (by omega), nI_1, hb_push h T pp 20 c]
    exact k
  · have e0 : push 20 T = T := if_neg c
    rw [e0] at k
    by_cases c2 : nI T.1 < (30 : Int32)
    · rw [if_pos c2]
      exact absurd ((nI_ltI (show T.1 < 2 ^ 31 by omega) (show 30 < 2 ^ 31 by decide)).mp c2) c
    · rw [if_neg c2]
      exact k
theorem x2 {h : ma_H} {Q : ma_Q} {g ci : Nat} {kx i a : Int32} (g1 : g ≠ 27) (g2 : g ≠ 28) (e : h.2.1 g = .inr (ci, [.int kx, .int i, .int a, .ref 27])) (u : me_un 0 ci = true) {x : Int32} {T : TT} (hT : T.1 ≤ 30) {pp : Int32} (k : At 2 Q 18 (0, 0) [some (.ref g), some (.int x)] [] (hb h (push 40 T) pp)) : ma_X 2 [.ref g, .int x] (hb h T pp) Q := by
  have he : ∀ T p, (hb h T p).2.1 g = _ := fun T p => (hb_ne h T p g1 g2).trans e
  have he2 : ∀ T p c, (ma_set (hb h T p) 27 c).2.1 g = _ := fun T p c => (ma_set_ne _ _ g1).trans (he T p)
  refine ma_enter (m := 2) (Or.inl (by decide)) (by show 2 ≤ mt_n 2; decide +kernel) ?_
  show At 2 Q 0 (0, 0) [some (.ref g), some (.int x)] [] (hb h T pp)
  refine go 4 (by decide) ?_
  simp only [KX, KY, KZ, KW, KV, Nat.reduceAdd, Nat.reduceSub, Nat.reduceLeDiff, true_and, and_true, true_or, or_true, or_self, reduceCtorEq, if_true, if_false, not_false_eq_true, eq_self, c2, he, u, hb_27, hb_28, ma_set_at]
  by_cases c : T.1 < 30
  · rw [if_pos (show nI T.1 < (30 : Int32) from nI_lt c (by decide))]
    refine go 12 (by decide) ?_
    simp only [KX, KY, KZ, KW, KV, Nat.reduceAdd, Nat.reduceSub, Nat.reduceLeDiff, true_and, and_true, true_or, or_true, or_self, reduceCtorEq, if_true, if_false, not_false_eq_true, eq_self, c2, he, u, hb_27, hb_28, ma_set_at, he2, List.set_cons_succ, List.set_cons_zero, show ∀ T p c, (ma_set (hb h T p) 27 c).2.1 28 = .inl (.int, 30, .inl T.2) from fun T p c => (ma_set_ne _ _ (by decide)).trans (hb_28 h T p)]
    refine ⟨by simp only [List.length_cons, List.length_nil]; omega, trivial, nI_in c (by decide), ?_⟩
    rw [nI_clamp (by omega), nI_1, hb_push h T pp 40 c]
    exact k
  · have e0 : push 40 T = T := if_neg c
    rw [e0] at k
    by_cases c2 : nI T.1 < (30 : Int32)
    · rw [if_pos c2]
      exact absurd ((nI_ltI (show T.1 < 2 ^ 31 by omega) (show 30 < 2 ^ 31 by decide)).mp c2) c
    · rw [if_neg c2]
      exact k
theorem x3 {h : ma_H} {Q : ma_Q} {g ci : Nat} {kx i a : Int32} (g1 : g ≠ 27) (g2 : g ≠ 28) (e : h.2.1 g = .inr (ci, [.int kx, .int i, .int a, .ref 27])) (u : me_un 0 ci = true) {x : Int32} {T : TT} (hT : T.1 ≤ 30) {pp : Int32} (k : At 3 Q 18 (0, 0) [some (.ref g), some (.int x), none] [] (hb h (push 41 T) pp)) : ma_X 3 [.ref g, .int x] (hb h T pp) Q := by
  have he : ∀ T p, (hb h T p).2.1 g = _ := fun T p => (hb_ne h T p g1 g2).trans e
  have he2 : ∀ T p c, (ma_set (hb h T p) 27 c).2.1 g = _ := fun T p c => (ma_set_ne _ _ g1).trans (he T p)
  refine ma_enter (m := 3) (Or.inl (by decide)) (by show 2 ≤ mt_n 3; decide +kernel) ?_
  show At 3 Q 0 (0, 0) [some (.ref g), some (.int x), none] [] (hb h T pp)
  refine go 4 (by decide) ?_
  simp only [KX, KY, KZ, KW, KV, Nat.reduceAdd, Nat.reduceSub, Nat.reduceLeDiff, true_and, and_true, true_or, or_true, or_self, reduceCtorEq, if_true, if_false, not_false_eq_true, eq_self, c3, he, u, hb_27, hb_28, ma_set_at]
  by_cases c : T.1 < 30
  · rw [if_pos (show nI T.1 < (30 : Int32) from nI_lt c (by decide))]
    refine go 12 (by decide) ?_
    simp only [KX, KY, KZ, KW, KV, Nat.reduceAdd, Nat.reduceSub, Nat.reduceLeDiff, true_and, and_true, true_or, or_true, or_self, reduceCtorEq, if_true, if_false, not_false_eq_true, eq_self, c3, he, u, hb_27, hb_28, ma_set_at, he2, List.set_cons_succ, List.set_cons_zero, show ∀ T p c, (ma_set (hb h T p) 27 c).2.1 28 = .inl (.int, 30, .inl T.2) from fun T p c => (ma_set_ne _ _ (by decide)).trans (hb_28 h T p)]
    refine ⟨by simp only [List.length_cons, List.length_nil]; omega, trivial, nI_in c (by decide), ?_⟩
    rw [nI_clamp (by omega), nI_1, hb_push h T pp 41 c]
    exact k
  · have e0 : push 41 T = T := if_neg c
    rw [e0] at k
    by_cases c2 : nI T.1 < (30 : Int32)
    · rw [if_pos c2]
      exact absurd ((nI_ltI (show T.1 < 2 ^ 31 by omega) (show 30 < 2 ^ 31 by decide)).mp c2) c
    · rw [if_neg c2]
      exact k
theorem x89 {h : ma_H} {Q : ma_Q} {g ci : Nat} {kx i a : Int32} (g1 : g ≠ 27) (g2 : g ≠ 28) (e : h.2.1 g = .inr (ci, [.int kx, .int i, .int a, .ref 27])) (u : me_un 8 ci = true) {x : Int32} {T : TT} (hT : T.1 ≤ 30) {pp : Int32} (k : At 89 Q 18 (0, 0) [some (.ref g), some (.int x)] [] (hb h (push 50 T) pp)) : ma_X 89 [.ref g, .int x] (hb h T pp) Q := by
  have he : ∀ T p, (hb h T p).2.1 g = _ := fun T p => (hb_ne h T p g1 g2).trans e
  have he2 : ∀ T p c, (ma_set (hb h T p) 27 c).2.1 g = _ := fun T p c => (ma_set_ne _ _ g1).trans (he T p)
  refine ma_enter (m := 89) (Or.inl (by decide)) (by show 2 ≤ mt_n 89; decide +kernel) ?_
  show At 89 Q 0 (0, 0) [some (.ref g), some (.int x)] [] (hb h T pp)
  refine go 4 (by decide) ?_
  simp only [KX, KY, KZ, KW, KV, Nat.reduceAdd, Nat.reduceSub, Nat.reduceLeDiff, true_and, and_true, true_or, or_true, or_self, reduceCtorEq, if_true, if_false, not_false_eq_true, eq_self, c89, he, u, hb_27, hb_28, ma_set_at]
  by_cases c : T.1 < 30
  · rw [if_pos (show nI T.1 < (30 : Int32) from nI_lt c (by decide))]
    refine go 12 (by decide) ?_
    simp only [KX, KY, KZ, KW, KV, Nat.reduceAdd, Nat.reduceSub, Nat.reduceLeDiff, true_and, and_true, true_or, or_true, or_self, reduceCtorEq, if_true, if_false, not_false_eq_true, eq_self, c89, he, u, hb_27, hb_28, ma_set_at, he2, List.set_cons_succ, List.set_cons_zero, show ∀ T p c, (ma_set (hb h T p) 27 c).2.1 28 = .inl (.int, 30, .inl T.2) from fun T p c => (ma_set_ne _ _ (by decide)).trans (hb_28 h T p)]
    refine ⟨by simp only [List.length_cons, List.length_nil]; omega, trivial, nI_in c (by decide), ?_⟩
    rw [nI_clamp (by omega), nI_1, hb_push h T pp 50 c]
    exact k
  · have e0 : push 50 T = T := if_neg c
    rw [e0] at k
    by_cases c2 : nI T.1 < (30 : Int32)
    · rw [if_pos c2]
      exact absurd ((nI_ltI (show T.1 < 2 ^ 31 by omega) (show 30 < 2 ^ 31 by decide)).mp c2) c
    · rw [if_neg c2]
      exact k
theorem x90 {h : ma_H} {Q : ma_Q} {g ci : Nat} {kx i a : Int32} (g1 : g ≠ 27) (g2 : g ≠ 28) (e : h.2.1 g = .inr (ci, [.int kx, .int i, .int a, .ref 27])) (u : me_un 8 ci = true) {x : Int32} {T : TT} (hT : T.1 ≤ 30) {pp : Int32} (k : At 90 Q 18 (0, 0) [some (.ref g), some (.int x)] [] (hb h (push 51 T) pp)) : ma_X 90 [.ref g, .int x] (hb h T pp) Q := by
  have he : ∀ T p, (hb h T p).2.1 g = _ := fun T p => (hb_ne h T p g1 g2).trans e
  have he2 : ∀ T p c, (ma_set (hb h T p) 27 c).2.1 g = _ := fun T p c => (ma_set_ne _ _ g1).trans (he T p)
  refine ma_enter (m := 90) (Or.inl (by decide)) (by show 2 ≤ mt_n 90; decide +kernel) ?_
  show At 90 Q 0 (0, 0) [some (.ref g), some (.int x)] [] (hb h T pp)
  refine go 4 (by decide) ?_
  simp only [KX, KY, KZ, KW, KV, Nat.reduceAdd, Nat.reduceSub, Nat.reduceLeDiff, true_and, and_true, true_or, or_true, or_self, reduceCtorEq, if_true, if_false, not_false_eq_true, eq_self, c90, he, u, hb_27, hb_28, ma_set_at]
  by_cases c : T.1 < 30
  · rw [if_pos (show nI T.1 < (30 : Int32) from nI_lt c (by decide))]
    refine go 12 (by decide) ?_
    simp only [KX, KY, KZ, KW, KV, Nat.reduceAdd, Nat.reduceSub, Nat.reduceLeDiff, true_and, and_true, true_or, or_true, or_self, reduceCtorEq, if_true, if_false, not_false_eq_true, eq_self, c90, he, u, hb_27, hb_28, ma_set_at, he2, List.set_cons_succ, List.set_cons_zero, show ∀ T p c, (ma_set (hb h T p) 27 c).2.1 28 = .inl (.int, 30, .inl T.2) from fun T p c => (ma_set_ne _ _ (by decide)).trans (hb_28 h T p)]
    refine ⟨by simp only [List.length_cons, List.length_nil]; omega, trivial, nI_in c (by decide), ?_⟩
    rw [nI_clamp (by omega), nI_1, hb_push h T pp 51 c]
    exact k
  · have e0 : push 51 T = T := if_neg c
    rw [e0] at k
    by_cases c2 : nI T.1 < (30 : Int32)
    · rw [if_pos c2]
      exact absurd ((nI_ltI (show T.1 < 2 ^ 31 by omega) (show 30 < 2 ^ 31 by decide)).mp c2) c
    · rw [if_neg c2]
      exact k
theorem x6 {h : ma_H} {Q : ma_Q} {g ci : Nat} {kx i a : Int32} (g1 : g ≠ 27) (g2 : g ≠ 28) (e : h.2.1 g = .inr (ci, [.int kx, .int i, .int a, .ref 27])) (u : me_un 1 ci = true) {x : Int32} {T : TT} (hT : T.1 ≤ 30) {pp : Int32} (k : At 6 Q 18 (0, 0) [some (.ref g), some (.int x)] [] (hb h (push 60 T) pp)) : ma_X 6 [.ref g, .int x] (hb h T pp) Q := by
  have he : ∀ T p, (hb h T p).2.1 g = _ := fun T p => (hb_ne h T p g1 g2).trans e
  have he2 : ∀ T p c, (ma_set (hb h T p) 27 c).2.1 g = _ := fun T p c => (ma_set_ne _ _ g1).trans (he T p)
  refine ma_enter (m := 6) (Or.inl (by decide)) (by show 2 ≤ mt_n 6; decide +kernel) ?_
  show At 6 Q 0 (0, 0) [some (.ref g), some (.int x)] [] (hb h T pp)
  refine go 4 (by decide) ?_
  simp only [KX, KY, KZ, KW, KV, Nat.reduceAdd, Nat.reduceSub, Nat.reduceLeDiff, true_and, and_true, true_or, or_true, or_self, reduceCtorEq, if_true, if_false, not_false_eq_true, eq_self, c6, he, u, hb_27, hb_28, ma_set_at]
  by_cases c : T.1 < 30
  · rw [if_pos (show nI T.1 < (30 : Int32) from nI_lt c (by decide))]
    refine go 12 (by decide) ?_
    simp only [KX, KY, KZ, KW, KV, Nat.reduceAdd, Nat.reduceSub, Nat.reduceLeDiff, true_and, and_true, true_or, or_true, or_self, reduceCtorEq, if_true, if_false, not_false_eq_true, eq_self, c6, he, u, hb_27, hb_28, ma_set_at, he2, List.set_cons_succ, List.set_cons_zero, show ∀ T p c, (ma_set (hb h T p) 27 c).2.1 28 = .inl (.int, 30, .inl T.2) from fun T p c => (ma_set_ne _ _ (by decide)).trans (hb_28 h T p)]
    refine ⟨by simp only [List.length_cons, List.length_nil]; omega, trivial, nI_in c (by decide), ?_⟩
    rw [nI_clamp (by omega), nI_1, hb_push h T pp 60 c]
    exact k
  · have e0 : push 60 T = T := if_neg c
    rw [e0] at k
    by_cases c2 : nI T.1 < (30 : Int32)
    · rw [if_pos c2]
      exact absurd ((nI_ltI (show T.1 < 2 ^ 31 by omega) (show 30 < 2 ^ 31 by decide)).mp c2) c
    · rw [if_neg c2]
      exact k
theorem x7 {h : ma_H} {Q : ma_Q} {g ci : Nat} {kx i a : Int32} (g1 : g ≠ 27) (g2 : g ≠ 28) (e : h.2.1 g = .inr (ci, [.int kx, .int i, .int a, .ref 27])) (u : me_un 1 ci = true) {x : Int32} {T : TT} (hT : T.1 ≤ 30) {pp : Int32} (k : At 7 Q 18 (0, 0) [some (.ref g), some (.int x), none] [] (hb h (push 61 T) pp)) : ma_X 7 [.ref g, .int x] (hb h T pp) Q := by
  have he : ∀ T p, (hb h T p).2.1 g = _ := fun T p => (hb_ne h T p g1 g2).trans e
  have he2 : ∀ T p c, (ma_set (hb h T p) 27 c).2.1 g = _ := fun T p c => (ma_set_ne _ _ g1).trans (he T p)
  refine ma_enter (m := 7) (Or.inl (by decide)) (by show 2 ≤ mt_n 7; decide +kernel) ?_
  show At 7 Q 0 (0, 0) [some (.ref g), some (.int x), none] [] (hb h T pp)
  refine go 4 (by decide) ?_
  simp only [KX, KY, KZ, KW, KV, Nat.reduceAdd, Nat.reduceSub, Nat.reduceLeDiff, true_and, and_true, true_or, or_true, or_self, reduceCtorEq, if_true, if_false, not_false_eq_true, eq_self, c7, he, u, hb_27, hb_28, ma_set_at]
  by_cases c : T.1 < 30
  · rw [if_pos (show nI T.1 < (30 : Int32) from nI_lt c (by decide))]
    refine go 12 (by decide) ?_
    simp only [KX, KY, KZ, KW, KV, Nat.reduceAdd, Nat.reduceSub, Nat.reduceLeDiff, true_and, and_true, true_or, or_true, or_self, reduceCtorEq, if_true, if_false, not_false_eq_true, eq_self, c7, he, u, hb_27, hb_28, ma_set_at, he2, List.set_cons_succ, List.set_cons_zero, show ∀ T p c, (ma_set (hb h T p) 27 c).2.1 28 = .inl (.int, 30, .inl T.2) from fun T p c => (ma_set_ne _ _ (by decide)).trans (hb_28 h T p)]
    refine ⟨by simp only [List.length_cons, List.length_nil]; omega, trivial, nI_in c (by decide), ?_⟩
    rw [nI_clamp (by omega), nI_1, hb_push h T pp 61 c]
    exact k
  · have e0 : push 61 T = T := if_neg c
    rw [e0] at k
    by_cases c2 : nI T.1 < (30 : Int32)
    · rw [if_pos c2]
      exact absurd ((nI_ltI (show T.1 < 2 ^ 31 by omega) (show 30 < 2 ^ 31 by decide)).mp c2) c
    · rw [if_neg c2]
      exact k
theorem gP_le {i x : Int32} {T : TT} (h : T.1 ≤ 30) : (gP i x T).2.1 ≤ 30 := push_le h
theorem gA_le {i x : Int32} {T : TT} (h : T.1 ≤ 30) : (gA i x T).2.1 ≤ 30 := push_le (push_le h)
theorem gro_le {kk : Nat} {i x : Int32} {T : TT} (h : T.1 ≤ 30) : (gro kk i x T).2.1 ≤ 30 := by
  unfold gro
  split
  · exact push_le (push_le h)
  · exact gA_le h
  · exact gA_le (i := i) (x := x) (push_le h)
  · exact push_le h
theorem tP_le {kk : Nat} {i x : Int32} {T : TT} (h : T.1 ≤ 30) : (tP kk i x T).2.1 ≤ 30 := gro_le (push_le h)
theorem tL_le {kk : Nat} {i a x : Int32} {T : TT} (h : T.1 ≤ 30) : (tL kk i a x T).2.1 ≤ 30 := tP_le (push_le h)
theorem tA_le {kk : Nat} {i a x : Int32} {T : TT} (h : T.1 ≤ 30) : (tA kk i a x T).2.1 ≤ 30 := gro_le (tL_le (push_le h))
theorem tak_le {kk : Nat} {i a x : Int32} {T : TT} (h : T.1 ≤ 30) : (tak kk i a x T).2.1 ≤ 30 := by
  unfold tak
  split
  · exact tL_le h
  · exact tA_le h
  · exact tA_le h
  · exact tP_le h
theorem lP_le {kk : Nat} {i a x : Int32} {T : TT} (h : T.1 ≤ 30) : (lP kk i a x T).2.1 ≤ 30 := tak_le (push_le h)
def groM (k : Nat) : Nat := match k with
  | 2 => 82
  | 3 => 2
  | 4 => 90
  | _ => 47
def takM (k : Nat) : Nat := match k with
  | 1 => 86
  | 3 => 3
  | 4 => 3
  | _ => 48
def shaM (k : Nat) : Nat := match k with
  | 4 => 89
  | 5 => 7
  | _ => 49
def telM (k : Nat) : Nat := match k with
  | 2 => 83
  | 5 => 6
  | _ => 50
theorem vtB : ∀ k, k < 6 → me_vt 290 (g_cls k) = some (groM k) ∧ me_vt 291 (g_cls k) = some (takM k) ∧ me_vt 295 (g_cls k) = some (shaM k) ∧ me_vt 296 (g_cls k) = some (telM k) ∧ mt_c (groM k) = (0, 0) ∧ mt_c (takM k) = (0, 0) ∧ mt_c (shaM k) = (0, 0) ∧ mt_c (telM k) = (0, 0) ∧ g_cls k < 13 := by decide +kernel
theorem s47 {h : ma_H} {Q : ma_Q} {g kk : Nat} {kx i a : Int32} (g1 : g ≠ 27) (g2 : g ≠ 28) (hk : kk < 6) (e : h.2.1 g = .inr (g_cls kk, [.int kx, .int i, .int a, .ref 27])) {x : Int32} {T : TT} (hT : T.1 ≤ 30) {pp : Int32} (k : Q (some (.int (gP i x T).1)) (hb h (gP i x T).2 pp)) : ma_X 47 [.ref g, .int x] (hb h T pp) Q := by
  have he : ∀ T p, (hb h T p).2.1 g = _ := fun T p => (hb_ne h T p g1 g2).trans e
  refine x47 g1 g2 e (g_un kk hk) hT ?_
  refine go 60 (by decide) ?_
  simp only [KX, KY, KZ, KW, KV, Nat.reduceAdd, Nat.reduceSub, Nat.reduceLeDiff, true_and, and_true, true_or, or_true, or_self, reduceCtorEq, if_true, if_false, not_false_eq_true, eq_self, c47, he, hb_27, hb_28, g_un kk hk]
  exact k
theorem s2_3 {h : ma_H} {Q : ma_Q} {g : Nat} {kx i a : Int32} (g1 : g ≠ 27) (g2 : g ≠ 28) (e : h.2.1 g = .inr (g_cls 3, [.int kx, .int i, .int a, .ref 27])) {x : Int32} {T : TT} (hT : T.1 ≤ 30) {pp : Int32} (k : Q (some (.int (gA i x T).1)) (hb h (gA i x T).2 pp)) : ma_X 2 [.ref g, .int x] (hb h T pp) Q := by
  have he : ∀ T p, (hb h T p).2.1 g = _ := fun T p => (hb_ne h T p g1 g2).trans e
  refine x2 g1 g2 e (show me_un 0 (g_cls 3) = true from rfl) hT ?_
  refine go 60 (by decide) ?_
  simp only [KX, KY, KZ, KW, KV, Nat.reduceAdd, Nat.reduceSub, Nat.reduceLeDiff, true_and, and_true, true_or, or_true, or_self, reduceCtorEq, if_true, if_false, not_false_eq_true, eq_self, c2, he, hb_27, hb_28, (show (g_cls 3 < 13) = True from by decide)]
  refine s47 g1 g2 (show 3 < 6 by decide) e (push_le hT) ?_
  refine go 60 (by decide) ?_
  simp only [KX, KY, KZ, KW, KV, Nat.reduceAdd, Nat.reduceSub, Nat.reduceLeDiff, true_and, and_true, true_or, or_true, or_self, reduceCtorEq, if_true, if_false, not_false_eq_true, eq_self, c2, he, hb_27, hb_28]
  exact k
theorem s2_4 {h : ma_H} {Q : ma_Q} {g : Nat} {kx i a : Int32} (g1 : g ≠ 27) (g2 : g ≠ 28) (e : h.2.1 g = .inr (g_cls 4, [.int kx, .int i, .int a, .ref 27])) {x : Int32} {T : TT} (hT : T.1 ≤ 30) {pp : Int32} (k : Q (some (.int (gA i x T).1)) (hb h (gA i x T).2 pp)) : ma_X 2 [.ref g, .int x] (hb h T pp) Q := by
  have he : ∀ T p, (hb h T p).2.1 g = _ := fun T p => (hb_ne h T p g1 g2).trans e
  refine x2 g1 g2 e (show me_un 0 (g_cls 4) = true from rfl) hT ?_
  refine go 60 (by decide) ?_
  simp only [KX, KY, KZ, KW, KV, Nat.reduceAdd, Nat.reduceSub, Nat.reduceLeDiff, true_and, and_true, true_or, or_true, or_self, reduceCtorEq, if_true, if_false, not_false_eq_true, eq_self, c2, he, hb_27, hb_28, (show (g_cls 4 < 13) = True from by decide)]
  refine s47 g1 g2 (show 4 < 6 by decide) e (push_le hT) ?_
  refine go 60 (by decide) ?_
  simp only [KX, KY, KZ, KW, KV, Nat.reduceAdd, Nat.reduceSub, Nat.reduceLeDiff, true_and, and_true, true_or, or_true, or_self, reduceCtorEq, if_true, if_false, not_false_eq_true, eq_self, c2, he, hb_27, hb_28]
  exact k
theorem s82 {h : ma_H} {Q : ma_Q} {g : Nat} {kx i a : Int32} (g1 : g ≠ 27) (g2 : g ≠ 28) (e : h.2.1 g = .inr (g_cls 2, [.int kx, .int i, .int a, .ref 27])) {x : Int32} {T : TT} (hT : T.1 ≤ 30) {pp : Int32} (k : Q (some (.int (gro 2 i x T).1)) (hb h (gro 2 i x T).2 pp)) : ma_X 82 [.ref g, .int x] (hb h T pp) Q := by
  have he : ∀ T p, (hb h T p).2.1 g = _ := fun T p => (hb_ne h T p g1 g2).trans e
  refine x82 g1 g2 e (show me_un 6 (g_cls 2) = true from rfl) hT ?_
  refine go 60 (by decide) ?_
  simp only [KX, KY, KZ, KW, KV, Nat.reduceAdd, Nat.reduceSub, Nat.reduceLeDiff, true_and, and_true, true_or, or_true, or_self, reduceCtorEq, if_true, if_false, not_false_eq_true, eq_self, c82, he, hb_27, hb_28, (show (g_cls 2 < 13) = True from by decide)]
  refine s47 g1 g2 (show 2 < 6 by decide) e (push_le hT) ?_
  refine go 60 (by decide) ?_
  simp only [KX, KY, KZ, KW, KV, Nat.reduceAdd, Nat.reduceSub, Nat.reduceLeDiff, true_and, and_true, true_or, or_true, or_self, reduceCtorEq, if_true, if_false, not_false_eq_true, eq_self, c82, he, hb_27, hb_28]
  exact k
theorem s90 {h : ma_H} {Q : ma_Q} {g : Nat} {kx i a : Int32} (g1 : g ≠ 27) (g2 : g ≠ 28) (e : h.2.1 g = .inr (g_cls 4, [.int kx, .int i, .int a, .ref 27])) {x : Int32} {T : TT} (hT : T.1 ≤ 30) {pp : Int32} (k : Q (some (.int (gro 4 i x T).1)) (hb h (gro 4 i x T).2 pp)) : ma_X 90 [.ref g, .int x] (hb h T pp) Q := by
  have he : ∀ T p, (hb h T p).2.1 g = _ := fun T p => (hb_ne h T p g1 g2).trans e
  refine x90 g1 g2 e (show me_un 8 (g_cls 4) = true from rfl) hT ?_
  refine go 60 (by decide) ?_
  simp only [KX, KY, KZ, KW, KV, Nat.reduceAdd, Nat.reduceSub, Nat.reduceLeDiff, true_and, and_true, true_or, or_true, or_self, reduceCtorEq, if_true, if_false, not_false_eq_true, eq_self, c90, he, hb_27, hb_28, (show (g_cls 4 < 13) = True from by decide)]
  refine s2_4 g1 g2 e (push_le hT) ?_
  refine go 60 (by decide) ?_
  simp only [KX, KY, KZ, KW, KV, Nat.reduceAdd, Nat.reduceSub, Nat.reduceLeDiff, true_and, and_true, true_or, or_true, or_self, reduceCtorEq, if_true, if_false, not_false_eq_true, eq_self, c90, he, hb_27, hb_28, (show me_un 8 (g_cls 4) = true from rfl)]
  exact k
theorem sgro {h : ma_H} {Q : ma_Q} {g kk : Nat} {kx i a : Int32} (g1 : g ≠ 27) (g2 : g ≠ 28) (hk : kk < 6) (e : h.2.1 g = .inr (g_cls kk, [.int kx, .int i, .int a, .ref 27])) {x : Int32} {T : TT} (hT : T.1 ≤ 30) {pp : Int32} (k : Q (some (.int (gro kk i x T).1)) (hb h (gro kk i x T).2 pp)) : ma_X (groM kk) [.ref g, .int x] (hb h T pp) Q := by
  match kk, hk with
  | 0, _ => exact s47 g1 g2 (show 0 < 6 by decide) e hT k
  | 1, _ => exact s47 g1 g2 (show 1 < 6 by decide) e hT k
  | 2, _ => exact s82 g1 g2 e hT k
  | 3, _ => exact s2_3 g1 g2 e hT k
  | 4, _ => exact s90 g1 g2 e hT k
  | 5, _ => exact s47 g1 g2 (show 5 < 6 by decide) e hT k
theorem s48 {h : ma_H} {Q : ma_Q} {g kk : Nat} {kx i a : Int32} (g1 : g ≠ 27) (g2 : g ≠ 28) (hk : kk < 6) (e : h.2.1 g = .inr (g_cls kk, [.int kx, .int i, .int a, .ref 27])) {x : Int32} {T : TT} (hT : T.1 ≤ 30) {pp : Int32} (k : Q (some (.int (tP kk i x T).1)) (hb h (tP kk i x T).2 pp)) : ma_X 48 [.ref g, .int x] (hb h T pp) Q := by
  have he : ∀ T p, (hb h T p).2.1 g = _ := fun T p => (hb_ne h T p g1 g2).trans e
  refine x48 g1 g2 e (g_un kk hk) hT ?_
  refine go 60 (by decide) ?_
  simp only [KX, KY, KZ, KW, KV, Nat.reduceAdd, Nat.reduceSub, Nat.reduceLeDiff, true_and, and_true, true_or, or_true, or_self, reduceCtorEq, if_true, if_false, not_false_eq_true, eq_self, c48, he, hb_27, hb_28, g_un kk hk, (vtB kk hk).1, (vtB kk hk).2.2.2.2.1]
  refine sgro g1 g2 hk e (push_le hT) ?_
  refine go 60 (by decide) ?_
  simp only [KX, KY, KZ, KW, KV, Nat.reduceAdd, Nat.reduceSub, Nat.reduceLeDiff, true_and, and_true, true_or, or_true, or_self, reduceCtorEq, if_true, if_false, not_false_eq_true, eq_self, c48, he, hb_27, hb_28]
  exact k
theorem s86_1 {h : ma_H} {Q : ma_Q} {g : Nat} {kx i a : Int32} (g1 : g ≠ 27) (g2 : g ≠ 28) (e : h.2.1 g = .inr (g_cls 1, [.int kx, .int i, .int a, .ref 27])) {x : Int32} {T : TT} (hT : T.1 ≤ 30) {pp : Int32} (k : Q (some (.int (tL 1 i a x T).1)) (hb h (tL 1 i a x T).2 pp)) : ma_X 86 [.ref g, .int x] (hb h T pp) Q := by
  have he : ∀ T p, (hb h T p).2.1 g = _ := fun T p => (hb_ne h T p g1 g2).trans e
  refine x86 g1 g2 e (show me_un 7 (g_cls 1) = true from rfl) hT ?_
  refine go 60 (by decide) ?_
  simp only [KX, KY, KZ, KW, KV, Nat.reduceAdd, Nat.reduceSub, Nat.reduceLeDiff, true_and, and_true, true_or, or_true, or_self, reduceCtorEq, if_true, if_false, not_false_eq_true, eq_self, c86, he, hb_27, hb_28, (show (g_cls 1 < 13) = True from by decide)]
  refine s48 g1 g2 (show 1 < 6 by decide) e (push_le hT) ?_
  refine go 60 (by decide) ?_
  simp only [KX, KY, KZ, KW, KV, Nat.reduceAdd, Nat.reduceSub, Nat.reduceLeDiff, true_and, and_true, true_or, or_true, or_self, reduceCtorEq, if_true, if_false, not_false_eq_true, eq_self, c86, he, hb_27, hb_28, (show me_un 7 (g_cls 1) = true from rfl)]
  exact k
theorem s86_3 {h : ma_H} {Q : ma_Q} {g : Nat} {kx i a : Int32} (g1 : g ≠ 27) (g2 : g ≠ 28) (e : h.2.1 g = .inr (g_cls 3, [.int kx, .int i, .int a, .ref 27])) {x : Int32} {T : TT} (hT : T.1 ≤ 30) {pp : Int32} (k : Q (some (.int (tL 3 i a x T).1)) (hb h (tL 3 i a x T).2 pp)) : ma_X 86 [.ref g, .int x] (hb h T pp) Q := by
  have he : ∀ T p, (hb h T p).2.1 g = _ := fun T p => (hb_ne h T p g1 g2).trans e
  refine x86 g1 g2 e (show me_un 7 (g_cls 3) = true from rfl) hT ?_
  refine go 60 (by decide) ?_
  simp only [KX, KY, KZ, KW, KV, Nat.reduceAdd, Nat.reduceSub, Nat.reduceLeDiff, true_and, and_true, true_or, or_true, or_self, reduceCtorEq, if_true, if_false, not_false_eq_true, eq_self, c86, he, hb_27, hb_28, (show (g_cls 3 < 13) = True from by decide)]
  refine s48 g1 g2 (show 3 < 6 by decide) e (push_le hT) ?_
  refine go 60 (by decide) ?_
  simp only [KX, KY, KZ, KW, KV, Nat.reduceAdd, Nat.reduceSub, Nat.reduceLeDiff, true_and, and_true, true_or, or_true, or_self, reduceCtorEq, if_true, if_false, not_false_eq_true, eq_self, c86, he, hb_27, hb_28, (show me_un 7 (g_cls 3) = true from rfl)]
  exact k
theorem s86_4 {h : ma_H} {Q : ma_Q} {g : Nat} {kx i a : Int32} (g1 : g ≠ 27) (g2 : g ≠ 28) (e : h.2.1 g = .inr (g_cls 4, [.int kx, .int i, .int a, .ref 27])) {x : Int32} {T : TT} (hT : T.1 ≤ 30) {pp : Int32} (k : Q (some (.int (tL 4 i a x T).1)) (hb h (tL 4 i a x T).2 pp)) : ma_X 86 [.ref g, .int x] (hb h T pp) Q := by
  have he : ∀ T p, (hb h T p).2.1 g = _ := fun T p => (hb_ne h T p g1 g2).trans e
  refine x86 g1 g2 e (show me_un 7 (g_cls 4) = true from rfl) hT ?_
  refine go 60 (by decide) ?_
  simp only [KX, KY, KZ, KW, KV, Nat.reduceAdd, Nat.reduceSub, Nat.reduceLeDiff, true_and, and_true, true_or, or_true, or_self, reduceCtorEq, if_true, if_false, not_false_eq_true, eq_self, c86, he, hb_27, hb_28, (show (g_cls 4 < 13) = True from by decide)]
  refine s48 g1 g2 (show 4 < 6 by decide) e (push_le hT) ?_
  refine go 60 (by decide) ?_
  simp only [KX, KY, KZ, KW, KV, Nat.reduceAdd, Nat.reduceSub, Nat.reduceLeDiff, true_and, and_true, true_or, or_true, or_self, reduceCtorEq, if_true, if_false, not_false_eq_true, eq_self, c86, he, hb_27, hb_28, (show me_un 7 (g_cls 4) = true from rfl)]
  exact k
theorem s3_3 {h : ma_H} {Q : ma_Q} {g : Nat} {kx i a : Int32} (g1 : g ≠ 27) (g2 : g ≠ 28) (e : h.2.1 g = .inr (g_cls 3, [.int kx, .int i, .int a, .ref 27])) {x : Int32} {T : TT} (hT : T.1 ≤ 30) {pp : Int32} (k : Q (some (.int (tA 3 i a x T).1)) (hb h (tA 3 i a x T).2 pp)) : ma_X 3 [.ref g, .int x] (hb h T pp) Q := by
  have he : ∀ T p, (hb h T p).2.1 g = _ := fun T p => (hb_ne h T p g1 g2).trans e
  have d : tA 3 i a x T = ((tL 3 i a x (push 41 T)).1 + (gro 3 i i (tL 3 i a x (push 41 T)).2).1, (gro 3 i i (tL 3 i a x (push 41 T)).2).2) := rfl
  rw [d] at k
  dsimp only at k
  refine x3 g1 g2 e (show me_un 0 (g_cls 3) = true from rfl) hT ?_
  refine go 60 (by decide) ?_
  simp only [KX, KY, KZ, KW, KV, Nat.reduceAdd, Nat.reduceSub, Nat.reduceLeDiff, true_and, and_true, true_or, or_true, or_self, reduceCtorEq, if_true, if_false, not_false_eq_true, eq_self, c3, he, hb_27, hb_28, (show (g_cls 3 < 13) = True from by decide)]
  refine s86_3 g1 g2 e (push_le hT) ?_
  refine go 60 (by decide) ?_
  simp only [KX, KY, KZ, KW, KV, Nat.reduceAdd, Nat.reduceSub, Nat.reduceLeDiff, true_and, and_true, true_or, or_true, or_self, reduceCtorEq, if_true, if_false, not_false_eq_true, eq_self, c3, he, hb_27, hb_28, (show me_un 0 (g_cls 3) = true from rfl), (show me_vt 286 (g_cls 3) = some 2 from rfl), show mt_c 2 = (0, 0) from rfl]
  refine s2_3 g1 g2 e (tL_le (push_le hT)) ?_
  refine go 60 (by decide) ?_
  simp only [KX, KY, KZ, KW, KV, Nat.reduceAdd, Nat.reduceSub, Nat.reduceLeDiff, true_and, and_true, true_or, or_true, or_self, reduceCtorEq, if_true, if_false, not_false_eq_true, eq_self, c3, he, hb_27, hb_28]
  exact k
theorem s3_4 {h : ma_H} {Q : ma_Q} {g : Nat} {kx i a : Int32} (g1 : g ≠ 27) (g2 : g ≠ 28) (e : h.2.1 g = .inr (g_cls 4, [.int kx, .int i, .int a, .ref 27])) {x : Int32} {T : TT} (hT : T.1 ≤ 30) {pp : Int32} (k : Q (some (.int (tA 4 i a x T).1)) (hb h (tA 4 i a x T).2 pp)) : ma_X 3 [.ref g, .int x] (hb h T pp) Q := by
  have he : ∀ T p, (hb h T p).2.1 g = _ := fun T p => (hb_ne h T p g1 g2).trans e
  have d : tA 4 i a x T = ((tL 4 i a x (push 41 T)).1 + (gro 4 i i (tL 4 i a x (push 41 T)).2).1, (gro 4 i i (tL 4 i a x (push 41 T)).2).2) := rfl
  rw [d] at k
  dsimp only at k
  refine x3 g1 g2 e (show me_un 0 (g_cls 4) = true from rfl) hT ?_
  refine go 60 (by decide) ?_
  simp only [KX, KY, KZ, KW, KV, Nat.reduceAdd, Nat.reduceSub, Nat.reduceLeDiff, true_and, and_true, true_or, or_true, or_self, reduceCtorEq, if_true, if_false, not_false_eq_true, eq_self, c3, he, hb_27, hb_28, (show (g_cls 4 < 13) = True from by decide)]
  refine s86_4 g1 g2 e (push_le hT) ?_
  refine go 60 (by decide) ?_
  simp only [KX, KY, KZ, KW, KV, Nat.reduceAdd, Nat.reduceSub, Nat.reduceLeDiff, true_and, and_true, true_or, or_true, or_self, reduceCtorEq, if_true, if_false, not_false_eq_true, eq_self, c3, he, hb_27, hb_28, (show me_un 0 (g_cls 4) = true from rfl), (show me_vt 286 (g_cls 4) = some 90 from rfl), show mt_c 90 = (0, 0) from rfl]
  refine s90 g1 g2 e (tL_le (push_le hT)) ?_
  refine go 60 (by decide) ?_
  simp only [KX, KY, KZ, KW, KV, Nat.reduceAdd, Nat.reduceSub, Nat.reduceLeDiff, true_and, and_true, true_or, or_true, or_self, reduceCtorEq, if_true, if_false, not_false_eq_true, eq_self, c3, he, hb_27, hb_28]
  exact k
theorem stak {h : ma_H} {Q : ma_Q} {g kk : Nat} {kx i a : Int32} (g1 : g ≠ 27) (g2 : g ≠ 28) (hk : kk < 6) (e : h.2.1 g = .inr (g_cls kk, [.int kx, .int i, .int a, .ref 27])) {x : Int32} {T : TT} (hT : T.1 ≤ 30) {pp : Int32} (k : Q (some (.int (tak kk i a x T).1)) (hb h (tak kk i a x T).2 pp)) : ma_X (takM kk) [.ref g, .int x] (hb h T pp) Q := by
  match kk, hk with
  | 0, _ => exact s48 g1 g2 (show 0 < 6 by decide) e hT k
  | 1, _ => exact s86_1 g1 g2 e hT k
  | 2, _ => exact s48 g1 g2 (show 2 < 6 by decide) e hT k
  | 3, _ => exact s3_3 g1 g2 e hT k
  | 4, _ => exact s3_4 g1 g2 e hT k
  | 5, _ => exact s48 g1 g2 (show 5 < 6 by decide) e hT k
theorem s49 {h : ma_H} {Q : ma_Q} {g kk : Nat} {kx i a : Int32} (g1 : g ≠ 27) (g2 : g ≠ 28) (hk : kk < 6) (e : h.2.1 g = .inr (g_cls kk, [.int kx, .int i, .int a, .ref 27])) {x : Int32} {T : TT} (hT : T.1 ≤ 30) {pp : Int32} (k : Q (some (.int (sPv i a x))) (hb h (push 12 T) (sPp i a))) : ma_X 49 [.ref g, .int x] (hb h T pp) Q := by
  have he : ∀ T p, (hb h T p).2.1 g = _ := fun T p => (hb_ne h T p g1 g2).trans e
  refine x49 g1 g2 e (g_un kk hk) hT ?_
  have d1 : sPv i a x = if a - i = 0 then 0 else x / (a - i) := rfl
  have d2 : sPp i a = if a - i = 0 then 1 else 0 := rfl
  refine go 60 (by decide) ?_
  simp only [KX, KY, KZ, KW, KV, Nat.reduceAdd, Nat.reduceSub, Nat.reduceLeDiff, true_and, and_true, true_or, or_true, or_self, reduceCtorEq, if_true, if_false, not_false_eq_true, eq_self, c49, he, hb_27, hb_28, g_un kk hk]
  by_cases z : a - i = 0
  · rw [if_pos z] at d1 d2
    rw [d1, d2] at k
    rw [if_pos z]
    refine go 60 (by decide) ?_
    simp only [KX, KY, KZ, KW, KV, Nat.reduceAdd, Nat.reduceSub, Nat.reduceLeDiff, true_and, and_true, true_or, or_true, or_self, reduceCtorEq, if_true, if_false, not_false_eq_true, eq_self, c49, he, hb_27, hb_28, List.set_cons_succ, List.set_cons_zero]
    refine ⟨by simp only [List.length_cons, List.length_nil]; omega, by first | exact trivial | exact Or.inr rfl, ?_⟩
    rw [hb_p]
    try rw [if_pos z]
    exact k
  · rw [if_neg z] at d1 d2
    rw [d1, d2] at k
    rw [if_neg z]
    refine go 60 (by decide) ?_
    simp only [KX, KY, KZ, KW, KV, Nat.reduceAdd, Nat.reduceSub, Nat.reduceLeDiff, true_and, and_true, true_or, or_true, or_self, reduceCtorEq, if_true, if_false, not_false_eq_true, eq_self, c49, he, hb_27, hb_28, List.set_cons_succ, List.set_cons_zero]
    refine ⟨by simp only [List.length_cons, List.length_nil]; omega, by first | exact trivial | exact Or.inl rfl, ?_⟩
    rw [hb_p]
    try rw [if_neg z]
    first
      | exact ⟨z, k⟩
      | exact k
theorem s89 {h : ma_H} {Q : ma_Q} {g : Nat} {kx i a : Int32} (g1 : g ≠ 27) (g2 : g ≠ 28) (e : h.2.1 g = .inr (g_cls 4, [.int kx, .int i, .int a, .ref 27])) {x : Int32} {T : TT} (hT : T.1 ≤ 30) {pp : Int32} (k : Q (some (.int (sha 4 i a x T).1)) (hb h (sha 4 i a x T).2 (sPp i a))) : ma_X 89 [.ref g, .int x] (hb h T pp) Q := by
  have he : ∀ T p, (hb h T p).2.1 g = _ := fun T p => (hb_ne h T p g1 g2).trans e
  refine x89 g1 g2 e (show me_un 8 (g_cls 4) = true from rfl) hT ?_
  refine go 60 (by decide) ?_
  simp only [KX, KY, KZ, KW, KV, Nat.reduceAdd, Nat.reduceSub, Nat.reduceLeDiff, true_and, and_true, true_or, or_true, or_self, reduceCtorEq, if_true, if_false, not_false_eq_true, eq_self, c89, he, hb_27, hb_28, (show (g_cls 4 < 13) = True from by decide)]
  refine s49 g1 g2 (show 4 < 6 by decide) e (push_le hT) ?_
  refine go 60 (by decide) ?_
  simp only [KX, KY, KZ, KW, KV, Nat.reduceAdd, Nat.reduceSub, Nat.reduceLeDiff, true_and, and_true, true_or, or_true, or_self, reduceCtorEq, if_true, if_false, not_false_eq_true, eq_self, c89, he, hb_27, hb_28]
  exact k
theorem s7 {h : ma_H} {Q : ma_Q} {g : Nat} {kx i a : Int32} (g1 : g ≠ 27) (g2 : g ≠ 28) (e : h.2.1 g = .inr (g_cls 5, [.int kx, .int i, .int a, .ref 27])) {x : Int32} {T : TT} (hT : T.1 ≤ 30) {pp : Int32} (k : Q (some (.int (sha 5 i a x T).1)) (hb h (sha 5 i a x T).2 (sPp i a))) : ma_X 7 [.ref g, .int x] (hb h T pp) Q := by
  have he : ∀ T p, (hb h T p).2.1 g = _ := fun T p => (hb_ne h T p g1 g2).trans e
  have d : sha 5 i a x T = if sPp i a = 0 then (sPv i a x + (gro 5 i a (push 12 (push 61 T))).1, (gro 5 i a (push 12 (push 61 T))).2) else (0, push 12 (push 61 T)) := rfl
  refine x7 g1 g2 e (show me_un 1 (g_cls 5) = true from rfl) hT ?_
  refine go 60 (by decide) ?_
  simp only [KX, KY, KZ, KW, KV, Nat.reduceAdd, Nat.reduceSub, Nat.reduceLeDiff, true_and, and_true, true_or, or_true, or_self, reduceCtorEq, if_true, if_false, not_false_eq_true, eq_self, c7, he, hb_27, hb_28, (show (g_cls 5 < 13) = True from by decide)]
  refine s49 g1 g2 (show 5 < 6 by decide) e (push_le hT) ?_
  refine go 60 (by decide) ?_
  simp only [KX, KY, KZ, KW, KV, Nat.reduceAdd, Nat.reduceSub, Nat.reduceLeDiff, true_and, and_true, true_or, or_true, or_self, reduceCtorEq, if_true, if_false, not_false_eq_true, eq_self, c7, he, hb_27, hb_28, (show me_un 1 (g_cls 5) = true from rfl), (show me_vt 287 (g_cls 5) = some 47 from rfl), show mt_c 47 = (0, 0) from rfl]
  by_cases z : sPp i a = 0
  · rw [if_pos z] at d ⊢
    rw [d] at k
    refine s47 g1 g2 (show 5 < 6 by decide) e (push_le (push_le hT)) ?_
    refine go 60 (by decide) ?_
    simp only [KX, KY, KZ, KW, KV, Nat.reduceAdd, Nat.reduceSub, Nat.reduceLeDiff, true_and, and_true, true_or, or_true, or_self, reduceCtorEq, if_true, if_false, not_false_eq_true, eq_self, c7, he, hb_27, hb_28]
    exact k
  · rw [if_neg z] at d ⊢
    rw [d] at k
    exact k
theorem ssha {h : ma_H} {Q : ma_Q} {g kk : Nat} {kx i a : Int32} (g1 : g ≠ 27) (g2 : g ≠ 28) (hk : kk < 6) (e : h.2.1 g = .inr (g_cls kk, [.int kx, .int i, .int a, .ref 27])) {x : Int32} {T : TT} (hT : T.1 ≤ 30) {pp : Int32} (k : Q (some (.int (sha kk i a x T).1)) (hb h (sha kk i a x T).2 (sPp i a))) : ma_X (shaM kk) [.ref g, .int x] (hb h T pp) Q := by
  match kk, hk with
  | 0, _ => exact s49 g1 g2 (show 0 < 6 by decide) e hT k
  | 1, _ => exact s49 g1 g2 (show 1 < 6 by decide) e hT k
  | 2, _ => exact s49 g1 g2 (show 2 < 6 by decide) e hT k
  | 3, _ => exact s49 g1 g2 (show 3 < 6 by decide) e hT k
  | 4, _ => exact s89 g1 g2 e hT k
  | 5, _ => exact s7 g1 g2 e hT k
theorem s50 {h : ma_H} {Q : ma_Q} {g kk : Nat} {kx i a : Int32} (g1 : g ≠ 27) (g2 : g ≠ 28) (hk : kk < 6) (e : h.2.1 g = .inr (g_cls kk, [.int kx, .int i, .int a, .ref 27])) {x : Int32} {T : TT} (hT : T.1 ≤ 30) {pp : Int32} (k : Q (some (.int (lP kk i a x T).1)) (hb h (lP kk i a x T).2 pp)) : ma_X 50 [.ref g, .int x] (hb h T pp) Q := by
  have he : ∀ T p, (hb h T p).2.1 g = _ := fun T p => (hb_ne h T p g1 g2).trans e
  refine x50 g1 g2 e (g_un kk hk) hT ?_
  refine go 60 (by decide) ?_
  simp only [KX, KY, KZ, KW, KV, Nat.reduceAdd, Nat.reduceSub, Nat.reduceLeDiff, true_and, and_true, true_or, or_true, or_self, reduceCtorEq, if_true, if_false, not_false_eq_true, eq_self, c50, he, hb_27, hb_28, g_un kk hk, (vtB kk hk).2.1, (vtB kk hk).2.2.2.2.2.1]
  refine stak g1 g2 hk e (push_le hT) ?_
  refine go 60 (by decide) ?_
  simp only [KX, KY, KZ, KW, KV, Nat.reduceAdd, Nat.reduceSub, Nat.reduceLeDiff, true_and, and_true, true_or, or_true, or_self, reduceCtorEq, if_true, if_false, not_false_eq_true, eq_self, c50, he, hb_27, hb_28, g_un kk hk]
  exact k
theorem s83 {h : ma_H} {Q : ma_Q} {g : Nat} {kx i a : Int32} (g1 : g ≠ 27) (g2 : g ≠ 28) (e : h.2.1 g = .inr (g_cls 2, [.int kx, .int i, .int a, .ref 27])) {x : Int32} {T : TT} (hT : T.1 ≤ 30) {pp : Int32} (k : Q (some (.int (tel 2 i a x T).1)) (hb h (tel 2 i a x T).2 (telp 2 i a))) : ma_X 83 [.ref g, .int x] (hb h T pp) Q := by
  have he : ∀ T p, (hb h T p).2.1 g = _ := fun T p => (hb_ne h T p g1 g2).trans e
  refine x83 g1 g2 e (show me_un 6 (g_cls 2) = true from rfl) hT ?_
  refine go 60 (by decide) ?_
  simp only [KX, KY, KZ, KW, KV, Nat.reduceAdd, Nat.reduceSub, Nat.reduceLeDiff, true_and, and_true, true_or, or_true, or_self, reduceCtorEq, if_true, if_false, not_false_eq_true, eq_self, c83, he, hb_27, hb_28, (show (g_cls 2 < 13) = True from by decide)]
  refine s50 g1 g2 (show 2 < 6 by decide) e (push_le hT) ?_
  refine go 60 (by decide) ?_
  simp only [KX, KY, KZ, KW, KV, Nat.reduceAdd, Nat.reduceSub, Nat.reduceLeDiff, true_and, and_true, true_or, or_true, or_self, reduceCtorEq, if_true, if_false, not_false_eq_true, eq_self, c83, he, hb_27, hb_28, (show me_un 6 (g_cls 2) = true from rfl), (show me_vt 292 (g_cls 2) = some 49 from rfl), show mt_c 49 = (0, 0) from rfl]
  refine s49 g1 g2 (show 2 < 6 by decide) e (lP_le (push_le hT)) ?_
  refine go 60 (by decide) ?_
  simp only [KX, KY, KZ, KW, KV, Nat.reduceAdd, Nat.reduceSub, Nat.reduceLeDiff, true_and, and_true, true_or, or_true, or_self, reduceCtorEq, if_true, if_false, not_false_eq_true, eq_self, c83, he, hb_27, hb_28]
  exact k
theorem s6 {h : ma_H} {Q : ma_Q} {g : Nat} {kx i a : Int32} (g1 : g ≠ 27) (g2 : g ≠ 28) (e : h.2.1 g = .inr (g_cls 5, [.int kx, .int i, .int a, .ref 27])) {x : Int32} {T : TT} (hT : T.1 ≤ 30) {pp : Int32} (k : Q (some (.int (tel 5 i a x T).1)) (hb h (tel 5 i a x T).2 pp)) : ma_X 6 [.ref g, .int x] (hb h T pp) Q := by
  have he : ∀ T p, (hb h T p).2.1 g = _ := fun T p => (hb_ne h T p g1 g2).trans e
  refine x6 g1 g2 e (show me_un 1 (g_cls 5) = true from rfl) hT ?_
  refine go 60 (by decide) ?_
  simp only [KX, KY, KZ, KW, KV, Nat.reduceAdd, Nat.reduceSub, Nat.reduceLeDiff, true_and, and_true, true_or, or_true, or_self, reduceCtorEq, if_true, if_false, not_false_eq_true, eq_self, c6, he, hb_27, hb_28, (show (g_cls 5 < 13) = True from by decide)]
  refine s50 g1 g2 (show 5 < 6 by decide) e (push_le hT) ?_
  refine go 60 (by decide) ?_
  simp only [KX, KY, KZ, KW, KV, Nat.reduceAdd, Nat.reduceSub, Nat.reduceLeDiff, true_and, and_true, true_or, or_true, or_self, reduceCtorEq, if_true, if_false, not_false_eq_true, eq_self, c6, he, hb_27, hb_28]
  exact k
theorem stel {h : ma_H} {Q : ma_Q} {g kk : Nat} {kx i a : Int32} (g1 : g ≠ 27) (g2 : g ≠ 28) (hk : kk < 6) (e : h.2.1 g = .inr (g_cls kk, [.int kx, .int i, .int a, .ref 27])) {x : Int32} {T : TT} (hT : T.1 ≤ 30) (k : Q (some (.int (tel kk i a x T).1)) (hb h (tel kk i a x T).2 (telp kk i a))) : ma_X (telM kk) [.ref g, .int x] (hb h T 0) Q := by
  match kk, hk with
  | 0, _ => exact s50 g1 g2 (show 0 < 6 by decide) e hT k
  | 1, _ => exact s50 g1 g2 (show 1 < 6 by decide) e hT k
  | 2, _ => exact s83 g1 g2 e hT k
  | 3, _ => exact s50 g1 g2 (show 3 < 6 by decide) e hT k
  | 4, _ => exact s50 g1 g2 (show 4 < 6 by decide) e hT k
  | 5, _ => exact s6 g1 g2 e hT k
