/-! constructors -/
theorem su_congr {f f2 : Nat → Int32} : ∀ n, (∀ i, i < n → f i = f2 i) → su f n = su f2 n
  | 0, _ => rfl
  | n + 1, q => by
    show su f n + f n = su f2 n + f2 n
    rw [su_congr n (fun i hi => q i (by omega)), q n (by omega)]
theorem kt8 : Int32.toNatClampNeg 8 = 8 := rfl
theorem kt30 : Int32.toNatClampNeg 30 = 30 := rfl
theorem kt169 : Int32.toNatClampNeg 169 = 169 := rfl
theorem kt200 : Int32.toNatClampNeg 200 = 200 := rfl
theorem ma_new_ne (h : ma_H) {q : Nat} (c : ma_C) (e : q ≠ h.1) : (ma_new h c).2.1 q = h.2.1 q := if_neg e
theorem ma_new_at (h : ma_H) (c : ma_C) : (ma_new h c).2.1 h.1 = c := if_pos rfl
theorem ma_new_1 (h : ma_H) (c : ma_C) : (ma_new h c).1 = h.1 + 1 := rfl
theorem ma_set_1 (h : ma_H) (a : Nat) (c : ma_C) : (ma_set h a c).1 = h.1 := rfl
theorem s91 {h : ma_H} {Q : ma_Q} {a : Nat} {c0 n0 p0 : Value} (ha : a < h.1) (h1 : h.2.1 a = .inr (9, [c0, n0, p0])) (k : Q none (ma_set (ma_new h (.inl (.int, 30, .inl fun _ => 0))) a (.inr (9, [.ref h.1, n0, p0])))) : ma_X 91 [.ref a] h Q := by
  have hN : ∀ c, (ma_new h c).2.1 a = .inr (9, [c0, n0, p0]) := fun c => (ma_new_ne h c (Nat.ne_of_lt ha)).trans h1
  refine ma_enter (m := 91) (Or.inl (by decide)) (by show 1 ≤ mt_n 91; decide +kernel) ?_
  show At 91 Q 0 (1, 30) [some (.ref a)] [] h
  refine go 60 (by decide) ?_
  simp only [KX, KY, KZ, KW, KV, Nat.reduceAdd, Nat.reduceSub, Nat.reduceLeDiff, true_and, and_true, true_or, or_true, or_self, reduceCtorEq, if_true, if_false, not_false_eq_true, eq_self, c91, h1, hN, kt30]
  exact ⟨⟨rfl, by decide⟩, by show 0 < 3; decide, trivial, k⟩
theorem s92 {h : ma_H} {Q : ma_Q} {a : Nat} {r0 : Nat} {n0 p0 : Value} (h1 : h.2.1 a = .inr (9, [.ref r0, n0, p0])) (k : Q none (ma_set h a (.inr (9, [.ref r0, .int 0, .int 0])))) : ma_X 92 [.ref a] h Q := by
  refine ma_enter (m := 92) (Or.inl (by decide)) (by show 1 ≤ mt_n 92; decide +kernel) ?_
  show At 92 Q 0 (0, 0) [some (.ref a)] [] h
  refine go 60 (by decide) ?_
  simp only [KX, KY, KZ, KW, KV, Nat.reduceAdd, Nat.reduceSub, Nat.reduceLeDiff, true_and, and_true, true_or, or_true, or_self, reduceCtorEq, if_true, if_false, not_false_eq_true, eq_self, c92, h1, ma_set_at]
  exact ⟨by show 1 < 3; decide, trivial, by show 2 < 3; decide, Or.inl rfl, by rw [ma_set_set]; exact k⟩
