/-! found -/
def wv (gc n code : Nat) : Nat := fw gc n (by0 n) code 0
def msC (f : Nat → Bool) (gc n : Nat) : Nat → Nat → Option Nat
  | 0, _ => none
  | m + 1, c => if AG gc n c && f (wv gc n c) then some c else msC f gc n m (c + 1)
def msr (f : Nat → Bool) (gc : Nat) : Nat → Nat → Option (Nat × Nat)
  | 0, _ => none
  | d + 1, n => match msC f gc n (6 ^ n) 0 with
    | some c => some (n, c)
    | none => msr f gc d (n + 1)
def mans (what : Int32) : Option (Nat × Nat) → Int32
  | none => -3
  | some (n, c) => if what = 0 then nI n else tdF n 0 c
def vc (gc n : Nat) : Nat → Nat
  | 0 => 0
  | c + 1 => vc gc n c + if AG gc n c then 1 else 0
def off (gc n : Nat) : Nat := match n with
  | 0 => 0
  | 1 => 1
  | 2 => 1 + gc
  | _ => 1 + gc + gc * gc
theorem vc_ok : ∀ gc, gc < 7 → ∀ n, n < 4 → vc gc n (6 ^ n) = gc ^ n ∧ ∀ c, c < 6 ^ n → AG gc n c = true → wv gc n c = off gc n + vc gc n c ∧ mwF gc 3 (wv gc n c) = n ∧ gwF gc 3 0 (wv gc n c) = tdF n 0 c := by decide +kernel
theorem vc_mono (gc n : Nat) {a : Nat} : ∀ b, a ≤ b → vc gc n a ≤ vc gc n b
  | 0, h => by
    obtain rfl : a = 0 := by omega
    exact Nat.le_refl _
  | b + 1, h => by
    rcases Nat.lt_or_ge b a with c | c
    · obtain rfl : a = b + 1 := by omega
      exact Nat.le_refl _
    · exact Nat.le_trans (vc_mono gc n b c) (Nat.le_add_right _ _)
theorem srch_add (f : Nat → Bool) (b : Nat) : ∀ a w, srch f (a + b) w = match srch f a w with
    | some x => some x
    | none => srch f b (w + a)
  | 0, w => by rw [Nat.zero_add]; rfl
  | a + 1, w => by
    rw [show a + 1 + b = a + b + 1 by omega]
    show (if f w then some w else srch f (a + b) (w + 1)) = match (if f w then some w else srch f a (w + 1)) with
      | some x => some x
      | none => srch f b (w + (a + 1))
    by_cases c : f w = true
    · rw [if_pos c, if_pos c]
    · rw [if_neg c, if_neg c, srch_add f b a (w + 1), show w + 1 + a = w + (a + 1) by omega]
theorem msC_srch (f : Nat → Bool) {gc n : Nat} (g6 : gc < 7) (hn : n < 4) : ∀ m c, c + m = 6 ^ n → (∃ x, msC f gc n m c = some x ∧ x < 6 ^ n ∧ AG gc n x = true ∧ srch f (gc ^ n - vc gc n c) (off gc n + vc gc n c) = some (wv gc n x)) ∨ (msC f gc n m c = none ∧ srch f (gc ^ n - vc gc n c) (off gc n + vc gc n c) = none)
  | 0, c, e => by
    obtain rfl : c = 6 ^ n := e
    rw [(vc_ok gc g6 n hn).1, Nat.sub_self]
    exact Or.inr ⟨rfl, rfl⟩
  | m + 1, c, e => by
    have hc : c < 6 ^ n := by omega
    have ih := msC_srch f g6 hn m (c + 1) (by omega)
    by_cases a : AG gc n c = true
    · have v1 : vc gc n (c + 1) = vc gc n c + 1 := by
        show vc gc n c + (if AG gc n c then 1 else 0) = _
        rw [if_pos a]
      have v2 : vc gc n (c + 1) ≤ gc ^ n := by
        rw [← (vc_ok gc g6 n hn).1]
        exact vc_mono gc n _ (by omega)
      have w := ((vc_ok gc g6 n hn).2 c hc a).1
      have s1 : srch f (gc ^ n - vc gc n c) (off gc n + vc gc n c) = if f (wv gc n c) then some (wv gc n c) else srch f (gc ^ n - vc gc n (c + 1)) (off gc n + vc gc n (c + 1)) := by
        rw [show gc ^ n - vc gc n c = (gc ^ n - vc gc n (c + 1)) + 1 by omega, w, v1]
        rfl
      rw [s1]
      by_cases b : f (wv gc n c) = true
      · rw [if_pos b]
        exact Or.inl ⟨c, if_pos (by rw [a, b]; rfl), hc, a, rfl⟩
      · rw [if_neg b, show msC f gc n (m + 1) c = msC f gc n m (c + 1) from if_neg (by rw [a, Bool.true_and]; exact b)]
        exact ih
    · have v1 : vc gc n (c + 1) = vc gc n c := by
        show vc gc n c + (if AG gc n c then 1 else 0) = _
        rw [if_neg a]
        rfl
      rw [show msC f gc n (m + 1) c = msC f gc n m (c + 1) from if_neg (by
        intro z
        rw [Bool.and_eq_true] at z
        exact a z.1), ← v1]
      exact ih
theorem found_eq (f : Nat → Bool) {gc : Nat} (g6 : gc < 7) (what : Int32) : fans gc what (srch f (1 + gc + gc * gc + gc * gc * gc) 0) = mans what (msr f gc 4 0) := by
  have st : ∀ n, n < 4 → (∃ x, msC f gc n (6 ^ n) 0 = some x ∧ fans gc what (srch f (gc ^ n) (off gc n)) = mans what (some (n, x)) ∧ ∃ y, srch f (gc ^ n) (off gc n) = some y) ∨ (msC f gc n (6 ^ n) 0 = none ∧ srch f (gc ^ n) (off gc n) = none) := by
    intro n hn
    rcases msC_srch f g6 hn (6 ^ n) 0 (Nat.zero_add _) with ⟨x, e1, hx, ax, e2⟩ | ⟨e1, e2⟩
    · refine Or.inl ⟨x, e1, ?_, _, e2⟩
      obtain ⟨-, w2, w3⟩ := (vc_ok gc g6 n hn).2 x hx ax
      have e2 : srch f (gc ^ n) (off gc n) = some (wv gc n x) := e2
      rw [e2]
      show (if what = 0 then nI (mwF gc 3 (wv gc n x)) else gwF gc 3 0 (wv gc n x)) = if what = 0 then nI n else tdF n 0 x
      rw [w2, w3]
    · exact Or.inr ⟨e1, e2⟩
  have p0 : gc ^ 0 = 1 := rfl
  have p1 : gc ^ 1 = gc := Nat.pow_one gc
  have p2 : gc ^ 2 = gc * gc := by rw [Nat.pow_succ, p1]
  have p3 : gc ^ 3 = gc * gc * gc := by rw [Nat.pow_succ, p2]
  have s0 := st 0 (by decide)
  have s1 := st 1 (by decide)
  have s2 := st 2 (by decide)
  have s3 := st 3 (by decide)
  rw [p0] at s0
  rw [p1] at s1
  rw [p2] at s2
  rw [p3] at s3
  have s0 : (∃ x, msC f gc 0 (6 ^ 0) 0 = some x ∧ fans gc what (srch f 1 0) = mans what (some (0, x)) ∧ ∃ y, srch f 1 0 = some y) ∨ (msC f gc 0 (6 ^ 0) 0 = none ∧ srch f 1 0 = none) := s0
  have s1 : (∃ x, msC f gc 1 (6 ^ 1) 0 = some x ∧ fans gc what (srch f gc 1) = mans what (some (1, x)) ∧ ∃ y, srch f gc 1 = some y) ∨ (msC f gc 1 (6 ^ 1) 0 = none ∧ srch f gc 1 = none) := s1
  have s2 : (∃ x, msC f gc 2 (6 ^ 2) 0 = some x ∧ fans gc what (srch f (gc * gc) (1 + gc)) = mans what (some (2, x)) ∧ ∃ y, srch f (gc * gc) (1 + gc) = some y) ∨ (msC f gc 2 (6 ^ 2) 0 = none ∧ srch f (gc * gc) (1 + gc) = none) := s2
  have s3 : (∃ x, msC f gc 3 (6 ^ 3) 0 = some x ∧ fans gc what (srch f (gc * gc * gc) (1 + gc + gc * gc)) = mans what (some (3, x)) ∧ ∃ y, srch f (gc * gc * gc) (1 + gc + gc * gc) = some y) ∨ (msC f gc 3 (6 ^ 3) 0 = none ∧ srch f (gc * gc * gc) (1 + gc + gc * gc) = none) := s3
  rw [srch_add f (gc * gc * gc) (1 + gc + gc * gc) 0, srch_add f (gc * gc) (1 + gc) 0, srch_add f gc 1 0]
  simp only [Nat.zero_add]
  have m0 : msr f gc 4 0 = match msC f gc 0 (6 ^ 0) 0 with
    | some c => some (0, c)
    | none => msr f gc 3 1 := rfl
  have m1 : msr f gc 3 1 = match msC f gc 1 (6 ^ 1) 0 with
    | some c => some (1, c)
    | none => msr f gc 2 2 := rfl
  have m2 : msr f gc 2 2 = match msC f gc 2 (6 ^ 2) 0 with
    | some c => some (2, c)
    | none => msr f gc 1 3 := rfl
  have m3 : msr f gc 1 3 = match msC f gc 3 (6 ^ 3) 0 with
    | some c => some (3, c)
    | none => none := rfl
  rcases s0 with ⟨x, e1, e2, y, e3⟩ | ⟨e1, e2⟩
  · rw [m0, e1]
    rw [e3] at e2 ⊢
    exact e2
  rw [m0, e1, e2]
  rcases s1 with ⟨x, e1, e2, y, e3⟩ | ⟨e1, e2⟩
  · simp only
    rw [m1, e1]
    rw [e3] at e2 ⊢
    exact e2
  simp only
  rw [m1, e1, e2]
  rcases s2 with ⟨x, e1, e2, y, e3⟩ | ⟨e1, e2⟩
  · simp only
    rw [m2, e1]
    rw [e3] at e2 ⊢
    exact e2
  simp only
  rw [m2, e1, e2]
  rcases s3 with ⟨x, e1, e2, y, e3⟩ | ⟨e1, e2⟩
  · simp only
    rw [m3, e1]
    rw [e3] at e2 ⊢
    exact e2
  simp only
  rw [m3, e1, e2]
  rfl
theorem s239 {h h1 : ma_H} {Q : ma_Q} {x y : Int32} {f gc : Nat} (M0 : ML h1 h1) (Rh : Rt h1) (l : f < 4) (q : x = nI f) (y0 : ¬ y < 0) (y1 : y ≤ 1) (e90 : ai h1 90 = ai h 90) (e9 : fi h1 80 9 = nI gc) (g6 : gc ≤ 6) (G : ∀ i, i < gc → ∃ r kk a, ar h 48 i = some r ∧ 115 ≤ r ∧ r < h.1 ∧ kk < 6 ∧ a < 64 ∧ h.2.1 r = g_obj kk i a ∧ ai h 90 (2 * i) = nI kk ∧ ai h 90 (2 * i + 1) = nI a) (eF : ∀ c, c < 91 → ai h (37 + 3 * f) (ma_cell c) = ai h1 88 (91 * f + c)) (k0 : ∀ h3, ML h1 h3 → Q (some (.int (mans y (msr (LKw h gc (hS (ai h (37 + 3 * f)))) gc 4 0)))) h3) : ma_X 239 [.ref 80, .int x, .int y] h1 Q := by
  have x1 : ¬ x < 0 := by subst q; exact nI_pos (by omega)
  have x3 : x ≤ 3 := by subst q; exact nI_le (a := f) (b := 3) (by omega) (by decide)
  have e91 := ix91n q
  have lp : ∀ d n h3, n + d = 4 → ML h1 h3 → (∀ h4, ML h1 h4 → Q (some (.int (mans y (msr (LKw h gc (hS (ai h (37 + 3 * f)))) gc d n)))) h4) → At 239 Q 10 (0, 0) [some (.ref 80), some (.int x), some (.int y), some (.int (nI n)), none] [] h3 := by
    intro d
    induction d with
    | zero =>
      intro n h3 en M3 kq
      obtain rfl : n = 4 := by omega
      refine go 60 (by decide) ?_
      simp only [KX, KY, KZ, KW, KV, Nat.reduceAdd, Nat.reduceSub, Nat.reduceLeDiff, true_and, and_true, true_or, or_true, or_self, reduceCtorEq, if_true, if_false, not_false_eq_true, eq_self, c239]
      rw [if_neg (show ¬ nI 4 < (4 : Int32) from nI_nlt (Nat.le_refl _) (by decide))]
      exact kq h3 M3
    | succ d ih =>
      intro n h3 en M3 kq
      have hn : n < 4 := by omega
      have n216 : 6 ^ n ≤ 216 := Nat.le_trans (Nat.pow_le_pow_right (by decide) (show n ≤ 3 by omega)) (by decide)
      have lc : ∀ m c h3, c + m = 6 ^ n → ML h1 h3 → (∀ x2 h4, msC (LKw h gc (hS (ai h (37 + 3 * f)))) gc n m c = some x2 → ML h1 h4 → Q (some (.int (if y = 0 then nI n else tdF n 0 x2))) h4) → (∀ h4, msC (LKw h gc (hS (ai h (37 + 3 * f)))) gc n m c = none → ML h1 h4 → At 239 Q 10 (0, 0) [some (.ref 80), some (.int x), some (.int y), some (.int (nI (n + 1))), none] [] h4) → At 239 Q 15 (0, 0) [some (.ref 80), some (.int x), some (.int y), some (.int (nI n)), some (.int (nI c))] [] h3 := by
        intro m
        induction m with
        | zero =>
          intro c h3 ec M3 kS kN
          obtain rfl : c = 6 ^ n := ec
          refine go 60 (by decide) ?_
          simp only [KX, KY, KZ, KW, KV, Nat.reduceAdd, Nat.reduceSub, Nat.reduceLeDiff, true_and, and_true, true_or, or_true, or_self, reduceCtorEq, if_true, if_false, not_false_eq_true, eq_self, c239]
          refine s235 hn ?_
          refine go 60 (by decide) ?_
          simp only [KX, KY, KZ, KW, KV, Nat.reduceAdd, Nat.reduceSub, Nat.reduceLeDiff, true_and, and_true, true_or, or_true, or_self, reduceCtorEq, if_true, if_false, not_false_eq_true, eq_self, c239]
          rw [if_neg (nI_nlt (Nat.le_refl _) (by omega)), nI_1 n]
          exact At_le (kN h3 rfl M3) ⟨rfl, rfl, rfl, rfl, trivial⟩
        | succ m ihc =>
          intro c h3 ec M3 kS kN
          have hc : c < 6 ^ n := by omega
          have e9b : fi h3 80 9 = nI gc := by
            show fiC (h3.2.1 80) 9 = _
            rw [M3.2.2.1 80 (by decide) (by decide) (by decide)]
            exact e9
          refine go 60 (by decide) ?_
          simp only [KX, KY, KZ, KW, KV, Nat.reduceAdd, Nat.reduceSub, Nat.reduceLeDiff, true_and, and_true, true_or, or_true, or_self, reduceCtorEq, if_true, if_false, not_false_eq_true, eq_self, c239]
          refine s235 hn ?_
          refine go 60 (by decide) ?_
          simp only [KX, KY, KZ, KW, KV, Nat.reduceAdd, Nat.reduceSub, Nat.reduceLeDiff, true_and, and_true, true_or, or_true, or_self, reduceCtorEq, if_true, if_false, not_false_eq_true, eq_self, c239, (M3.1).e80, e91]
          rw [if_pos (nI_lt hc (by omega))]
          refine s236 M3.1 e9b g6 hn (by omega) ?_
          cases a : AG gc n c
          · rw [show bI false = 0 from rfl]
            have e : msC (LKw h gc (hS (ai h (37 + 3 * f)))) gc n (m + 1) c = msC (LKw h gc (hS (ai h (37 + 3 * f)))) gc n m (c + 1) := if_neg (by rw [a, Bool.false_and]; decide)
            rw [e] at kS kN
            first
              | (with_reducible show At 239 _ 15 _ _ _ _)
              | (refine go 60 (by decide) ?_; simp only [KX, KY, KZ, KW, KV, Nat.reduceAdd, Nat.reduceSub, Nat.reduceLeDiff, true_and, and_true, true_or, or_true, or_self, reduceCtorEq, if_true, if_false, not_false_eq_true, eq_self, c239, (M3.1).e80, e91])
            first
              | (with_reducible show At 239 _ 15 _ _ _ _)
              | (refine go 60 (by decide) ?_; simp only [KX, KY, KZ, KW, KV, Nat.reduceAdd, Nat.reduceSub, Nat.reduceLeDiff, true_and, and_true, true_or, or_true, or_self, reduceCtorEq, if_true, if_false, not_false_eq_true, eq_self, c239, (M3.1).e80, e91])
            first
              | (with_reducible show At 239 _ 15 _ _ _ _)
              | (refine go 60 (by decide) ?_; simp only [KX, KY, KZ, KW, KV, Nat.reduceAdd, Nat.reduceSub, Nat.reduceLeDiff, true_and, and_true, true_or, or_true, or_self, reduceCtorEq, if_true, if_false, not_false_eq_true, eq_self, c239, (M3.1).e80, e91])
            rw [nI_1 c]
            exact ihc (c + 1) h3 (by omega) M3 kS kN
          · rw [show bI true = 1 from rfl]
            refine go 60 (by decide) ?_
            simp only [KX, KY, KZ, KW, KV, Nat.reduceAdd, Nat.reduceSub, Nat.reduceLeDiff, true_and, and_true, true_or, or_true, or_self, reduceCtorEq, if_true, if_false, not_false_eq_true, eq_self, c239, (M3.1).e80, e91]
            refine s234 (gc := gc) M3 Rh e90 g6 G hn hc (by rw [← AG_VD gc (by omega) n hn c hc]; exact a) (fun h4 M4 _ L4 => ?_)
            refine go 60 (by decide) ?_
            simp only [KX, KY, KZ, KW, KV, Nat.reduceAdd, Nat.reduceSub, Nat.reduceLeDiff, true_and, and_true, true_or, or_true, or_self, reduceCtorEq, if_true, if_false, not_false_eq_true, eq_self, c239, (M4.1).e80, e91]
            refine s232 ?_
            refine go 60 (by decide) ?_
            simp only [KX, KY, KZ, KW, KV, Nat.reduceAdd, Nat.reduceSub, Nat.reduceLeDiff, true_and, and_true, true_or, or_true, or_self, reduceCtorEq, if_true, if_false, not_false_eq_true, eq_self, c239, (M4.1).e80, e91]
            refine s237 (A := 91 * (4 + n)) (B := 91 * f) (S := TW h gc (wv gc n c)) (F := (hS (ai h (37 + 3 * f)))) M4.1 (by omega) (by omega) L4 (fun z hz => ?_) ?_
            · unfold hS
              rw [eF z hz, M4.2.2.2 _ (by omega)]
            cases b : lk (TW h gc (wv gc n c)) (hS (ai h (37 + 3 * f))) 91
            · rw [show bI false = 0 from rfl]
              have e : msC (LKw h gc (hS (ai h (37 + 3 * f)))) gc n (m + 1) c = msC (LKw h gc (hS (ai h (37 + 3 * f)))) gc n m (c + 1) := if_neg (by rw [a, Bool.true_and]; intro z; exact absurd (b.symm.trans z) (by decide))
              rw [e] at kS kN
              first
                | (with_reducible show At 239 _ 15 _ _ _ _)
                | (refine go 60 (by decide) ?_; simp only [KX, KY, KZ, KW, KV, Nat.reduceAdd, Nat.reduceSub, Nat.reduceLeDiff, true_and, and_true, true_or, or_true, or_self, reduceCtorEq, if_true, if_false, not_false_eq_true, eq_self, c239])
              first
                | (with_reducible show At 239 _ 15 _ _ _ _)
                | (refine go 60 (by decide) ?_; simp only [KX, KY, KZ, KW, KV, Nat.reduceAdd, Nat.reduceSub, Nat.reduceLeDiff, true_and, and_true, true_or, or_true, or_self, reduceCtorEq, if_true, if_false, not_false_eq_true, eq_self, c239])
              first
                | (with_reducible show At 239 _ 15 _ _ _ _)
                | (refine go 60 (by decide) ?_; simp only [KX, KY, KZ, KW, KV, Nat.reduceAdd, Nat.reduceSub, Nat.reduceLeDiff, true_and, and_true, true_or, or_true, or_self, reduceCtorEq, if_true, if_false, not_false_eq_true, eq_self, c239])
              rw [nI_1 c]
              exact ihc (c + 1) h4 (by omega) M4 kS kN
            · rw [show bI true = 1 from rfl]
              have e : msC (LKw h gc (hS (ai h (37 + 3 * f)))) gc n (m + 1) c = some c := if_pos (by rw [a, Bool.true_and]; exact b)
              have kr := kS c h4 e M4
              refine go 60 (by decide) ?_
              simp only [KX, KY, KZ, KW, KV, Nat.reduceAdd, Nat.reduceSub, Nat.reduceLeDiff, true_and, and_true, true_or, or_true, or_self, reduceCtorEq, if_true, if_false, not_false_eq_true, eq_self, c239]
              by_cases z : y = 0
              · rw [if_pos z] at kr ⊢
                exact kr
              · rw [if_neg z] at kr ⊢
                refine s238 hn (by omega) ?_
                refine go 60 (by decide) ?_
                simp only [KX, KY, KZ, KW, KV, Nat.reduceAdd, Nat.reduceSub, Nat.reduceLeDiff, true_and, and_true, true_or, or_true, or_self, reduceCtorEq, if_true, if_false, not_false_eq_true, eq_self, c239]
                exact kr
      refine go 60 (by decide) ?_
      simp only [KX, KY, KZ, KW, KV, Nat.reduceAdd, Nat.reduceSub, Nat.reduceLeDiff, true_and, and_true, true_or, or_true, or_self, reduceCtorEq, if_true, if_false, not_false_eq_true, eq_self, c239]
      rw [if_pos (show nI n < (4 : Int32) from nI_lt (b := 4) hn (by decide))]
      first
        | (with_reducible show At 239 _ 15 _ _ _ _)
        | (refine go 60 (by decide) ?_; simp only [KX, KY, KZ, KW, KV, Nat.reduceAdd, Nat.reduceSub, Nat.reduceLeDiff, true_and, and_true, true_or, or_true, or_self, reduceCtorEq, if_true, if_false, not_false_eq_true, eq_self, c239])
      first
        | (with_reducible show At 239 _ 15 _ _ _ _)
        | (refine go 60 (by decide) ?_; simp only [KX, KY, KZ, KW, KV, Nat.reduceAdd, Nat.reduceSub, Nat.reduceLeDiff, true_and, and_true, true_or, or_true, or_self, reduceCtorEq, if_true, if_false, not_false_eq_true, eq_self, c239])
      first
        | (with_reducible show At 239 _ 15 _ _ _ _)
        | (refine go 60 (by decide) ?_; simp only [KX, KY, KZ, KW, KV, Nat.reduceAdd, Nat.reduceSub, Nat.reduceLeDiff, true_and, and_true, true_or, or_true, or_self, reduceCtorEq, if_true, if_false, not_false_eq_true, eq_self, c239])
      refine At_le (lc (6 ^ n) 0 h3 (Nat.zero_add _) M3 (fun x2 h4 e M4 => ?_) (fun h4 e M4 => ?_)) ⟨rfl, rfl, rfl, rfl, rfl, trivial⟩
      · have kr := kq h4 M4
        rw [show msr (LKw h gc (hS (ai h (37 + 3 * f)))) gc (d + 1) n = some (n, x2) by show (match msC (LKw h gc (hS (ai h (37 + 3 * f)))) gc n (6 ^ n) 0 with | some c => some (n, c) | none => msr (LKw h gc (hS (ai h (37 + 3 * f)))) gc d (n + 1)) = _; rw [e]] at kr
        exact kr
      · refine ih (n + 1) h4 (by omega) M4 (fun h5 M5 => ?_)
        have kr := kq h5 M5
        rw [show msr (LKw h gc (hS (ai h (37 + 3 * f)))) gc (d + 1) n = msr (LKw h gc (hS (ai h (37 + 3 * f)))) gc d (n + 1) by show (match msC (LKw h gc (hS (ai h (37 + 3 * f)))) gc n (6 ^ n) 0 with | some c => some (n, c) | none => msr (LKw h gc (hS (ai h (37 + 3 * f)))) gc d (n + 1)) = _; rw [e]] at kr
        exact kr
  refine ma_enter (m := 239) (Or.inl (by decide)) (by show 3 ≤ mt_n 239; decide +kernel) ?_
  show At 239 Q 0 (mt_c 239) [some (.ref 80), some (.int x), some (.int y), none, none] [] h1
  refine go 60 (by decide) ?_
  simp only [KX, KY, KZ, KW, KV, Nat.reduceAdd, Nat.reduceSub, Nat.reduceLeDiff, true_and, and_true, true_or, or_true, or_self, reduceCtorEq, if_true, if_false, not_false_eq_true, eq_self, c239]
  refine s170y x1 x3 ?_
  refine go 60 (by decide) ?_
  simp only [KX, KY, KZ, KW, KV, Nat.reduceAdd, Nat.reduceSub, Nat.reduceLeDiff, true_and, and_true, true_or, or_true, or_self, reduceCtorEq, if_true, if_false, not_false_eq_true, eq_self, c239]
  refine s171y y0 y1 ?_
  first
    | (with_reducible show At 239 _ 10 _ _ _ _)
    | (refine go 60 (by decide) ?_; simp only [KX, KY, KZ, KW, KV, Nat.reduceAdd, Nat.reduceSub, Nat.reduceLeDiff, true_and, and_true, true_or, or_true, or_self, reduceCtorEq, if_true, if_false, not_false_eq_true, eq_self, c239])
  first
    | (with_reducible show At 239 _ 10 _ _ _ _)
    | (refine go 60 (by decide) ?_; simp only [KX, KY, KZ, KW, KV, Nat.reduceAdd, Nat.reduceSub, Nat.reduceLeDiff, true_and, and_true, true_or, or_true, or_self, reduceCtorEq, if_true, if_false, not_false_eq_true, eq_self, c239])
  first
    | (with_reducible show At 239 _ 10 _ _ _ _)
    | (refine go 60 (by decide) ?_; simp only [KX, KY, KZ, KW, KV, Nat.reduceAdd, Nat.reduceSub, Nat.reduceLeDiff, true_and, and_true, true_or, or_true, or_self, reduceCtorEq, if_true, if_false, not_false_eq_true, eq_self, c239])
  exact At_le (lp 4 0 h1 (by omega) M0 k0) ⟨rfl, rfl, rfl, rfl, trivial⟩
theorem s239n {h : ma_H} {Q : ma_Q} {x y : Int32} (o : (x < 0 ∨ ¬ x ≤ 3) ∨ ((∃ f, f < 4 ∧ x = nI f) ∧ (y < 0 ∨ ¬ y ≤ 1))) (k : Q (some (.int (-1))) h) : ma_X 239 [.ref 80, .int x, .int y] h Q := by
  refine ma_enter (m := 239) (Or.inl (by decide)) (by show 3 ≤ mt_n 239; decide +kernel) ?_
  show At 239 Q 0 (mt_c 239) [some (.ref 80), some (.int x), some (.int y), none, none] [] h
  refine go 60 (by decide) ?_
  simp only [KX, KY, KZ, KW, KV, Nat.reduceAdd, Nat.reduceSub, Nat.reduceLeDiff, true_and, and_true, true_or, or_true, or_self, reduceCtorEq, if_true, if_false, not_false_eq_true, eq_self, c239]
  rcases o with o | ⟨⟨f, l, q⟩, o⟩
  · refine s170n o ?_
    refine go 60 (by decide) ?_
    simp only [KX, KY, KZ, KW, KV, Nat.reduceAdd, Nat.reduceSub, Nat.reduceLeDiff, true_and, and_true, true_or, or_true, or_self, reduceCtorEq, if_true, if_false, not_false_eq_true, eq_self, c239]
    exact k
  · refine s170y (by subst q; exact nI_pos (by omega)) (by subst q; exact nI_le (a := f) (b := 3) (by omega) (by decide)) ?_
    refine go 60 (by decide) ?_
    simp only [KX, KY, KZ, KW, KV, Nat.reduceAdd, Nat.reduceSub, Nat.reduceLeDiff, true_and, and_true, true_or, or_true, or_self, reduceCtorEq, if_true, if_false, not_false_eq_true, eq_self, c239]
    refine s171n o ?_
    refine go 60 (by decide) ?_
    simp only [KX, KY, KZ, KW, KV, Nat.reduceAdd, Nat.reduceSub, Nat.reduceLeDiff, true_and, and_true, true_or, or_true, or_self, reduceCtorEq, if_true, if_false, not_false_eq_true, eq_self, c239]
    exact k
/-- the Inv behind ways and lent rows -/
theorem Inv.ways {h h1 h2 : ma_H} (I : Inv h) {gc m : Nat} (C : CW h gc h1 m) (M : ML h1 h2) : Inv h2 := by
  obtain ⟨c1, c2, c3, c4, -⟩ := C
  obtain ⟨m1, m2, m3, m4⟩ := M
  have e : ∀ a, a ≠ 29 → a ≠ 30 → a ≠ 31 → a ≠ 32 → a ≠ 88 → a ≠ 102 → a ≠ 103 → h2.2.1 a = h.2.1 a := fun a a1 a2 a3 a4 a5 a6 a7 => (m3 a a5 a6 a7).trans (c3 a a1 a2 a3 a4)
  have nf : Nf h2 := by
    intro f hf
    obtain ⟨a1, a2, a3, a4, a5⟩ := I.nf f hf
    have e1 := e (37 + 3 * f) (by omega) (by omega) (by omega) (by omega) (by omega) (by omega) (by omega)
    have e2 := e (36 + 3 * f) (by omega) (by omega) (by omega) (by omega) (by omega) (by omega) (by omega)
    have e3 := e 89 (by decide) (by decide) (by decide) (by decide) (by decide) (by decide) (by decide)
    have e4 : ∀ j, j < 364 → ai h2 88 j = ai h 88 j := fun j hj => (m4 j hj).trans (by rw [ai_c (c3 88 (by decide) (by decide) (by decide) (by decide))])
    simp only [ai, fi, e1, e2, e3] at a1 a2 a4 a5 ⊢
    refine ⟨a1, fun i hi => (a2 i hi).trans (e4 _ (by omega)).symm, fun i hi => ?_, a4, a5⟩
    have := a3 i hi
    rw [← e4 _ (by omega)] at this
    exact this
  exact ⟨m1, (I.rr.cong (fun a ha => e a (by omega) (by omega) (by omega) (by omega) (by omega) (by omega) (by omega))), (I.rt.cong (fun a ha => e a (by omega) (by omega) (by omega) (by omega) (by omega) (by omega) (by omega))), ⟨nf, (I.ng.cong (by rw [m2, c2]; exact Nat.le_refl _) (fun a ha => e a (by omega) (by omega) (by omega) (by omega) (by omega) (by omega) (by omega))), (I.nm.cong (fun a ha => e a (by omega) (by omega) (by omega) (by omega) (by omega) (by omega) (by omega))), (I.na.cong (fun a ha => e a (by omega) (by omega) (by omega) (by omega) (by omega) (by omega) (by omega))), (I.nl.cong (fun a ha => e a (by omega) (by omega) (by omega) (by omega) (by omega) (by omega) (by omega)))⟩, (I.rk.cong (by rw [m2, c2]; exact Nat.le_refl _) (fun a ha => e a (by omega) (by omega) (by omega) (by omega) (by omega) (by omega) (by omega))), (I.rp.cong (fun a ha => e a (by omega) (by omega) (by omega) (by omega) (by omega) (by omega) (by omega))), (I.rw.cong (fun a ha => e a (by omega) (by omega) (by omega) (by omega) (by omega) (by omega) (by omega))), (I.rs.cong (fun a ha => e a (by omega) (by omega) (by omega) (by omega) (by omega) (by omega) (by omega))), (I.rv.cong (fun a ha => e a (by omega) (by omega) (by omega) (by omega) (by omega) (by omega) (by omega))), (I.ra.cong (fun a ha => e a (by omega) (by omega) (by omega) (by omega) (by omega) (by omega) (by omega))), (show fl_ok (ai h2 32) by rw [ai_c (m3 32 (by decide) (by decide) (by decide))]; exact c4)⟩
theorem p128 {h : ma_H} {x y : Int32} (I : Inv h) : Pair h 128 239 [.int x, .int y] := by
  intro Q k
  obtain ⟨gc, g6, e1, e2, G⟩ := I.ng.at
  rcases icasB x 3 (by decide) with ⟨f, l, q, -⟩ | ⟨o1, o2⟩
  · by_cases y0 : y < 0
    · exact s128n I.sh I.rr (Or.inr ⟨⟨f, l, q⟩, Or.inl y0⟩) (k _ _ (by repeat (first | exact e80_I I | exact e80_S (by assumption) | exact e80_I (by assumption) | exact e80_n I.sh | refine e80_s (by omega) ?_)) fun Q2 k2 => s239n (Or.inr ⟨⟨f, l, q⟩, Or.inl y0⟩) (k2 _ I))
    by_cases y1 : ¬ y ≤ 1
    · exact s128n I.sh I.rr (Or.inr ⟨⟨f, l, q⟩, Or.inr y1⟩) (k _ _ (by repeat (first | exact e80_I I | exact e80_S (by assumption) | exact e80_I (by assumption) | exact e80_n I.sh | refine e80_s (by omega) ?_)) fun Q2 k2 => s239n (Or.inr ⟨⟨f, l, q⟩, Or.inr y1⟩) (k2 _ I))
    have y1 := Decidable.not_not.mp y1
    refine s128 I.sh I.rr l q y0 y1 I.rc g6 e1 G (fun h1 m C => k _ _ (e80_S C.1) fun Q2 k2 => ?_)
    have C0 := C
    obtain ⟨c1, c2, c3, c4, -⟩ := C
    have M0 : ML h1 h1 := ⟨c1, rfl, fun _ _ _ _ => rfl, fun _ _ => rfl⟩
    refine s239 (h := h) (f := f) (gc := gc) M0 (I.rt.cong fun a ha => c3 a (by omega) (by omega) (by omega) (by omega)) l q y0 y1 (ai_c (c3 90 (by decide) (by decide) (by decide) (by decide))) ?_ g6 G (fun c hc => ?_) (fun h3 M => ?_)
    · show fiC (h1.2.1 80) 9 = _
      rw [c3 80 (by decide) (by decide) (by decide) (by decide)]
      exact e2
    · rw [ai_c (c3 88 (by decide) (by decide) (by decide) (by decide))]
      exact I.nf.eq l hc
    · rw [← found_eq (LKw h gc (hS (ai h (37 + 3 * f)))) (by omega) y]
      exact k2 _ (I.ways C0 M)
  · exact s128n I.sh I.rr (Or.inl o2) (k _ _ (by repeat (first | exact e80_I I | exact e80_S (by assumption) | exact e80_I (by assumption) | exact e80_n I.sh | refine e80_s (by omega) ?_)) fun Q2 k2 => s239n (Or.inl o1) (k2 _ I))
