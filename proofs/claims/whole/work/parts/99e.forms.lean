/-! forms: the class -/
def eqw (h : ma_H) (gc : Nat) (o w : Nat) : Bool := lk (TW h gc o) (TW h gc w) 91
def nw (e : Nat → Nat → Bool) (A : Nat) : Nat → Nat → Bool
  | 0, _ => true
  | j + 1, w => nw e A j w && !(e (A + j) w)
def dnw (e : Nat → Nat → Bool) (A : Nat) : Nat → Nat
  | 0 => 0
  | j + 1 => dnw e A j + if nw e A j (A + j) then 1 else 0
theorem nw_false {e : Nat → Nat → Bool} {A j w : Nat} (h : nw e A j w = false) : ∀ d, nw e A (j + d) w = false
  | 0 => h
  | d + 1 => by
    show (nw e A (j + d) w && !(e (A + (j + d)) w)) = false
    rw [nw_false h d, Bool.false_and]
theorem dnw_le (e : Nat → Nat → Bool) (A : Nat) : ∀ j, dnw e A j ≤ j
  | 0 => Nat.le_refl _
  | j + 1 => by
    show dnw e A j + (if nw e A j (A + j) then 1 else 0) ≤ j + 1
    have := dnw_le e A j
    split <;> omega
def offn (gc : Nat) : Nat → Nat
  | 0 => 0
  | n + 1 => offn gc n + gc ^ n
theorem off_t : ∀ gc, gc < 7 → ∀ n, n < 4 → offn gc n + gc ^ n ≤ 1 + gc * offn gc n ∧ offn gc n + gc ^ n ≤ 259 ∧ (n < 3 → offn gc n + gc ^ n ≤ 1 + gc + gc * gc) := by decide +kernel
theorem offn_off : ∀ gc, gc < 7 → ∀ n, n < 4 → offn gc n = off gc n := by decide +kernel
theorem s160 {h h3 : ma_H} {Q : ma_Q} {gc A N : Nat} (C1 : Sh h3) (hN : A + N ≤ 259) (known : ∀ w, w < A + N → al h3 29 w = bt (TW h gc w) 0 64 ∧ al h3 30 w = bt (TW h gc w) 64 27) (k : Q (some (.int (nI (dnw (eqw h gc) A N)))) h3) : ma_X 160 [.ref 0, .int (nI A), .int (nI (A + N))] h3 Q := by
  have lp : ∀ n j, j + n = N → At 160 Q 4 (0, 0) [some (.ref 0), some (.int (nI A)), some (.int (nI (A + N))), some (.int (nI (dnw (eqw h gc) A j))), some (.int (nI (A + j))), none, none] [] h3 := by
    intro n
    induction n with
    | zero =>
      intro j ej
      obtain rfl : j = N := by omega
      refine go 60 (by decide) ?_
      simp only [KX, KY, KZ, KW, KV, Nat.reduceAdd, Nat.reduceSub, Nat.reduceLeDiff, true_and, and_true, true_or, or_true, or_self, reduceCtorEq, if_true, if_false, not_false_eq_true, eq_self, c160]
      rw [if_neg (nI_nlt (Nat.le_refl _) (by omega))]
      exact k
    | succ n ih =>
      intro j ej
      have hj : j < N := by omega
      have dl := dnw_le (eqw h gc) A j
      have li : ∀ m o, o + m = j → At 160 Q 14 (0, 0) [some (.ref 0), some (.int (nI A)), some (.int (nI (A + N))), some (.int (nI (dnw (eqw h gc) A j))), some (.int (nI (A + j))), some (.int (bI (nw (eqw h gc) A o (A + j)))), some (.int (nI (A + o)))] [] h3 := by
        intro m
        induction m with
        | zero =>
          intro o eo
          obtain rfl : o = j := by omega
          refine go 60 (by decide) ?_
          simp only [KX, KY, KZ, KW, KV, Nat.reduceAdd, Nat.reduceSub, Nat.reduceLeDiff, true_and, and_true, true_or, or_true, or_self, reduceCtorEq, if_true, if_false, not_false_eq_true, eq_self, c160, C1.e0, C1.e29, C1.e30]
          rw [if_neg (nI_nlt (Nat.le_refl _) (by omega))]
          cases b : nw (eqw h gc) A o (A + o)
          · have e2 : dnw (eqw h gc) A (o + 1) = dnw (eqw h gc) A o := by
              show dnw (eqw h gc) A o + (if nw (eqw h gc) A o (A + o) then 1 else 0) = _
              rw [b]
              rfl
            have ih2 := ih (o + 1) (by omega)
            rw [e2] at ih2
            try rw [if_pos (show bI false = 0 from rfl)]
            first
              | (with_reducible show At 160 _ 4 _ _ _ _)
              | (refine go 60 (by decide) ?_; simp only [KX, KY, KZ, KW, KV, Nat.reduceAdd, Nat.reduceSub, Nat.reduceLeDiff, true_and, and_true, true_or, or_true, or_self, reduceCtorEq, if_true, if_false, not_false_eq_true, eq_self, c160, C1.e0, C1.e29, C1.e30, show bI false = 0 from rfl])
            first
              | (with_reducible show At 160 _ 4 _ _ _ _)
              | (refine go 60 (by decide) ?_; simp only [KX, KY, KZ, KW, KV, Nat.reduceAdd, Nat.reduceSub, Nat.reduceLeDiff, true_and, and_true, true_or, or_true, or_self, reduceCtorEq, if_true, if_false, not_false_eq_true, eq_self, c160, C1.e0, C1.e29, C1.e30, show bI false = 0 from rfl])
            first
              | (with_reducible show At 160 _ 4 _ _ _ _)
              | (refine go 60 (by decide) ?_; simp only [KX, KY, KZ, KW, KV, Nat.reduceAdd, Nat.reduceSub, Nat.reduceLeDiff, true_and, and_true, true_or, or_true, or_self, reduceCtorEq, if_true, if_false, not_false_eq_true, eq_self, c160, C1.e0, C1.e29, C1.e30, show bI false = 0 from rfl])
            rw [nI_1 (A + o), Int32.add_zero]
            exact At_le ih2 ⟨rfl, rfl, rfl, rfl, rfl, trivial⟩
          · have e2 : dnw (eqw h gc) A (o + 1) = dnw (eqw h gc) A o + 1 := by
              show dnw (eqw h gc) A o + (if nw (eqw h gc) A o (A + o) then 1 else 0) = _
              rw [b]
              rfl
            have ih2 := ih (o + 1) (by omega)
            rw [e2] at ih2
            try rw [if_neg (show ¬ bI true = 0 by decide)]
            first
              | (with_reducible show At 160 _ 4 _ _ _ _)
              | (refine go 60 (by decide) ?_; simp only [KX, KY, KZ, KW, KV, Nat.reduceAdd, Nat.reduceSub, Nat.reduceLeDiff, true_and, and_true, true_or, or_true, or_self, reduceCtorEq, if_true, if_false, not_false_eq_true, eq_self, c160, C1.e0, C1.e29, C1.e30])
            first
              | (with_reducible show At 160 _ 4 _ _ _ _)
              | (refine go 60 (by decide) ?_; simp only [KX, KY, KZ, KW, KV, Nat.reduceAdd, Nat.reduceSub, Nat.reduceLeDiff, true_and, and_true, true_or, or_true, or_self, reduceCtorEq, if_true, if_false, not_false_eq_true, eq_self, c160, C1.e0, C1.e29, C1.e30])
            first
              | (with_reducible show At 160 _ 4 _ _ _ _)
              | (refine go 60 (by decide) ?_; simp only [KX, KY, KZ, KW, KV, Nat.reduceAdd, Nat.reduceSub, Nat.reduceLeDiff, true_and, and_true, true_or, or_true, or_self, reduceCtorEq, if_true, if_false, not_false_eq_true, eq_self, c160, C1.e0, C1.e29, C1.e30])
            rw [nI_1 (A + o), nI_1 (dnw (eqw h gc) A o)]
            exact At_le ih2 ⟨rfl, rfl, rfl, rfl, rfl, trivial⟩
        | succ m jh =>
          intro o eo
          have ho : o < j := by omega
          refine go 60 (by decide) ?_
          simp only [KX, KY, KZ, KW, KV, Nat.reduceAdd, Nat.reduceSub, Nat.reduceLeDiff, true_and, and_true, true_or, or_true, or_self, reduceCtorEq, if_true, if_false, not_false_eq_true, eq_self, c160, C1.e0, C1.e29, C1.e30]
          rw [if_pos (nI_lt (show A + o < A + j by omega) (by omega))]
          cases b : nw (eqw h gc) A o (A + j)
          · have bf : nw (eqw h gc) A j (A + j) = false := by
              have := nw_false b (j - o)
              rw [show o + (j - o) = j by omega] at this
              exact this
            have e2 : dnw (eqw h gc) A (j + 1) = dnw (eqw h gc) A j := by
              show dnw (eqw h gc) A j + (if nw (eqw h gc) A j (A + j) then 1 else 0) = _
              rw [bf]
              rfl
            have ih2 := ih (j + 1) (by omega)
            rw [e2] at ih2
            rw [if_pos (show bI false = 0 from rfl)]
            try rw [if_pos (show bI false = 0 from rfl)]
            first
              | (with_reducible show At 160 _ 4 _ _ _ _)
              | (refine go 60 (by decide) ?_; simp only [KX, KY, KZ, KW, KV, Nat.reduceAdd, Nat.reduceSub, Nat.reduceLeDiff, true_and, and_true, true_or, or_true, or_self, reduceCtorEq, if_true, if_false, not_false_eq_true, eq_self, c160, C1.e0, C1.e29, C1.e30, show bI false = 0 from rfl])
            first
              | (with_reducible show At 160 _ 4 _ _ _ _)
              | (refine go 60 (by decide) ?_; simp only [KX, KY, KZ, KW, KV, Nat.reduceAdd, Nat.reduceSub, Nat.reduceLeDiff, true_and, and_true, true_or, or_true, or_self, reduceCtorEq, if_true, if_false, not_false_eq_true, eq_self, c160, C1.e0, C1.e29, C1.e30, show bI false = 0 from rfl])
            first
              | (with_reducible show At 160 _ 4 _ _ _ _)
              | (refine go 60 (by decide) ?_; simp only [KX, KY, KZ, KW, KV, Nat.reduceAdd, Nat.reduceSub, Nat.reduceLeDiff, true_and, and_true, true_or, or_true, or_self, reduceCtorEq, if_true, if_false, not_false_eq_true, eq_self, c160, C1.e0, C1.e29, C1.e30, show bI false = 0 from rfl])
            rw [nI_1 (A + j), Int32.add_zero]
            exact At_le ih2 ⟨rfl, rfl, rfl, rfl, rfl, trivial⟩
          · have kk1 := (known (A + o) (by omega)).1
            have kk2 := (known (A + o) (by omega)).2
            have kj1 := (known (A + j) (by omega)).1
            have kj2 := (known (A + j) (by omega)).2
            have jh2 := jh (o + 1) (by omega)
            have e1 : nw (eqw h gc) A (o + 1) (A + j) = !(eqw h gc (A + o) (A + j)) := by
              show (nw (eqw h gc) A o (A + j) && !(eqw h gc (A + o) (A + j))) = _
              rw [b, Bool.true_and]
            rw [e1] at jh2
            rw [if_neg (show ¬ bI true = 0 by decide), nI_clamp (show A + o < 2 ^ 31 by omega), nI_clamp (show A + j < 2 ^ 31 by omega), kk1, kj1]
            refine ⟨nI_in (show A + o < 259 by omega) (by decide), nI_in (show A + j < 259 by omega) (by decide), ?_⟩
            by_cases z1 : bt (TW h gc (A + o)) 0 64 = bt (TW h gc (A + j)) 0 64
            · rw [if_pos ((lg_cmp_eq _ _).mpr z1), kk2, kj2]
              refine ⟨nI_in (show A + o < 259 by omega) (by decide), nI_in (show A + j < 259 by omega) (by decide), ?_⟩
              by_cases z2 : bt (TW h gc (A + o)) 64 27 = bt (TW h gc (A + j)) 64 27
              · rw [if_pos ((lg_cmp_eq _ _).mpr z2)]
                rw [show eqw h gc (A + o) (A + j) = true from lk_bt.mpr ⟨z1, z2⟩] at jh2
                first
                  | (with_reducible show At 160 _ 14 _ _ _ _)
                  | (refine go 60 (by decide) ?_; simp only [KX, KY, KZ, KW, KV, Nat.reduceAdd, Nat.reduceSub, Nat.reduceLeDiff, true_and, and_true, true_or, or_true, or_self, reduceCtorEq, if_true, if_false, not_false_eq_true, eq_self, c160, C1.e0, C1.e29, C1.e30])
                first
                  | (with_reducible show At 160 _ 14 _ _ _ _)
                  | (refine go 60 (by decide) ?_; simp only [KX, KY, KZ, KW, KV, Nat.reduceAdd, Nat.reduceSub, Nat.reduceLeDiff, true_and, and_true, true_or, or_true, or_self, reduceCtorEq, if_true, if_false, not_false_eq_true, eq_self, c160, C1.e0, C1.e29, C1.e30])
                first
                  | (with_reducible show At 160 _ 14 _ _ _ _)
                  | (refine go 60 (by decide) ?_; simp only [KX, KY, KZ, KW, KV, Nat.reduceAdd, Nat.reduceSub, Nat.reduceLeDiff, true_and, and_true, true_or, or_true, or_self, reduceCtorEq, if_true, if_false, not_false_eq_true, eq_self, c160, C1.e0, C1.e29, C1.e30])
                rw [nI_1 (A + o)]
                exact At_le jh2 ⟨rfl, rfl, rfl, rfl, rfl, rfl, rfl, trivial⟩
              · rw [if_neg (fun e => z2 ((lg_cmp_eq _ _).mp e))]
                rw [show eqw h gc (A + o) (A + j) = false from (Bool.eq_false_iff.mpr fun e => z2 (lk_bt.mp e).2)] at jh2
                first
                  | (with_reducible show At 160 _ 14 _ _ _ _)
                  | (refine go 60 (by decide) ?_; simp only [KX, KY, KZ, KW, KV, Nat.reduceAdd, Nat.reduceSub, Nat.reduceLeDiff, true_and, and_true, true_or, or_true, or_self, reduceCtorEq, if_true, if_false, not_false_eq_true, eq_self, c160, C1.e0, C1.e29, C1.e30])
                first
                  | (with_reducible show At 160 _ 14 _ _ _ _)
                  | (refine go 60 (by decide) ?_; simp only [KX, KY, KZ, KW, KV, Nat.reduceAdd, Nat.reduceSub, Nat.reduceLeDiff, true_and, and_true, true_or, or_true, or_self, reduceCtorEq, if_true, if_false, not_false_eq_true, eq_self, c160, C1.e0, C1.e29, C1.e30])
                first
                  | (with_reducible show At 160 _ 14 _ _ _ _)
                  | (refine go 60 (by decide) ?_; simp only [KX, KY, KZ, KW, KV, Nat.reduceAdd, Nat.reduceSub, Nat.reduceLeDiff, true_and, and_true, true_or, or_true, or_self, reduceCtorEq, if_true, if_false, not_false_eq_true, eq_self, c160, C1.e0, C1.e29, C1.e30])
                rw [nI_1 (A + o)]
                exact At_le jh2 ⟨rfl, rfl, rfl, rfl, rfl, rfl, rfl, trivial⟩
            · rw [if_neg (fun e => z1 ((lg_cmp_eq _ _).mp e))]
              rw [show eqw h gc (A + o) (A + j) = false from (Bool.eq_false_iff.mpr fun e => z1 (lk_bt.mp e).1)] at jh2
              first
                | (with_reducible show At 160 _ 14 _ _ _ _)
                | (refine go 60 (by decide) ?_; simp only [KX, KY, KZ, KW, KV, Nat.reduceAdd, Nat.reduceSub, Nat.reduceLeDiff, true_and, and_true, true_or, or_true, or_self, reduceCtorEq, if_true, if_false, not_false_eq_true, eq_self, c160, C1.e0, C1.e29, C1.e30])
              first
                | (with_reducible show At 160 _ 14 _ _ _ _)
                | (refine go 60 (by decide) ?_; simp only [KX, KY, KZ, KW, KV, Nat.reduceAdd, Nat.reduceSub, Nat.reduceLeDiff, true_and, and_true, true_or, or_true, or_self, reduceCtorEq, if_true, if_false, not_false_eq_true, eq_self, c160, C1.e0, C1.e29, C1.e30])
              first
                | (with_reducible show At 160 _ 14 _ _ _ _)
                | (refine go 60 (by decide) ?_; simp only [KX, KY, KZ, KW, KV, Nat.reduceAdd, Nat.reduceSub, Nat.reduceLeDiff, true_and, and_true, true_or, or_true, or_self, reduceCtorEq, if_true, if_false, not_false_eq_true, eq_self, c160, C1.e0, C1.e29, C1.e30])
              rw [nI_1 (A + o)]
              exact At_le jh2 ⟨rfl, rfl, rfl, rfl, rfl, rfl, rfl, trivial⟩
      refine go 60 (by decide) ?_
      simp only [KX, KY, KZ, KW, KV, Nat.reduceAdd, Nat.reduceSub, Nat.reduceLeDiff, true_and, and_true, true_or, or_true, or_self, reduceCtorEq, if_true, if_false, not_false_eq_true, eq_self, c160]
      rw [if_pos (nI_lt (show A + j < A + N by omega) (by omega)), if_pos (show nI (A + j) < (259 : Int32) from nI_lt (b := 259) (by omega) (by decide))]
      first
        | (with_reducible show At 160 _ 14 _ _ _ _)
        | (refine go 60 (by decide) ?_; simp only [KX, KY, KZ, KW, KV, Nat.reduceAdd, Nat.reduceSub, Nat.reduceLeDiff, true_and, and_true, true_or, or_true, or_self, reduceCtorEq, if_true, if_false, not_false_eq_true, eq_self, c160])
      first
        | (with_reducible show At 160 _ 14 _ _ _ _)
        | (refine go 60 (by decide) ?_; simp only [KX, KY, KZ, KW, KV, Nat.reduceAdd, Nat.reduceSub, Nat.reduceLeDiff, true_and, and_true, true_or, or_true, or_self, reduceCtorEq, if_true, if_false, not_false_eq_true, eq_self, c160])
      first
        | (with_reducible show At 160 _ 14 _ _ _ _)
        | (refine go 60 (by decide) ?_; simp only [KX, KY, KZ, KW, KV, Nat.reduceAdd, Nat.reduceSub, Nat.reduceLeDiff, true_and, and_true, true_or, or_true, or_self, reduceCtorEq, if_true, if_false, not_false_eq_true, eq_self, c160])
      exact At_le (li j 0 (by omega)) ⟨rfl, rfl, rfl, rfl, rfl, rfl, rfl, trivial⟩
  refine ma_enter (m := 160) (Or.inl (by decide)) (by show 3 ≤ mt_n 160; decide +kernel) ?_
  show At 160 Q 0 (mt_c 160) [some (.ref 0), some (.int (nI A)), some (.int (nI (A + N))), none, none, none, none] [] h3
  refine go 60 (by decide) ?_
  simp only [KX, KY, KZ, KW, KV, Nat.reduceAdd, Nat.reduceSub, Nat.reduceLeDiff, true_and, and_true, true_or, or_true, or_self, reduceCtorEq, if_true, if_false, not_false_eq_true, eq_self, c160]
  exact At_le (lp N 0 (by omega)) ⟨rfl, rfl, rfl, rfl, rfl, trivial⟩
theorem s129 {h : ma_H} {Q : ma_Q} {n gc : Nat} (H : Sh h) (hn : n < 4) (ok : fl_ok (ai h 32)) (g6 : gc ≤ 6) (gn : 0 < n → 1 ≤ gc) (eg : fi h 34 2 = nI gc) (G : ∀ i, i < gc → ∃ r kk a, ar h 48 i = some r ∧ 115 ≤ r ∧ r < h.1 ∧ kk < 6 ∧ a < 64 ∧ h.2.1 r = g_obj kk i a ∧ ai h 90 (2 * i) = nI kk ∧ ai h 90 (2 * i + 1) = nI a) (k : ∀ h3 m, CW h gc h3 m → Q (some (.int (nI (dnw (eqw h gc) (offn gc n) (gc ^ n))))) h3) : ma_X 129 [.ref 0, .int (nI n)] h Q := by
  obtain ⟨wc1, wc2, wc3⟩ := way_ch gc (by omega)
  obtain ⟨on1, on2, -⟩ := off_t gc (by omega) n hn
  have lp : ∀ d t h3, t + d = n → CW h gc h3 (1 + gc * offn gc t) → At 129 Q 23 (0, 0) [some (.ref 0), some (.int (nI n)), some (.int (nI (offn gc t))), some (.int (nI (gc ^ t))), some (.int (nI t)), none] [] h3 := by
    intro d
    induction d with
    | zero =>
      intro t h3 et C
      obtain rfl : t = n := by omega
      refine go 60 (by decide) ?_
      simp only [KX, KY, KZ, KW, KV, Nat.reduceAdd, Nat.reduceSub, Nat.reduceLeDiff, true_and, and_true, true_or, or_true, or_self, reduceCtorEq, if_true, if_false, not_false_eq_true, eq_self, c129, (C.1).e0]
      rw [if_neg (nI_nlt (Nat.le_refl _) (by omega)), nI_add]
      refine s160 (h := h) (gc := gc) C.1 on2 (fun w hw => C.2.2.2.2 w (by omega)) ?_
      refine go 60 (by decide) ?_
      simp only [KX, KY, KZ, KW, KV, Nat.reduceAdd, Nat.reduceSub, Nat.reduceLeDiff, true_and, and_true, true_or, or_true, or_self, reduceCtorEq, if_true, if_false, not_false_eq_true, eq_self, c129]
      exact k h3 _ C
    | succ d ih =>
      intro t h3 et C
      have ht : t < n := by omega
      have g1 : 1 ≤ gc := gn (by omega)
      obtain ⟨ot1, ot2, ot3⟩ := off_t gc (by omega) t (by omega)
      have ot3 := ot3 (by omega)
      have li : ∀ m w h3, w + m = offn gc t + gc ^ t → CW h gc h3 (1 + gc * w) → At 129 Q 28 (0, 0) [some (.ref 0), some (.int (nI n)), some (.int (nI (offn gc t))), some (.int (nI (gc ^ t))), some (.int (nI t)), some (.int (nI w))] [] h3 := by
        intro m
        induction m with
        | zero =>
          intro w h3 ew C
          obtain rfl : w = offn gc t + gc ^ t := by omega
          have eg3 : fi h3 34 2 = nI gc := by
            show fiC (h3.2.1 34) 2 = _
            rw [C.2.2.1 34 (by decide) (by decide) (by decide) (by decide)]
            exact eg
          refine go 60 (by decide) ?_
          simp only [KX, KY, KZ, KW, KV, Nat.reduceAdd, Nat.reduceSub, Nat.reduceLeDiff, true_and, and_true, true_or, or_true, or_self, reduceCtorEq, if_true, if_false, not_false_eq_true, eq_self, c129, (C.1).e0, (C.1).e34, eg3]
          rw [nI_add, if_neg (nI_nlt (Nat.le_refl _) (by omega))]
          have ih2 := ih (t + 1) h3 (by omega) C
          rw [nI_mul, ← Nat.pow_succ, nI_1 t]
          exact At_le ih2 ⟨rfl, rfl, rfl, rfl, rfl, trivial⟩
        | succ m jh =>
          intro w h3 ew C
          refine go 60 (by decide) ?_
          simp only [KX, KY, KZ, KW, KV, Nat.reduceAdd, Nat.reduceSub, Nat.reduceLeDiff, true_and, and_true, true_or, or_true, or_self, reduceCtorEq, if_true, if_false, not_false_eq_true, eq_self, c129, (C.1).e0]
          rw [nI_add, if_pos (nI_lt (show w < offn gc t + gc ^ t by omega) (by omega))]
          have gw : w ≤ gc * w := by
            have := Nat.mul_le_mul (show 1 ≤ gc by omega) (Nat.le_refl w)
            rw [Nat.one_mul] at this
            exact this
          refine s157 (h := h) (gc := gc) (w := w) C (by omega) (by rw [Pn2, wc1]; omega) (by omega) g6 eg G (fun h4 c6 => ?_)
          first
            | (with_reducible show At 129 _ 28 _ _ _ _)
            | (refine go 60 (by decide) ?_; simp only [KX, KY, KZ, KW, KV, Nat.reduceAdd, Nat.reduceSub, Nat.reduceLeDiff, true_and, and_true, true_or, or_true, or_self, reduceCtorEq, if_true, if_false, not_false_eq_true, eq_self, c129])
          first
            | (with_reducible show At 129 _ 28 _ _ _ _)
            | (refine go 60 (by decide) ?_; simp only [KX, KY, KZ, KW, KV, Nat.reduceAdd, Nat.reduceSub, Nat.reduceLeDiff, true_and, and_true, true_or, or_true, or_self, reduceCtorEq, if_true, if_false, not_false_eq_true, eq_self, c129])
          first
            | (with_reducible show At 129 _ 28 _ _ _ _)
            | (refine go 60 (by decide) ?_; simp only [KX, KY, KZ, KW, KV, Nat.reduceAdd, Nat.reduceSub, Nat.reduceLeDiff, true_and, and_true, true_or, or_true, or_self, reduceCtorEq, if_true, if_false, not_false_eq_true, eq_self, c129])
          rw [nI_1 w]
          exact jh (w + 1) h4 (by omega) c6
      refine go 60 (by decide) ?_
      simp only [KX, KY, KZ, KW, KV, Nat.reduceAdd, Nat.reduceSub, Nat.reduceLeDiff, true_and, and_true, true_or, or_true, or_self, reduceCtorEq, if_true, if_false, not_false_eq_true, eq_self, c129]
      rw [if_pos (nI_lt ht (by omega))]
      first
        | (with_reducible show At 129 _ 28 _ _ _ _)
        | (refine go 60 (by decide) ?_; simp only [KX, KY, KZ, KW, KV, Nat.reduceAdd, Nat.reduceSub, Nat.reduceLeDiff, true_and, and_true, true_or, or_true, or_self, reduceCtorEq, if_true, if_false, not_false_eq_true, eq_self, c129])
      first
        | (with_reducible show At 129 _ 28 _ _ _ _)
        | (refine go 60 (by decide) ?_; simp only [KX, KY, KZ, KW, KV, Nat.reduceAdd, Nat.reduceSub, Nat.reduceLeDiff, true_and, and_true, true_or, or_true, or_self, reduceCtorEq, if_true, if_false, not_false_eq_true, eq_self, c129])
      first
        | (with_reducible show At 129 _ 28 _ _ _ _)
        | (refine go 60 (by decide) ?_; simp only [KX, KY, KZ, KW, KV, Nat.reduceAdd, Nat.reduceSub, Nat.reduceLeDiff, true_and, and_true, true_or, or_true, or_self, reduceCtorEq, if_true, if_false, not_false_eq_true, eq_self, c129])
      exact At_le (li (gc ^ t) (offn gc t) h3 rfl C) ⟨rfl, rfl, rfl, rfl, rfl, rfl, trivial⟩
  refine ma_enter (m := 129) (Or.inl (by decide)) (by show 2 ≤ mt_n 129; decide +kernel) ?_
  show At 129 Q 0 (mt_c 129) [some (.ref 0), some (.int (nI n)), none, none, none, none] [] h
  refine go 60 (by decide) ?_
  simp only [KX, KY, KZ, KW, KV, Nat.reduceAdd, Nat.reduceSub, Nat.reduceLeDiff, true_and, and_true, true_or, or_true, or_self, reduceCtorEq, if_true, if_false, not_false_eq_true, eq_self, c129, H.e0, H.e34, eg]
  rw [if_neg (nI_pos (show n < 2 ^ 31 by omega)), if_pos (show nI n ≤ (3 : Int32) from nI_le (b := 3) (by omega) (by decide))]
  have st : ma_X 156 [.ref 0] h (fun v h2 => At 129 Q 21 (0, 0) [some (.ref 0), some (.int (nI n)), some (.int 0), some (.int 1), none, none] (v.toList ++ []) h2) := by
    refine s156 H ok gc (fun h3 C => ?_)
    refine go 60 (by decide) ?_
    simp only [KX, KY, KZ, KW, KV, Nat.reduceAdd, Nat.reduceSub, Nat.reduceLeDiff, true_and, and_true, true_or, or_true, or_self, reduceCtorEq, if_true, if_false, not_false_eq_true, eq_self, c129]
    exact At_le (lp n 0 h3 (by omega) C) ⟨rfl, rfl, rfl, rfl, rfl, trivial⟩
  by_cases c : n = 0
  · rw [if_pos (show nI n ≤ 0 by rw [c]; decide)]
    exact st
  · rw [if_neg (show ¬ nI n ≤ 0 from nI_ge (a := 0) (by omega) (by omega)), if_neg (show ¬ nI gc = 0 from fun z => absurd ((nI_eq (a := gc) (b := 0) (by omega) (by decide)).mp z) (by have := gn (by omega); omega))]
    exact st
theorem s129z {h : ma_H} {Q : ma_Q} {n : Nat} (H : Sh h) (hn : n < 4) (n0 : 0 < n) (eg : fi h 34 2 = nI 0) (k : Q (some (.int (-3))) h) : ma_X 129 [.ref 0, .int (nI n)] h Q := by
  refine ma_enter (m := 129) (Or.inl (by decide)) (by show 2 ≤ mt_n 129; decide +kernel) ?_
  show At 129 Q 0 (mt_c 129) [some (.ref 0), some (.int (nI n)), none, none, none, none] [] h
  refine go 60 (by decide) ?_
  simp only [KX, KY, KZ, KW, KV, Nat.reduceAdd, Nat.reduceSub, Nat.reduceLeDiff, true_and, and_true, true_or, or_true, or_self, reduceCtorEq, if_true, if_false, not_false_eq_true, eq_self, c129, H.e0, H.e34, eg]
  rw [if_neg (nI_pos (show n < 2 ^ 31 by omega)), if_pos (show nI n ≤ (3 : Int32) from nI_le (b := 3) (by omega) (by decide)), if_neg (show ¬ nI n ≤ 0 from nI_ge (a := 0) (by omega) (by omega)), if_pos (show nI 0 = 0 from rfl)]
  exact k
theorem s129n {h : ma_H} {Q : ma_Q} {x : Int32} (H : Sh h) (o : x < 0 ∨ ¬ x ≤ 3) (k : Q (some (.int (-1))) h) : ma_X 129 [.ref 0, .int x] h Q := by
  refine ma_enter (m := 129) (Or.inl (by decide)) (by show 2 ≤ mt_n 129; decide +kernel) ?_
  show At 129 Q 0 (mt_c 129) [some (.ref 0), some (.int x), none, none, none, none] [] h
  refine go 60 (by decide) ?_
  simp only [KX, KY, KZ, KW, KV, Nat.reduceAdd, Nat.reduceSub, Nat.reduceLeDiff, true_and, and_true, true_or, or_true, or_self, reduceCtorEq, if_true, if_false, not_false_eq_true, eq_self, c129, H.e0]
  by_cases z : x < 0
  · rw [if_pos z]
    exact k
  · rw [if_neg z, if_neg (o.resolve_left z)]
    exact k
