/-! grow: a MINUTE by a GROWTH -/
theorem ma_set_swap (h : ma_H) {a b : Nat} (ne : a ≠ b) (x y : ma_C) : ma_set (ma_set h a x) b y = ma_set (ma_set h b y) a x := by
  unfold ma_set
  refine Prod.ext rfl (Prod.ext (funext fun q => ?_) rfl)
  show (if q = b then y else if q = a then x else h.2.1 q) = if q = a then x else if q = b then y else h.2.1 q
  by_cases e : q = b
  · rw [if_pos e, if_neg (by omega), if_pos e]
  · rw [if_neg e, if_neg e]
def nxt (z : Int32) : Int32 := z * 1103515245 + 12345
def rl (z : Int32) : Int32 := (z.toUInt32 >>> ((16 : Int32).toUInt32 &&& Int32.toUInt32 31)).toInt32 - (z.toUInt32 >>> ((16 : Int32).toUInt32 &&& Int32.toUInt32 31)).toInt32 / 4 * 4
/-- z after n CELLS; whether CELL n comes to have ICE -/
def gzz (K : Nat → Int32) (ms z : Int32) : Nat → Int32
  | 0 => z
  | n + 1 => if K n = 0 then gzz K ms z n else if ms = 0 then gzz K ms z n else nxt (gzz K ms z n)
def gfl (K : Nat → Int32) (ms z : Int32) (n : Nat) : Int32 := if K n = 0 then 0 else if ms = 0 then 1 else if rl (nxt (gzz K ms z n)) < ms then 0 else 1
/-- the places (p) set so -/
def garr (K : Nat → Int32) (ms z mn : Int32) (p : Nat → Nat) (g : Nat → Int32) : Nat → Nat → Int32
  | 0 => g
  | n + 1 => if gfl K ms z n = 0 then garr K ms z mn p g n else upd (garr K ms z mn p g n) (p n) mn
theorem lf_mono (K l : Nat → Int32) (c : Nat) : ∀ n, (lf K l c).1 ≤ (lf K l (c + n)).1
  | 0 => Nat.le_refl _
  | n + 1 => by
    have ih := lf_mono K l c n
    show _ ≤ (if K (c + n) = 0 then lf K l (c + n) else ((lf K l (c + n)).1 + 1, upd (lf K l (c + n)).2 (lf K l (c + n)).1 (nI (ma_cell (c + n))))).1
    split
    · exact ih
    · show _ ≤ (lf K l (c + n)).1 + 1
      omega
theorem lf_at (K l : Nat → Int32) {c : Nat} (hc : ¬ K c = 0) : ∀ n, (lf K l (c + 1 + n)).2 (lf K l c).1 = nI (ma_cell c)
  | 0 => by
    show (if K c = 0 then lf K l c else ((lf K l c).1 + 1, upd (lf K l c).2 (lf K l c).1 (nI (ma_cell c)))).2 _ = _
    rw [if_neg hc]
    exact if_pos rfl
  | n + 1 => by
    have ih := lf_at K l hc n
    have m1 := lf_mono K l (c + 1) n
    have m0 : (lf K l (c + 1)).1 = (lf K l c).1 + 1 := by
      show (if K c = 0 then lf K l c else ((lf K l c).1 + 1, upd (lf K l c).2 (lf K l c).1 (nI (ma_cell c)))).1 = _
      rw [if_neg hc]
    show (if K (c + 1 + n) = 0 then lf K l (c + 1 + n) else ((lf K l (c + 1 + n)).1 + 1, upd (lf K l (c + 1 + n)).2 (lf K l (c + 1 + n)).1 (nI (ma_cell (c + 1 + n))))).2 _ = _
    split
    · exact ih
    · show upd _ _ _ _ = _
      unfold upd
      rw [if_neg (by omega)]
      exact ih
theorem s97z {h : ma_H} {Q : ma_Q} {gc : Value} {z : Int32} {ms : Int32} (e : h.2.1 34 = .inr (10, [.ref 35, .ref 48, gc, .ref 49, .ref 53, .ref 54, .int ms, .int z, .ref 55, .ref 56])) (m0 : ms = 0) (k : Q (some (.int 0)) h) : ma_X 97 [.ref 34] h Q := by
  subst m0
  refine ma_enter (m := 97) (Or.inl (by decide)) (by show 1 ≤ mt_n 97; decide +kernel) ?_
  show At 97 Q 0 (mt_c 97) [some (.ref 34)] [] h
  refine go 60 (by decide) ?_
  simp only [KX, KY, KZ, KW, KV, Nat.reduceAdd, Nat.reduceSub, Nat.reduceLeDiff, true_and, and_true, true_or, or_true, or_self, reduceCtorEq, if_true, if_false, not_false_eq_true, eq_self, c97, e]
  exact k
theorem s97 {h : ma_H} {Q : ma_Q} {gc : Value} {ms z : Int32} (e : h.2.1 34 = .inr (10, [.ref 35, .ref 48, gc, .ref 49, .ref 53, .ref 54, .int ms, .int z, .ref 55, .ref 56])) (m0 : ¬ ms = 0) (k : Q (some (.int (if rl (nxt z) < ms then 1 else 0))) (ma_set h 34 (.inr (10, [.ref 35, .ref 48, gc, .ref 49, .ref 53, .ref 54, .int ms, .int (nxt z), .ref 55, .ref 56])))) : ma_X 97 [.ref 34] h Q := by
  refine ma_enter (m := 97) (Or.inl (by decide)) (by show 1 ≤ mt_n 97; decide +kernel) ?_
  show At 97 Q 0 (mt_c 97) [some (.ref 34)] [] h
  refine go 60 (by decide) ?_
  simp only [KX, KY, KZ, KW, KV, Nat.reduceAdd, Nat.reduceSub, Nat.reduceLeDiff, true_and, and_true, true_or, or_true, or_self, reduceCtorEq, if_true, if_false, not_false_eq_true, eq_self, c97, e, ma_set_at, List.set_cons_succ, List.set_cons_zero]
  rw [if_neg m0]
  refine ⟨by simp only [List.length_cons, List.length_nil]; omega, trivial, ?_⟩
  show if rl (nxt z) < ms then _ else _
  by_cases c : rl (nxt z) < ms
  · rw [if_pos c] at k ⊢; exact k
  · rw [if_neg c] at k ⊢; exact k
theorem garr_ne {K : Nat → Int32} {ms z mn : Int32} {p : Nat → Nat} {g : Nat → Int32} (hm : mn ≠ -2) {j : Nat} (hj : g j ≠ -2) : ∀ n, garr K ms z mn p g n j ≠ -2
  | 0 => hj
  | n + 1 => by
    show (if gfl K ms z n = 0 then garr K ms z mn p g n else upd (garr K ms z mn p g n) (p n) mn) j ≠ -2
    split
    · exact garr_ne hm hj n
    · show upd _ _ _ _ ≠ -2
      unfold upd
      split
      · exact hm
      · exact garr_ne hm hj n
theorem s96 {h : ma_H} {Q : ma_Q} {f r kk a gi : Nat} (H : Sh h) (l : f < 4) (ok : fl_ok (ai h (37 + 3 * f))) (hmn : fi h (36 + 3 * f) 0 + 1 ≠ -2) (r115 : 115 ≤ r) (hk : kk < 6) (eo : h.2.1 r = .inr (g_cls kk, [.int (nI kk), .int (nI gi), .int (nI a), .ref 27])) (k : Q (some (.int (su (gfl (fz (ai h (37 + 3 * f)) kk (nI a)) (fi h 34 6) (fi h 34 7)) 91))) (ma_set (ma_set (ma_set (ma_set h 55 (.inl (.int, 91, .inl (lf (fz (ai h (37 + 3 * f)) kk (nI a)) (ai h 55) 91).2))) (36 + 3 * f) (.inr (2, [.int (fi h (36 + 3 * f) 0 + 1), .ref (37 + 3 * f), .ref (38 + 3 * f)]))) 34 (.inr (10, [.ref 35, .ref 48, .int (fi h 34 2), .ref 49, .ref 53, .ref 54, .int (fi h 34 6), .int (gzz (fz (ai h (37 + 3 * f)) kk (nI a)) (fi h 34 6) (fi h 34 7) 91), .ref 55, .ref 56]))) (37 + 3 * f) (.inl (.int, 169, .inl (garr (fz (ai h (37 + 3 * f)) kk (nI a)) (fi h 34 6) (fi h 34 7) (fi h (36 + 3 * f) 0 + 1) ma_cell (ai h (37 + 3 * f)) 91))))) : ma_X 96 [.ref 34, .ref (36 + 3 * f), .ref r] h Q := by
  have h34 : ∀ Z A, (ma_set (ma_set (ma_set (ma_set h 55 (.inl (.int, 91, .inl (lf (fz (ai h (37 + 3 * f)) kk (nI a)) (ai h 55) 91).2))) (36 + 3 * f) (.inr (2, [.int (fi h (36 + 3 * f) 0 + 1), .ref (37 + 3 * f), .ref (38 + 3 * f)]))) 34 Z) (37 + 3 * f) A).2.1 34 = Z := fun Z A => (ma_set_ne _ _ (by omega)).trans (ma_set_at _ _ _)
  have h55 : ∀ Z A, (ma_set (ma_set (ma_set (ma_set h 55 (.inl (.int, 91, .inl (lf (fz (ai h (37 + 3 * f)) kk (nI a)) (ai h 55) 91).2))) (36 + 3 * f) (.inr (2, [.int (fi h (36 + 3 * f) 0 + 1), .ref (37 + 3 * f), .ref (38 + 3 * f)]))) 34 Z) (37 + 3 * f) A).2.1 55 = .inl (.int, 91, .inl (lf (fz (ai h (37 + 3 * f)) kk (nI a)) (ai h 55) 91).2) := fun Z A => (ma_set_ne _ _ (by omega)).trans ((ma_set_ne _ _ (by decide)).trans ((ma_set_ne _ _ (by omega)).trans (ma_set_at _ _ _)))
  have hf : ∀ Z A, (ma_set (ma_set (ma_set (ma_set h 55 (.inl (.int, 91, .inl (lf (fz (ai h (37 + 3 * f)) kk (nI a)) (ai h 55) 91).2))) (36 + 3 * f) (.inr (2, [.int (fi h (36 + 3 * f) 0 + 1), .ref (37 + 3 * f), .ref (38 + 3 * f)]))) 34 Z) (37 + 3 * f) A).2.1 (36 + 3 * f) = .inr (2, [.int (fi h (36 + 3 * f) 0 + 1), .ref (37 + 3 * f), .ref (38 + 3 * f)]) := fun Z A => (ma_set_ne _ _ (by omega)).trans ((ma_set_ne _ _ (by omega)).trans (ma_set_at _ _ _))
  have hs : ∀ Z A, (ma_set (ma_set (ma_set (ma_set h 55 (.inl (.int, 91, .inl (lf (fz (ai h (37 + 3 * f)) kk (nI a)) (ai h 55) 91).2))) (36 + 3 * f) (.inr (2, [.int (fi h (36 + 3 * f) 0 + 1), .ref (37 + 3 * f), .ref (38 + 3 * f)]))) 34 Z) (37 + 3 * f) A).2.1 (37 + 3 * f) = A := fun Z A => ma_set_at _ _ _
  have sw : ∀ Z A Z2, ma_set (ma_set (ma_set (ma_set (ma_set h 55 (.inl (.int, 91, .inl (lf (fz (ai h (37 + 3 * f)) kk (nI a)) (ai h 55) 91).2))) (36 + 3 * f) (.inr (2, [.int (fi h (36 + 3 * f) 0 + 1), .ref (37 + 3 * f), .ref (38 + 3 * f)]))) 34 Z) (37 + 3 * f) A) 34 Z2 = ma_set (ma_set (ma_set (ma_set h 55 (.inl (.int, 91, .inl (lf (fz (ai h (37 + 3 * f)) kk (nI a)) (ai h 55) 91).2))) (36 + 3 * f) (.inr (2, [.int (fi h (36 + 3 * f) 0 + 1), .ref (37 + 3 * f), .ref (38 + 3 * f)]))) 34 Z2) (37 + 3 * f) A := fun Z A Z2 => by rw [ma_set_swap _ (show 37 + 3 * f ≠ 34 by omega), ma_set_set]
  have lp : ∀ n c, c + n = 91 → At 96 Q 16 (0, 0) [some (.ref 34), some (.ref (36 + 3 * f)), some (.ref r), some (.int (nI (lf (fz (ai h (37 + 3 * f)) kk (nI a)) (ai h 55) 91).1)), some (.int (su (gfl (fz (ai h (37 + 3 * f)) kk (nI a)) (fi h 34 6) (fi h 34 7)) c)), some (.int (nI (lf (fz (ai h (37 + 3 * f)) kk (nI a)) (ai h 55) c).1))] [] (ma_set (ma_set (ma_set (ma_set h 55 (.inl (.int, 91, .inl (lf (fz (ai h (37 + 3 * f)) kk (nI a)) (ai h 55) 91).2))) (36 + 3 * f) (.inr (2, [.int (fi h (36 + 3 * f) 0 + 1), .ref (37 + 3 * f), .ref (38 + 3 * f)]))) 34 (.inr (10, [.ref 35, .ref 48, .int (fi h 34 2), .ref 49, .ref 53, .ref 54, .int (fi h 34 6), .int (gzz (fz (ai h (37 + 3 * f)) kk (nI a)) (fi h 34 6) (fi h 34 7) c), .ref 55, .ref 56]))) (37 + 3 * f) (.inl (.int, 169, .inl (garr (fz (ai h (37 + 3 * f)) kk (nI a)) (fi h 34 6) (fi h 34 7) (fi h (36 + 3 * f) 0 + 1) ma_cell (ai h (37 + 3 * f)) c)))) := by
    intro n
    induction n with
    | zero =>
      intro c e
      obtain rfl : c = 91 := by omega
      refine go 60 (by decide) ?_
      simp only [KX, KY, KZ, KW, KV, Nat.reduceAdd, Nat.reduceSub, Nat.reduceLeDiff, true_and, and_true, true_or, or_true, or_self, reduceCtorEq, if_true, if_false, not_false_eq_true, eq_self, c96, h34, h55, hf, hs]
      rw [if_neg (nI_nlt (Nat.le_refl _) (by have := lf_le (fz (ai h (37 + 3 * f)) kk (nI a)) (ai h 55) 91; omega))]
      exact k
    | succ n ih =>
      intro c e
      have hc : c < 91 := by omega
      have ih2 := ih (c + 1) (by omega)
      have dl : lf (fz (ai h (37 + 3 * f)) kk (nI a)) (ai h 55) (c + 1) = if (fz (ai h (37 + 3 * f)) kk (nI a)) c = 0 then lf (fz (ai h (37 + 3 * f)) kk (nI a)) (ai h 55) c else ((lf (fz (ai h (37 + 3 * f)) kk (nI a)) (ai h 55) c).1 + 1, upd (lf (fz (ai h (37 + 3 * f)) kk (nI a)) (ai h 55) c).2 (lf (fz (ai h (37 + 3 * f)) kk (nI a)) (ai h 55) c).1 (nI (ma_cell c))) := rfl
      have dz : gzz (fz (ai h (37 + 3 * f)) kk (nI a)) (fi h 34 6) (fi h 34 7) (c + 1) = if (fz (ai h (37 + 3 * f)) kk (nI a)) c = 0 then gzz (fz (ai h (37 + 3 * f)) kk (nI a)) (fi h 34 6) (fi h 34 7) c else if fi h 34 6 = 0 then gzz (fz (ai h (37 + 3 * f)) kk (nI a)) (fi h 34 6) (fi h 34 7) c else nxt (gzz (fz (ai h (37 + 3 * f)) kk (nI a)) (fi h 34 6) (fi h 34 7) c) := rfl
      have df : gfl (fz (ai h (37 + 3 * f)) kk (nI a)) (fi h 34 6) (fi h 34 7) c = if (fz (ai h (37 + 3 * f)) kk (nI a)) c = 0 then 0 else if fi h 34 6 = 0 then 1 else if rl (nxt (gzz (fz (ai h (37 + 3 * f)) kk (nI a)) (fi h 34 6) (fi h 34 7) c)) < fi h 34 6 then 0 else 1 := rfl
      have ds : su (gfl (fz (ai h (37 + 3 * f)) kk (nI a)) (fi h 34 6) (fi h 34 7)) (c + 1) = su (gfl (fz (ai h (37 + 3 * f)) kk (nI a)) (fi h 34 6) (fi h 34 7)) c + gfl (fz (ai h (37 + 3 * f)) kk (nI a)) (fi h 34 6) (fi h 34 7) c := rfl
      have da : garr (fz (ai h (37 + 3 * f)) kk (nI a)) (fi h 34 6) (fi h 34 7) (fi h (36 + 3 * f) 0 + 1) ma_cell (ai h (37 + 3 * f)) (c + 1) = if gfl (fz (ai h (37 + 3 * f)) kk (nI a)) (fi h 34 6) (fi h 34 7) c = 0 then garr (fz (ai h (37 + 3 * f)) kk (nI a)) (fi h 34 6) (fi h 34 7) (fi h (36 + 3 * f) 0 + 1) ma_cell (ai h (37 + 3 * f)) c else upd (garr (fz (ai h (37 + 3 * f)) kk (nI a)) (fi h 34 6) (fi h 34 7) (fi h (36 + 3 * f) 0 + 1) ma_cell (ai h (37 + 3 * f)) c) (ma_cell c) (fi h (36 + 3 * f) 0 + 1) := rfl
      by_cases kc : (fz (ai h (37 + 3 * f)) kk (nI a)) c = 0
      · rw [if_pos kc] at dl dz df
        rw [df, if_pos rfl] at da
        rw [df, Int32.add_zero] at ds
        rw [dl, dz, da, ds] at ih2
        exact ih2
      · rw [if_neg kc] at dl dz df
        have hm : (lf (fz (ai h (37 + 3 * f)) kk (nI a)) (ai h 55) c).1 < (lf (fz (ai h (37 + 3 * f)) kk (nI a)) (ai h 55) 91).1 := by
          have m1 := lf_mono (fz (ai h (37 + 3 * f)) kk (nI a)) (ai h 55) (c + 1) n
          rw [show c + 1 + n = 91 by omega, dl] at m1
          exact m1
        have hm2 := lf_le (fz (ai h (37 + 3 * f)) kk (nI a)) (ai h 55) 91
        have hat := lf_at (fz (ai h (37 + 3 * f)) kk (nI a)) (ai h 55) kc n
        rw [show c + 1 + n = 91 by omega] at hat
        refine go 60 (by decide) ?_
        simp only [KX, KY, KZ, KW, KV, Nat.reduceAdd, Nat.reduceSub, Nat.reduceLeDiff, true_and, and_true, true_or, or_true, or_self, reduceCtorEq, if_true, if_false, not_false_eq_true, eq_self, c96, h34, h55, hf, hs]
        rw [if_pos (nI_lt hm (by omega)), if_pos (nI_lt (show (lf (fz (ai h (37 + 3 * f)) kk (nI a)) (ai h 55) c).1 < 91 by omega) (by decide))]
        by_cases m0 : fi h 34 6 = 0
        · rw [if_pos m0] at dz df
          rw [df, if_neg (by decide)] at da
          rw [df] at ds
          refine s97z (h34 _ _) m0 ?_
          refine go 60 (by decide) ?_
          simp only [KX, KY, KZ, KW, KV, Nat.reduceAdd, Nat.reduceSub, Nat.reduceLeDiff, true_and, and_true, true_or, or_true, or_self, reduceCtorEq, if_true, if_false, not_false_eq_true, eq_self, c96, h34, h55, hf, hs]
          rw [nI_clamp (show (lf (fz (ai h (37 + 3 * f)) kk (nI a)) (ai h 55) c).1 < 2 ^ 31 by omega), hat]
          refine ⟨nI_in (show (lf (fz (ai h (37 + 3 * f)) kk (nI a)) (ai h 55) c).1 < 91 by omega) (by decide), ?_⟩
          refine s17c (hf _ _) (hs _ _) hc (garr_ne hmn (ok.1 c hc) c) ?_
          rw [ma_set_set]
          refine go 60 (by decide) ?_
          simp only [KX, KY, KZ, KW, KV, Nat.reduceAdd, Nat.reduceSub, Nat.reduceLeDiff, true_and, and_true, true_or, or_true, or_self, reduceCtorEq, if_true, if_false, not_false_eq_true, eq_self, c96, h34, h55, hf, hs]
          rw [nI_1]
          rw [dl, dz, da, ds] at ih2
          exact ih2
        · rw [if_neg m0] at dz df
          refine s97 (h34 _ _) m0 ?_
          rw [sw]
          by_cases m1 : rl (nxt (gzz (fz (ai h (37 + 3 * f)) kk (nI a)) (fi h 34 6) (fi h 34 7) c)) < fi h 34 6
          · rw [if_pos m1] at df ⊢
            rw [df, if_pos rfl] at da
            rw [df, Int32.add_zero] at ds
            refine go 60 (by decide) ?_
            simp only [KX, KY, KZ, KW, KV, Nat.reduceAdd, Nat.reduceSub, Nat.reduceLeDiff, true_and, and_true, true_or, or_true, or_self, reduceCtorEq, if_true, if_false, not_false_eq_true, eq_self, c96, h34, h55, hf, hs]
            rw [nI_1]
            rw [dl, dz, da, ds] at ih2
            exact ih2
          · rw [if_neg m1] at df ⊢
            rw [df, if_neg (by decide)] at da
            rw [df] at ds
            refine go 60 (by decide) ?_
            simp only [KX, KY, KZ, KW, KV, Nat.reduceAdd, Nat.reduceSub, Nat.reduceLeDiff, true_and, and_true, true_or, or_true, or_self, reduceCtorEq, if_true, if_false, not_false_eq_true, eq_self, c96, h34, h55, hf, hs]
            rw [nI_clamp (show (lf (fz (ai h (37 + 3 * f)) kk (nI a)) (ai h 55) c).1 < 2 ^ 31 by omega), hat]
            refine ⟨nI_in (show (lf (fz (ai h (37 + 3 * f)) kk (nI a)) (ai h 55) c).1 < 91 by omega) (by decide), ?_⟩
            refine s17c (hf _ _) (hs _ _) hc (garr_ne hmn (ok.1 c hc) c) ?_
            rw [ma_set_set]
            refine go 60 (by decide) ?_
            simp only [KX, KY, KZ, KW, KV, Nat.reduceAdd, Nat.reduceSub, Nat.reduceLeDiff, true_and, and_true, true_or, or_true, or_self, reduceCtorEq, if_true, if_false, not_false_eq_true, eq_self, c96, h34, h55, hf, hs]
            rw [nI_1]
            rw [dl, dz, da, ds] at ih2
            exact ih2
  refine ma_enter (m := 96) (Or.inl (by decide)) (by show 3 ≤ mt_n 96; decide +kernel) ?_
  show At 96 Q 0 (mt_c 96) [some (.ref 34), some (.ref (36 + 3 * f)), some (.ref r), none, none, none] [] h
  refine go 60 (by decide) ?_
  simp only [KX, KY, KZ, KW, KV, Nat.reduceAdd, Nat.reduceSub, Nat.reduceLeDiff, true_and, and_true, true_or, or_true, or_self, reduceCtorEq, if_true, if_false, not_false_eq_true, eq_self, c96, H.e34, eo, (vt289 kk hk).2.1, show mt_c 42 = (0, 0) from rfl]
  refine s42 (c := 0) (H.fn l).1 (H.fn l).2.1 hk eo H.e55 (by omega) (by omega) (by omega) ?_
  have hq : ∀ c, (ma_set h 55 c).2.1 (36 + 3 * f) = _ := fun c => (ma_set_ne _ _ (by omega)).trans (H.fn l).1
  refine go 60 (by decide) ?_
  simp only [KX, KY, KZ, KW, KV, Nat.reduceAdd, Nat.reduceSub, Nat.reduceLeDiff, true_and, and_true, true_or, or_true, or_self, reduceCtorEq, if_true, if_false, not_false_eq_true, eq_self, c96, hq, List.set_cons_succ, List.set_cons_zero]
  refine ⟨by simp only [List.length_cons, List.length_nil]; omega, trivial, ?_⟩
  have l0 := lp 91 0 rfl
  have i1 : ma_set (ma_set (ma_set h 55 (.inl (.int, 91, .inl (lf (fz (ai h (37 + 3 * f)) kk (nI a)) (ai h 55) 91).2))) (36 + 3 * f) (.inr (2, [.int (fi h (36 + 3 * f) 0 + 1), .ref (37 + 3 * f), .ref (38 + 3 * f)]))) 34 (.inr (10, [.ref 35, .ref 48, .int (fi h 34 2), .ref 49, .ref 53, .ref 54, .int (fi h 34 6), .int (gzz (fz (ai h (37 + 3 * f)) kk (nI a)) (fi h 34 6) (fi h 34 7) 0), .ref 55, .ref 56])) = (ma_set (ma_set h 55 (.inl (.int, 91, .inl (lf (fz (ai h (37 + 3 * f)) kk (nI a)) (ai h 55) 91).2))) (36 + 3 * f) (.inr (2, [.int (fi h (36 + 3 * f) 0 + 1), .ref (37 + 3 * f), .ref (38 + 3 * f)]))) := ma_set_id ((ma_set_ne _ _ (by omega)).trans ((ma_set_ne _ _ (by decide)).trans H.e34))
  rw [i1] at l0
  have i2 : ma_set (ma_set (ma_set h 55 (.inl (.int, 91, .inl (lf (fz (ai h (37 + 3 * f)) kk (nI a)) (ai h 55) 91).2))) (36 + 3 * f) (.inr (2, [.int (fi h (36 + 3 * f) 0 + 1), .ref (37 + 3 * f), .ref (38 + 3 * f)]))) (37 + 3 * f) (.inl (.int, 169, .inl (garr (fz (ai h (37 + 3 * f)) kk (nI a)) (fi h 34 6) (fi h 34 7) (fi h (36 + 3 * f) 0 + 1) ma_cell (ai h (37 + 3 * f)) 0))) = (ma_set (ma_set h 55 (.inl (.int, 91, .inl (lf (fz (ai h (37 + 3 * f)) kk (nI a)) (ai h 55) 91).2))) (36 + 3 * f) (.inr (2, [.int (fi h (36 + 3 * f) 0 + 1), .ref (37 + 3 * f), .ref (38 + 3 * f)]))) := ma_set_id ((ma_set_ne _ _ (by omega)).trans ((ma_set_ne _ _ (by omega)).trans (H.fn l).2.1))
  rw [i2] at l0
  exact l0
