/-! found: the class -/
def mwF (gc : Nat) : Nat → Nat → Nat
  | 0, _ => 0
  | m + 1, w => if w = 0 then 0 else if gc = 0 then 0 else 1 + mwF gc m ((w - 1) / gc)
def gwF (gc : Nat) : Nat → Int32 → Nat → Int32
  | 0, v, _ => v
  | m + 1, v, w => if w = 0 then v else if gc = 0 then v else gwF gc m (v * 8 + nI ((w - 1) % gc)) ((w - 1) / gc)
def srch (f : Nat → Bool) : Nat → Nat → Option Nat
  | 0, _ => none
  | n + 1, w => if f w then some w else srch f n (w + 1)
def fans (gc : Nat) (what : Int32) : Option Nat → Int32
  | none => -3
  | some w => if what = 0 then nI (mwF gc 3 w) else gwF gc 3 0 w
def LKw (h : ma_H) (gc : Nat) (F : Bs) (w : Nat) : Bool := lk (TW h gc w) F 91
theorem way_lt : ∀ gc, gc < 7 → ∀ w, w < 260 → w < 1 + gc + gc * gc + gc * gc * gc → w < 1 + gc * min w (1 + gc + gc * gc) := by decide +kernel
theorem way_ch : ∀ gc, gc < 7 → 1 + gc * (1 + gc * 1) = 1 + gc + gc * gc ∧ 1 + gc + gc * gc ≤ 43 ∧ 1 + gc + gc * gc + gc * gc * gc ≤ 259 := by decide
theorem lk_bt {S F : Bs} : lk S F 91 = true ↔ bt S 0 64 = bt F 0 64 ∧ bt S 64 27 = bt F 64 27 := by
  rw [bt_eq (by decide), bt_eq (by decide)]
  constructor
  · intro e
    have w := lk_of 91 e
    exact ⟨fun j hj => w _ (by omega), fun j hj => w _ (by omega)⟩
  · intro ⟨a, b⟩
    refine lk_true 91 fun c hc => ?_
    by_cases z : c < 64
    · have := a c z
      rw [Nat.zero_add] at this
      exact this
    · have := b (c - 64) (by omega)
      rw [show 64 + (c - 64) = c by omega] at this
      exact this
theorem s158 {h : ma_H} {Q : ma_Q} {gc w : Nat} (H : Sh h) (eg : fi h 34 2 = nI gc) (g6 : gc ≤ 6) (hw : w < 259) (k : Q (some (.int (nI (mwF gc 3 w)))) h) : ma_X 158 [.ref 0, .int (nI w)] h Q := by
  have lp : ∀ m t v, t + m = 3 → v < 259 → Q (some (.int (nI (t + mwF gc m v)))) h → At 158 Q 4 (0, 0) [some (.ref 0), some (.int (nI w)), some (.int (nI t)), some (.int (nI v))] [] h := by
    intro m
    induction m with
    | zero =>
      intro t v et hv kq
      obtain rfl : t = 3 := by omega
      refine go 60 (by decide) ?_
      simp only [KX, KY, KZ, KW, KV, Nat.reduceAdd, Nat.reduceSub, Nat.reduceLeDiff, true_and, and_true, true_or, or_true, or_self, reduceCtorEq, if_true, if_false, not_false_eq_true, eq_self, c158, H.e0, H.e34, eg]
      rw [show 3 + mwF gc 0 v = 3 from rfl] at kq
      split
      · exact kq
      · split
        · exact kq
        · rw [if_neg (show ¬ nI 3 < (3 : Int32) from nI_nlt (Nat.le_refl _) (by decide))]
          exact kq
    | succ m ih =>
      intro t v et hv kq
      refine go 60 (by decide) ?_
      simp only [KX, KY, KZ, KW, KV, Nat.reduceAdd, Nat.reduceSub, Nat.reduceLeDiff, true_and, and_true, true_or, or_true, or_self, reduceCtorEq, if_true, if_false, not_false_eq_true, eq_self, c158, H.e0, H.e34, eg]
      by_cases c : v = 0
      · rw [if_pos (show nI v ≤ 0 by rw [c]; decide)]
        rw [show mwF gc (m + 1) v = 0 from if_pos c] at kq
        exact kq
      · rw [if_neg (show ¬ nI v ≤ 0 from nI_ge (a := 0) (by omega) (by omega))]
        by_cases d : gc = 0
        · rw [if_pos (show nI gc ≤ 0 by rw [d]; decide)]
          rw [show mwF gc (m + 1) v = 0 from (if_neg c).trans (if_pos d)] at kq
          exact kq
        · have dz : ¬ nI gc = 0 := fun z => d ((nI_eq (a := gc) (b := 0) (by omega) (by decide)).mp z)
          rw [if_neg (show ¬ nI gc ≤ 0 from nI_ge (a := 0) (by omega) (by omega)), if_pos (show nI t < (3 : Int32) from nI_lt (b := 3) (by omega) (by decide)), nI_1 t]
          obtain ⟨u, rfl⟩ : ∃ u, v = u + 1 := ⟨v - 1, by omega⟩
          rw [nI_pred, nI_div (by omega) (by omega)]
          refine ⟨dz, ?_⟩
          refine ih (t + 1) (u / gc) (by omega) (Nat.lt_of_le_of_lt (Nat.div_le_self _ _) (by omega)) ?_
          rw [show mwF gc (m + 1) (u + 1) = 1 + mwF gc m ((u + 1 - 1) / gc) from (if_neg c).trans (if_neg d), Nat.add_sub_cancel, ← Nat.add_assoc] at kq
          exact kq
  refine ma_enter (m := 158) (Or.inl (by decide)) (by show 2 ≤ mt_n 158; decide +kernel) ?_
  show At 158 Q 0 (mt_c 158) [some (.ref 0), some (.int (nI w)), none, none] [] h
  refine go 60 (by decide) ?_
  simp only [KX, KY, KZ, KW, KV, Nat.reduceAdd, Nat.reduceSub, Nat.reduceLeDiff, true_and, and_true, true_or, or_true, or_self, reduceCtorEq, if_true, if_false, not_false_eq_true, eq_self, c158]
  exact lp 3 0 w rfl hw (by rw [Nat.zero_add]; exact k)
theorem s159 {h : ma_H} {Q : ma_Q} {gc w : Nat} (H : Sh h) (eg : fi h 34 2 = nI gc) (g6 : gc ≤ 6) (hw : w < 259) (k : Q (some (.int (gwF gc 3 0 w))) h) : ma_X 159 [.ref 0, .int (nI w)] h Q := by
  have lp : ∀ m t v x, t + m = 3 → v < 259 → Q (some (.int (gwF gc m x v))) h → At 159 Q 6 (0, 0) [some (.ref 0), some (.int (nI w)), some (.int x), some (.int (nI v)), some (.int (nI t))] [] h := by
    intro m
    induction m with
    | zero =>
      intro t v x et hv kq
      obtain rfl : t = 3 := by omega
      refine go 60 (by decide) ?_
      simp only [KX, KY, KZ, KW, KV, Nat.reduceAdd, Nat.reduceSub, Nat.reduceLeDiff, true_and, and_true, true_or, or_true, or_self, reduceCtorEq, if_true, if_false, not_false_eq_true, eq_self, c159, H.e0, H.e34, eg]
      split
      · exact kq
      · split
        · exact kq
        · rw [if_neg (show ¬ nI 3 < (3 : Int32) from nI_nlt (Nat.le_refl _) (by decide))]
          exact kq
    | succ m ih =>
      intro t v x et hv kq
      refine go 60 (by decide) ?_
      simp only [KX, KY, KZ, KW, KV, Nat.reduceAdd, Nat.reduceSub, Nat.reduceLeDiff, true_and, and_true, true_or, or_true, or_self, reduceCtorEq, if_true, if_false, not_false_eq_true, eq_self, c159, H.e0, H.e34, eg]
      by_cases c : v = 0
      · rw [if_pos (show nI v ≤ 0 by rw [c]; decide)]
        rw [show gwF gc (m + 1) x v = x from if_pos c] at kq
        exact kq
      · rw [if_neg (show ¬ nI v ≤ 0 from nI_ge (a := 0) (by omega) (by omega))]
        by_cases d : gc = 0
        · rw [if_pos (show nI gc ≤ 0 by rw [d]; decide)]
          rw [show gwF gc (m + 1) x v = x from (if_neg c).trans (if_pos d)] at kq
          exact kq
        · have dz : ¬ nI gc = 0 := fun z => d ((nI_eq (a := gc) (b := 0) (by omega) (by decide)).mp z)
          rw [if_neg (show ¬ nI gc ≤ 0 from nI_ge (a := 0) (by omega) (by omega)), if_pos (show nI t < (3 : Int32) from nI_lt (b := 3) (by omega) (by decide)), nI_1 t]
          obtain ⟨u, rfl⟩ : ∃ u, v = u + 1 := ⟨v - 1, by omega⟩
          rw [nI_pred, nI_rem (by omega) (by omega), nI_div (by omega) (by omega)]
          refine ⟨dz, dz, ?_⟩
          refine ih (t + 1) (u / gc) _ (by omega) (Nat.lt_of_le_of_lt (Nat.div_le_self _ _) (by omega)) ?_
          rw [show gwF gc (m + 1) x (u + 1) = gwF gc m (x * 8 + nI ((u + 1 - 1) % gc)) ((u + 1 - 1) / gc) from (if_neg c).trans (if_neg d), Nat.add_sub_cancel] at kq
          exact kq
  refine ma_enter (m := 159) (Or.inl (by decide)) (by show 2 ≤ mt_n 159; decide +kernel) ?_
  show At 159 Q 0 (mt_c 159) [some (.ref 0), some (.int (nI w)), none, none, none] [] h
  refine go 60 (by decide) ?_
  simp only [KX, KY, KZ, KW, KV, Nat.reduceAdd, Nat.reduceSub, Nat.reduceLeDiff, true_and, and_true, true_or, or_true, or_self, reduceCtorEq, if_true, if_false, not_false_eq_true, eq_self, c159]
  exact lp 3 0 w 0 rfl hw k
theorem s128 {h : ma_H} {Q : ma_Q} {x y : Int32} {f gc : Nat} (H : Sh h) (R : Rr h) (l : f < 4) (q : x = nI f) (y0 : ¬ y < 0) (y1 : y ≤ 1) (ok : fl_ok (ai h 32)) (g6 : gc ≤ 6) (eg : fi h 34 2 = nI gc) (G : ∀ i, i < gc → ∃ r kk a, ar h 48 i = some r ∧ 115 ≤ r ∧ r < h.1 ∧ kk < 6 ∧ a < 64 ∧ h.2.1 r = g_obj kk i a ∧ ai h 90 (2 * i) = nI kk ∧ ai h 90 (2 * i + 1) = nI a) (k : ∀ h3 m, CW h gc h3 m → Q (some (.int (fans gc y (srch (LKw h gc (hS (ai h (37 + 3 * f)))) (1 + gc + gc * gc + gc * gc * gc) 0)))) h3) : ma_X 128 [.ref 0, .int x, .int y] h Q := by
  obtain ⟨wc1, wc2, wc3⟩ := way_ch gc (by omega)
  have lp : ∀ n w h3, w + n = (1 + gc + gc * gc + gc * gc * gc) → CW h gc h3 (1 + gc * min w (1 + gc + gc * gc)) → (∀ h4 m, CW h gc h4 m → Q (some (.int (fans gc y (srch (LKw h gc (hS (ai h (37 + 3 * f)))) n w)))) h4) → At 128 Q 45 (0, 0) [some (.ref 0), some (.int x), some (.int y), some (.ref (36 + 3 * f)), some (.int (nI gc)), some (.int (nI (1 + gc + gc * gc))), some (.int (nI (1 + gc + gc * gc + gc * gc * gc))), some (.long (bt (hS (ai h (37 + 3 * f))) 0 64)), none, some (.long (bt (hS (ai h (37 + 3 * f))) 64 27)), none, some (.int (nI w))] [] h3 := by
    intro n
    induction n with
    | zero =>
      intro w h3 ew C kq
      obtain rfl : w = (1 + gc + gc * gc + gc * gc * gc) := by omega
      refine go 60 (by decide) ?_
      simp only [KX, KY, KZ, KW, KV, Nat.reduceAdd, Nat.reduceSub, Nat.reduceLeDiff, true_and, and_true, true_or, or_true, or_self, reduceCtorEq, if_true, if_false, not_false_eq_true, eq_self, c128]
      rw [if_neg (nI_nlt (Nat.le_refl _) (by omega))]
      exact kq h3 _ C
    | succ n ih =>
      intro w h3 ew C kq
      obtain ⟨C1, c2, c3, c4, c5⟩ := C
      have wl := way_lt gc (by omega) w (by omega) (by omega)
      obtain ⟨b1, b2⟩ := c5 w wl
      refine go 60 (by decide) ?_
      simp only [KX, KY, KZ, KW, KV, Nat.reduceAdd, Nat.reduceSub, Nat.reduceLeDiff, true_and, and_true, true_or, or_true, or_self, reduceCtorEq, if_true, if_false, not_false_eq_true, eq_self, c128, C1.e0, C1.e29, C1.e30]
      rw [if_pos (nI_lt (show w < (1 + gc + gc * gc + gc * gc * gc) by omega) (by omega)), if_pos (show nI w < (259 : Int32) from nI_lt (b := 259) (by omega) (by decide)), nI_clamp (show w < 2 ^ 31 by omega), b1, b2]
      refine ⟨nI_in (show w < 259 by omega) (by decide), ?_⟩
      by_cases z1 : bt (TW h gc w) 0 64 = bt (hS (ai h (37 + 3 * f))) 0 64
      · rw [if_pos ((lg_cmp_eq _ _).mpr z1)]
        refine ⟨nI_in (show w < 259 by omega) (by decide), ?_⟩
        by_cases z2 : bt (TW h gc w) 64 27 = bt (hS (ai h (37 + 3 * f))) 64 27
        · have fw1 : LKw h gc (hS (ai h (37 + 3 * f))) w = true := lk_bt.mpr ⟨z1, z2⟩
          rw [show srch (LKw h gc (hS (ai h (37 + 3 * f)))) (n + 1) w = some w from if_pos fw1] at kq
          rw [if_pos ((lg_cmp_eq _ _).mpr z2)]
          have eg3 : fi h3 34 2 = nI gc := by
            show fiC (h3.2.1 34) 2 = _
            rw [c3 34 (by decide) (by decide) (by decide) (by decide)]
            exact eg
          have kr := kq h3 _ ⟨C1, c2, c3, c4, c5⟩
          by_cases y0 : y = 0
          · rw [show fans gc y (some w) = nI (mwF gc 3 w) from if_pos y0] at kr
            rw [if_pos y0]
            refine s158 C1 eg3 g6 (by omega) ?_
            refine go 60 (by decide) ?_
            simp only [KX, KY, KZ, KW, KV, Nat.reduceAdd, Nat.reduceSub, Nat.reduceLeDiff, true_and, and_true, true_or, or_true, or_self, reduceCtorEq, if_true, if_false, not_false_eq_true, eq_self, c128]
            exact kr
          · rw [show fans gc y (some w) = gwF gc 3 0 w from if_neg y0] at kr
            rw [if_neg y0]
            refine s159 C1 eg3 g6 (by omega) ?_
            refine go 60 (by decide) ?_
            simp only [KX, KY, KZ, KW, KV, Nat.reduceAdd, Nat.reduceSub, Nat.reduceLeDiff, true_and, and_true, true_or, or_true, or_self, reduceCtorEq, if_true, if_false, not_false_eq_true, eq_self, c128]
            exact kr
        · rw [show srch (LKw h gc (hS (ai h (37 + 3 * f)))) (n + 1) w = srch (LKw h gc (hS (ai h (37 + 3 * f)))) n (w + 1) from if_neg (fun e => z2 (lk_bt.mp e).2)] at kq
          rw [if_neg (fun e => z2 ((lg_cmp_eq _ _).mp e))]
          by_cases u : w < (1 + gc + gc * gc)
          · rw [if_pos (nI_lt u (by omega))]
            refine s157 (h := h) (gc := gc) (w := w) ⟨C1, c2, c3, c4, by rw [show min w (1 + gc + gc * gc) = w by omega] at c5; exact c5⟩ (by rw [show min w (1 + gc + gc * gc) = w by omega] at wl; exact wl) (by rw [Pn2, wc1]; exact u) (by omega) g6 eg G (fun h4 c6 => ?_)
            first
              | (with_reducible show At 128 _ 45 _ _ _ _)
              | (refine go 60 (by decide) ?_; simp only [KX, KY, KZ, KW, KV, Nat.reduceAdd, Nat.reduceSub, Nat.reduceLeDiff, true_and, and_true, true_or, or_true, or_self, reduceCtorEq, if_true, if_false, not_false_eq_true, eq_self, c128])
            first
              | (with_reducible show At 128 _ 45 _ _ _ _)
              | (refine go 60 (by decide) ?_; simp only [KX, KY, KZ, KW, KV, Nat.reduceAdd, Nat.reduceSub, Nat.reduceLeDiff, true_and, and_true, true_or, or_true, or_self, reduceCtorEq, if_true, if_false, not_false_eq_true, eq_self, c128])
            first
              | (with_reducible show At 128 _ 45 _ _ _ _)
              | (refine go 60 (by decide) ?_; simp only [KX, KY, KZ, KW, KV, Nat.reduceAdd, Nat.reduceSub, Nat.reduceLeDiff, true_and, and_true, true_or, or_true, or_self, reduceCtorEq, if_true, if_false, not_false_eq_true, eq_self, c128])
            rw [nI_1 w]
            exact ih (w + 1) h4 (by omega) (by rw [show min (w + 1) (1 + gc + gc * gc) = w + 1 by omega]; exact c6) kq
          · rw [if_neg (nI_nlt (by omega) (by omega)), nI_1 w]
            exact ih (w + 1) h3 (by omega) (by rw [show min (w + 1) (1 + gc + gc * gc) = min w (1 + gc + gc * gc) by omega]; exact ⟨C1, c2, c3, c4, c5⟩) kq
      · rw [show srch (LKw h gc (hS (ai h (37 + 3 * f)))) (n + 1) w = srch (LKw h gc (hS (ai h (37 + 3 * f)))) n (w + 1) from if_neg (fun e => z1 (lk_bt.mp e).1)] at kq
        rw [if_neg (fun e => z1 ((lg_cmp_eq _ _).mp e))]
        by_cases u : w < (1 + gc + gc * gc)
        · rw [if_pos (nI_lt u (by omega))]
          refine s157 (h := h) (gc := gc) (w := w) ⟨C1, c2, c3, c4, by rw [show min w (1 + gc + gc * gc) = w by omega] at c5; exact c5⟩ (by rw [show min w (1 + gc + gc * gc) = w by omega] at wl; exact wl) (by rw [Pn2, wc1]; exact u) (by omega) g6 eg G (fun h4 c6 => ?_)
          first
            | (with_reducible show At 128 _ 45 _ _ _ _)
            | (refine go 60 (by decide) ?_; simp only [KX, KY, KZ, KW, KV, Nat.reduceAdd, Nat.reduceSub, Nat.reduceLeDiff, true_and, and_true, true_or, or_true, or_self, reduceCtorEq, if_true, if_false, not_false_eq_true, eq_self, c128])
          first
            | (with_reducible show At 128 _ 45 _ _ _ _)
            | (refine go 60 (by decide) ?_; simp only [KX, KY, KZ, KW, KV, Nat.reduceAdd, Nat.reduceSub, Nat.reduceLeDiff, true_and, and_true, true_or, or_true, or_self, reduceCtorEq, if_true, if_false, not_false_eq_true, eq_self, c128])
          first
            | (with_reducible show At 128 _ 45 _ _ _ _)
            | (refine go 60 (by decide) ?_; simp only [KX, KY, KZ, KW, KV, Nat.reduceAdd, Nat.reduceSub, Nat.reduceLeDiff, true_and, and_true, true_or, or_true, or_self, reduceCtorEq, if_true, if_false, not_false_eq_true, eq_self, c128])
          rw [nI_1 w]
          exact ih (w + 1) h4 (by omega) (by rw [show min (w + 1) (1 + gc + gc * gc) = w + 1 by omega]; exact c6) kq
        · rw [if_neg (nI_nlt (by omega) (by omega)), nI_1 w]
          exact ih (w + 1) h3 (by omega) (by rw [show min (w + 1) (1 + gc + gc * gc) = min w (1 + gc + gc * gc) by omega]; exact ⟨C1, c2, c3, c4, c5⟩) kq
  refine ma_enter (m := 128) (Or.inl (by decide)) (by show 3 ≤ mt_n 128; decide +kernel) ?_
  show At 128 Q 0 (mt_c 128) [some (.ref 0), some (.int x), some (.int y), none, none, none, none, none, none, none, none, none] [] h
  refine go 60 (by decide) ?_
  simp only [KX, KY, KZ, KW, KV, Nat.reduceAdd, Nat.reduceSub, Nat.reduceLeDiff, true_and, and_true, true_or, or_true, or_self, reduceCtorEq, if_true, if_false, not_false_eq_true, eq_self, c128, H.e0]
  refine s145e H R l q ?_
  refine go 60 (by decide) ?_
  simp only [KX, KY, KZ, KW, KV, Nat.reduceAdd, Nat.reduceSub, Nat.reduceLeDiff, true_and, and_true, true_or, or_true, or_self, reduceCtorEq, if_true, if_false, not_false_eq_true, eq_self, c128, H.e0, H.e34, (H.fn l).1, eg]
  rw [if_neg y0, if_pos y1]
  refine s36_0 (H.fn l).1 (H.fn l).2.1 ?_
  refine go 60 (by decide) ?_
  simp only [KX, KY, KZ, KW, KV, Nat.reduceAdd, Nat.reduceSub, Nat.reduceLeDiff, true_and, and_true, true_or, or_true, or_self, reduceCtorEq, if_true, if_false, not_false_eq_true, eq_self, c128, (H.fn l).1]
  refine s36_1 (H.fn l).1 (H.fn l).2.1 ?_
  refine go 60 (by decide) ?_
  simp only [KX, KY, KZ, KW, KV, Nat.reduceAdd, Nat.reduceSub, Nat.reduceLeDiff, true_and, and_true, true_or, or_true, or_self, reduceCtorEq, if_true, if_false, not_false_eq_true, eq_self, c128, H.e0]
  refine s156 H ok gc (fun h3 C => ?_)
  refine go 60 (by decide) ?_
  simp only [KX, KY, KZ, KW, KV, Nat.reduceAdd, Nat.reduceSub, Nat.reduceLeDiff, true_and, and_true, true_or, or_true, or_self, reduceCtorEq, if_true, if_false, not_false_eq_true, eq_self, c128]
  have e2 : nI gc * nI gc = nI (gc * gc) := nI_mul gc gc
  have e3 : nI (gc * gc) * nI gc = nI (gc * gc * gc) := nI_mul (gc * gc) gc
  rw [e2, e3, show (1 : Int32) + nI gc = nI (1 + gc) from nI_add 1 gc, nI_add, nI_add]
  exact lp _ 0 h3 (by omega) (by rw [Nat.zero_min, Nat.mul_zero]; exact C) k
theorem s128n {h : ma_H} {Q : ma_Q} {x y : Int32} (H : Sh h) (R : Rr h) (o : (x < 0 ∨ ¬ x < 4) ∨ ((∃ f, f < 4 ∧ x = nI f) ∧ (y < 0 ∨ ¬ y ≤ 1))) (k : Q (some (.int (-1))) h) : ma_X 128 [.ref 0, .int x, .int y] h Q := by
  refine ma_enter (m := 128) (Or.inl (by decide)) (by show 3 ≤ mt_n 128; decide +kernel) ?_
  show At 128 Q 0 (mt_c 128) [some (.ref 0), some (.int x), some (.int y), none, none, none, none, none, none, none, none, none] [] h
  refine go 60 (by decide) ?_
  simp only [KX, KY, KZ, KW, KV, Nat.reduceAdd, Nat.reduceSub, Nat.reduceLeDiff, true_and, and_true, true_or, or_true, or_self, reduceCtorEq, if_true, if_false, not_false_eq_true, eq_self, c128, H.e0]
  rcases o with o | ⟨⟨f, l, q⟩, o⟩
  · refine s145n H o ?_
    refine go 60 (by decide) ?_
    simp only [KX, KY, KZ, KW, KV, Nat.reduceAdd, Nat.reduceSub, Nat.reduceLeDiff, true_and, and_true, true_or, or_true, or_self, reduceCtorEq, if_true, if_false, not_false_eq_true, eq_self, c128, H.e0]
    exact k
  · refine s145e H R l q ?_
    refine go 60 (by decide) ?_
    simp only [KX, KY, KZ, KW, KV, Nat.reduceAdd, Nat.reduceSub, Nat.reduceLeDiff, true_and, and_true, true_or, or_true, or_self, reduceCtorEq, if_true, if_false, not_false_eq_true, eq_self, c128, H.e0]
    by_cases z : y < 0
    · rw [if_pos z]
      exact k
    · rw [if_neg z, if_neg (o.resolve_left z)]
      exact k
