/-! law: the class parts a TEXT, all of it -/
/-- the tokens that stand -/
def TK (h hh : ma_H) (b : Nat → Nat) (n k : Nat) : Prop := Sh hh ∧ hh.1 = h.1 ∧ (∀ a, a ≠ 4 → a ≠ 5 → a ≠ 6 → hh.2.1 a = h.2.1 a) ∧ ∀ j, j < k → Ps b n j < n ∧ ai hh 5 j = nI (Ps b n j) ∧ ai hh 4 j = nI (cs (qt b n (Ps b n j))) ∧ ai hh 6 j = cv (qt b n (Ps b n j))
/-- all tokens -/
def TE (h hh : ma_H) (b : Nat → Nat) (n K : Nat) : Prop := Sh hh ∧ hh.1 = h.1 ∧ (∀ a, a ≠ 4 → a ≠ 5 → a ≠ 6 → hh.2.1 a = h.2.1 a) ∧ K ≤ 200 ∧ Ps b n K = n ∧ (∀ j, j < K → Ps b n j < n ∧ ai hh 5 j = nI (Ps b n j) ∧ ai hh 4 j = nI (cs (qt b n (Ps b n j))) ∧ ai hh 6 j = cv (qt b n (Ps b n j))) ∧ ai hh 5 K = nI n ∧ ai hh 4 K = 256
theorem te_gt {b : Nat → Nat} {n i : Nat} (h : i < n) : i < te b n i ∧ te b n i ≤ n := by
  unfold te
  rw [if_pos h]
  have a := run_le isL b n 201 i
  have c := run_le isD b n 201 i
  have a : nL b n i ≤ n - i := a
  have c : nD b n i ≤ n - i := c
  rcases LD (b := b) h with z | z
  · rw [z]
    split <;> omega
  · rw [z]
    split <;> omega
theorem s64 {h : ma_H} {Q : ma_Q} {b : Nat → Nat} {n : Nat} (X : TX h b n) (k0 : ∀ K hh, TE h hh b n K → Q none hh) : ma_X 64 [.ref 2] h Q := by
  have lp : ∀ m k i hh, i + m = n ∨ n < i + m → i ≤ n → k ≤ i → spx b n i = Ps b n k → TK h hh b n k → TX hh b n → At 64 Q 4 (0, 0) [some (.ref 2), some (.int (nI k)), some (.int (nI i)), none, none] [] hh := by
    intro m
    induction m with
    | zero =>
      intro k i hh em hin ki es T X
      obtain rfl : i = n := by omega
      obtain ⟨t1, t2, t3, t4⟩ := T
      obtain ⟨H, en, n2, ex, eb⟩ := X
      have hs5 : ∀ g, Sh (ma_set hh 5 (.inl (.int, 201, .inl g))) := fun g => sh_set H rfl
      refine go 60 (by decide) ?_
      simp only [KX, KY, KZ, KW, KV, Nat.reduceAdd, Nat.reduceSub, Nat.reduceLeDiff, true_and, and_true, true_or, or_true, or_self, reduceCtorEq, if_true, if_false, not_false_eq_true, eq_self, c64, H.e2, H.e3, H.e4, H.e5, en, (hs5 _).e2, (hs5 _).e4]
      rw [if_neg (nI_nlt (Nat.le_refl _) (by omega))]
      rw [nI_clamp (show k < 2 ^ 31 by omega)]
      refine ⟨nI_in (show k < 201 by omega) (by decide), nI_in (show k < 201 by omega) (by decide), ?_⟩
      rw [ai_ne _ _ (show 4 ≠ 5 by decide)]
      refine k0 k _ ⟨sh_set (hs5 _) rfl, t2, fun a a1 a2 a3 => (ma_set_ne _ _ a1).trans ((ma_set_ne _ _ a2).trans (t3 a a1 a2 a3)), by omega, ?_, fun j hj => ?_, ?_, ?_⟩
      · rw [← es]
        exact spx_out (Nat.le_refl _)
      · obtain ⟨u1, u2, u3, u4⟩ := t4 j hj
        rw [ai_ne _ _ (show 5 ≠ 4 by decide), ai_at, ai_at, ai_ne _ _ (show 6 ≠ 4 by decide), ai_ne _ _ (show 6 ≠ 5 by decide)]
        rw [show ∀ (g : Nat → Int32) (x : Int32), upd g k x j = g j from fun g x => if_neg (by omega), show ∀ (g : Nat → Int32) (x : Int32), upd g k x j = g j from fun g x => if_neg (by omega)]
        exact ⟨u1, u2, u3, u4⟩
      · rw [ai_ne _ _ (show 5 ≠ 4 by decide), ai_at]
        exact if_pos rfl
      · rw [ai_at]
        exact if_pos rfl
    | succ m ih =>
      intro k i hh em hin ki es T X
      obtain ⟨t1, t2, t3, t4⟩ := T
      have H := X.1
      have en := X.2.1
      have n2 := X.2.2.1
      have ex := X.2.2.2.1
      have eb := X.2.2.2.2
      by_cases hi : i < n
      · have hs5 : ∀ g, Sh (ma_set hh 5 (.inl (.int, 201, .inl g))) := fun g => sh_set H rfl
        refine go 60 (by decide) ?_
        simp only [KX, KY, KZ, KW, KV, Nat.reduceAdd, Nat.reduceSub, Nat.reduceLeDiff, true_and, and_true, true_or, or_true, or_self, reduceCtorEq, if_true, if_false, not_false_eq_true, eq_self, c64, H.e2, H.e3, H.e4, H.e5, en, (hs5 _).e2, (hs5 _).e4]
        rw [if_pos (nI_lt hi (by omega)), if_pos (show nI k < (200 : Int32) from nI_lt (b := 200) (by omega) (by decide)), nI_clamp (show i < 2 ^ 31 by omega), ex i hi]
        refine ⟨nI_in (show i < 200 by omega) (by decide), ?_⟩
        by_cases c : b i = 32
        · rw [if_pos ((sb_t _ (eb i)).1.mpr c), nI_1 i]
          exact ih k (i + 1) hh (by omega) (by omega) (by omega) (by rw [← es, spx_in hi, if_pos c]) ⟨t1, t2, t3, t4⟩ X
        · rw [if_neg (fun z => c ((sb_t _ (eb i)).1.mp z))]
          refine s65L X hi ?_
          refine go 60 (by decide) ?_
          simp only [KX, KY, KZ, KW, KV, Nat.reduceAdd, Nat.reduceSub, Nat.reduceLeDiff, true_and, and_true, true_or, or_true, or_self, reduceCtorEq, if_true, if_false, not_false_eq_true, eq_self, c64, H.e2, H.e3, H.e4, H.e5, en, (hs5 _).e2, (hs5 _).e4]
          refine s65D X hi ?_
          refine go 60 (by decide) ?_
          simp only [KX, KY, KZ, KW, KV, Nat.reduceAdd, Nat.reduceSub, Nat.reduceLeDiff, true_and, and_true, true_or, or_true, or_self, reduceCtorEq, if_true, if_false, not_false_eq_true, eq_self, c64, H.e2, H.e3, H.e4, H.e5, en, (hs5 _).e2, (hs5 _).e4]
          rw [nI_clamp (show k < 2 ^ 31 by omega)]
          refine ⟨nI_in (show k < 201 by omega) (by decide), ?_⟩
          have X5 : TX (ma_set hh 5 (.inl (.int, 201, .inl (upd (ai hh 5) k (nI i))))) b n := X.cong (hs5 _) (ma_set_ne _ _ (by decide)) (ma_set_ne _ _ (by decide))
          refine s66 X5 hi (by omega) ?_
          refine go 60 (by decide) ?_
          simp only [KX, KY, KZ, KW, KV, Nat.reduceAdd, Nat.reduceSub, Nat.reduceLeDiff, true_and, and_true, true_or, or_true, or_self, reduceCtorEq, if_true, if_false, not_false_eq_true, eq_self, c64]
          obtain ⟨g1, g2⟩ := te_gt (b := b) hi
          have si : spx b n i = i := by rw [spx_in hi, if_neg c]
          have esi : Ps b n k = i := by rw [← es, si]
          have tl : nI i + (if (1 : Int32) < nI (run isL b n 201 i) + nI (run isD b n 201 i) then nI (run isL b n 201 i) + nI (run isD b n 201 i) else 1) = nI (te b n i) := by
            unfold te
            rw [if_pos hi, nI_add]
            show nI i + (if (1 : Int32) < nI (nL b n i + nD b n i) then nI (nL b n i + nD b n i) else 1) = _
            have a1 : nL b n i ≤ n - i := run_le isL b n 201 i
            have a2 : nD b n i ≤ n - i := run_le isD b n 201 i
            by_cases z : nL b n i + nD b n i < 1
            · rw [if_pos z, if_neg (show ¬ (1 : Int32) < nI (nL b n i + nD b n i) from nI_nlt (a := 1) (by omega) (by decide))]
              exact nI_add i 1
            · rw [if_neg z]
              by_cases y : nL b n i + nD b n i = 1
              · rw [y, if_neg (show ¬ (1 : Int32) < nI 1 by decide)]
                exact nI_add i 1
              · rw [if_pos (show (1 : Int32) < nI (nL b n i + nD b n i) from nI_lt (a := 1) (by omega) (by omega))]
                exact nI_add _ _
          rw [tl, nI_1 k]
          refine At_le (ih (k + 1) (te b n i) (ma_set (ma_set (ma_set hh 5 (.inl (.int, 201, .inl (upd (ai hh 5) k (nI i))))) 6 (.inl (.int, 201, .inl (upd (ai (ma_set hh 5 (.inl (.int, 201, .inl (upd (ai hh 5) k (nI i))))) 6) k (cv (qt b n i)))))) 4 (.inl (.int, 201, .inl (upd (ai (ma_set hh 5 (.inl (.int, 201, .inl (upd (ai hh 5) k (nI i))))) 4) k (nI (cs (qt b n i))))))) (by omega) g2 (by omega) (by show spx b n (te b n i) = spx b n (te b n (Ps b n k)); rw [esi]) ⟨sh_set (sh_set (hs5 _) rfl) rfl, t2, fun a a1 a2 a3 => (ma_set_ne _ _ a1).trans ((ma_set_ne _ _ a3).trans ((ma_set_ne _ _ a2).trans (t3 a a1 a2 a3))), fun j hj => ?_⟩ ((X5.cong (sh_set (hs5 _) rfl) (ma_set_ne _ _ (by decide)) (ma_set_ne _ _ (by decide))).cong (sh_set (sh_set (hs5 _) rfl) rfl) (ma_set_ne _ _ (by decide)) (ma_set_ne _ _ (by decide)))) ⟨rfl, rfl, rfl, trivial⟩
          rw [ai_ne _ _ (show 5 ≠ 4 by decide), ai_ne _ _ (show 5 ≠ 6 by decide), ai_at, ai_at, ai_ne _ _ (show 6 ≠ 4 by decide), ai_at, ai_ne _ _ (show 4 ≠ 5 by decide), ai_ne _ _ (show 6 ≠ 5 by decide)]
          by_cases z : j = k
          · subst z
            rw [show ∀ (g : Nat → Int32) (x : Int32), upd g j x j = x from fun g x => if_pos rfl, show ∀ (g : Nat → Int32) (x : Int32), upd g j x j = x from fun g x => if_pos rfl, show ∀ (g : Nat → Int32) (x : Int32), upd g j x j = x from fun g x => if_pos rfl, esi]
            exact ⟨hi, rfl, rfl, rfl⟩
          · obtain ⟨u1, u2, u3, u4⟩ := t4 j (by omega)
            rw [show ∀ (g : Nat → Int32) (x : Int32), upd g k x j = g j from fun g x => if_neg z, show ∀ (g : Nat → Int32) (x : Int32), upd g k x j = g j from fun g x => if_neg z, show ∀ (g : Nat → Int32) (x : Int32), upd g k x j = g j from fun g x => if_neg z]
            exact ⟨u1, u2, u3, u4⟩
      · obtain rfl : i = n := by omega
        have hs5 : ∀ g, Sh (ma_set hh 5 (.inl (.int, 201, .inl g))) := fun g => sh_set H rfl
        refine go 60 (by decide) ?_
        simp only [KX, KY, KZ, KW, KV, Nat.reduceAdd, Nat.reduceSub, Nat.reduceLeDiff, true_and, and_true, true_or, or_true, or_self, reduceCtorEq, if_true, if_false, not_false_eq_true, eq_self, c64, H.e2, H.e3, H.e4, H.e5, en, (hs5 _).e2, (hs5 _).e4]
        rw [if_neg (nI_nlt (Nat.le_refl _) (by omega))]
        rw [nI_clamp (show k < 2 ^ 31 by omega)]
        refine ⟨nI_in (show k < 201 by omega) (by decide), nI_in (show k < 201 by omega) (by decide), ?_⟩
        rw [ai_ne _ _ (show 4 ≠ 5 by decide)]
        refine k0 k _ ⟨sh_set (hs5 _) rfl, t2, fun a a1 a2 a3 => (ma_set_ne _ _ a1).trans ((ma_set_ne _ _ a2).trans (t3 a a1 a2 a3)), by omega, ?_, fun j hj => ?_, ?_, ?_⟩
        · rw [← es]
          exact spx_out (Nat.le_refl _)
        · obtain ⟨u1, u2, u3, u4⟩ := t4 j hj
          rw [ai_ne _ _ (show 5 ≠ 4 by decide), ai_at, ai_at, ai_ne _ _ (show 6 ≠ 4 by decide), ai_ne _ _ (show 6 ≠ 5 by decide)]
          rw [show ∀ (g : Nat → Int32) (x : Int32), upd g k x j = g j from fun g x => if_neg (by omega), show ∀ (g : Nat → Int32) (x : Int32), upd g k x j = g j from fun g x => if_neg (by omega)]
          exact ⟨u1, u2, u3, u4⟩
        · rw [ai_ne _ _ (show 5 ≠ 4 by decide), ai_at]
          exact if_pos rfl
        · rw [ai_at]
          exact if_pos rfl
  refine ma_enter (m := 64) (Or.inl (by decide)) (by show 1 ≤ mt_n 64; decide +kernel) ?_
  show At 64 Q 0 (mt_c 64) [some (.ref 2), none, none, none, none] [] h
  refine go 60 (by decide) ?_
  simp only [KX, KY, KZ, KW, KV, Nat.reduceAdd, Nat.reduceSub, Nat.reduceLeDiff, true_and, and_true, true_or, or_true, or_self, reduceCtorEq, if_true, if_false, not_false_eq_true, eq_self, c64]
  exact At_le (lp (n + 1) 0 0 h (by omega) (Nat.zero_le _) (Nat.le_refl _) rfl ⟨X.1, rfl, fun _ _ _ _ => rfl, fun j hj => absurd hj (Nat.not_lt_zero j)⟩ X) ⟨rfl, rfl, rfl, trivial⟩
