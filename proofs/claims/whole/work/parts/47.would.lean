/-! wouldBe answers alike -/
theorem nz0 : vp_nar .boolean 0 = 0 := rfl
theorem nz1 : vp_nar .boolean 1 = 1 := rfl
theorem lf_su {K l : Nat → Int32} (w : ∀ i, K i = 0 ∨ K i = 1) : ∀ n, nI (lf K l n).1 = su K n
  | 0 => rfl
  | n + 1 => by
    have ih := lf_su (l := l) w n
    show nI (if K n = 0 then lf K l n else ((lf K l n).1 + 1, upd (lf K l n).2 (lf K l n).1 (nI (ma_cell n)))).1 = su K n + K n
    rcases w n with z | z
    · rw [if_pos z, ih, z, Int32.add_zero]
    · rw [if_neg (by rw [z]; decide), z, ← ih, nI_1]
theorem s215 {h : ma_H} {Q : ma_Q} {A gi kk a : Nat} {x : Int32} {g : Nat → Int32} (H : Sh h) (R : Rt h) (hA : A + 91 ≤ 910) (ok : fl_ok g) (eg : ∀ i, i < 91 → g (ma_cell i) = ai h 88 (A + i)) (ha : a < 64) (q : x = nI gi) (hg6 : gi < 6) (hk : kk < 6) (ek : ai h 90 (2 * gi) = nI kk) (ea : ai h 90 (2 * gi + 1) = nI a) (k : Q (some (.int (su (fz g kk (nI a)) 91))) (ma_set h 101 (.inl (.boolean, 91, .inl (upN (ai h 101) (fun c => c) (fz g kk (nI a)) 91))))) : ma_X 215 [.ref 80, .int (nI A), .int x] h Q := by
  have hs : ∀ g, Sh (ma_set h 101 (.inl (.boolean, 91, .inl g))) := fun g => sh_set H rfl
  have hR : ∀ g, Rt (ma_set h 101 (.inl (.boolean, 91, .inl g))) := fun g => R
  have lp : ∀ ni i, i + ni = 91 → At 215 Q 4 (0, 0) [some (.ref 80), some (.int (nI A)), some (.int x), some (.int (su (fz g kk (nI a)) i)), some (.int (nI i))] [] (ma_set h 101 (.inl (.boolean, 91, .inl (upN (ai h 101) (fun c => c) (fz g kk (nI a)) i)))) := by
    intro ni
    induction ni with
    | zero =>
      intro i e
      obtain rfl : i = 91 := by omega
      refine go 60 (by decide) ?_
      simp only [KX, KY, KZ, KW, KV, Nat.reduceAdd, Nat.reduceSub, Nat.reduceLeDiff, true_and, and_true, true_or, or_true, or_self, reduceCtorEq, if_true, if_false, not_false_eq_true, eq_self, c215, (hs _).e80, (hs _).e101]
      rw [if_neg (show ¬ nI 91 < (91 : Int32) from nI_nlt (Nat.le_refl _) (by decide))]
      exact k
    | succ ni ih =>
      intro i e
      have hi : i < 91 := by omega
      have e1i := nI_1 i
      refine go 60 (by decide) ?_
      simp only [KX, KY, KZ, KW, KV, Nat.reduceAdd, Nat.reduceSub, Nat.reduceLeDiff, true_and, and_true, true_or, or_true, or_self, reduceCtorEq, if_true, if_false, not_false_eq_true, eq_self, c215, (hs _).e80, (hs _).e101]
      rw [if_pos (show nI i < (91 : Int32) from nI_lt hi (by decide))]
      refine s214 (hs _) (hR _) hA hi ok eg ha q hg6 hk ek ea ?_
      have d1 : su (fz g kk (nI a)) (i + 1) = su (fz g kk (nI a)) i + fz g kk (nI a) i := rfl
      have d2 : upN (ai h 101) (fun c => c) (fz g kk (nI a)) (i + 1) = upd (upN (ai h 101) (fun c => c) (fz g kk (nI a)) i) i (fz g kk (nI a) i) := rfl
      have ih2 := ih (i + 1) (by omega)
      rcases fz01 g kk (nI a) i with z | z
      · rw [z] at d1 d2 ⊢
        refine go 60 (by decide) ?_
        simp only [KX, KY, KZ, KW, KV, Nat.reduceAdd, Nat.reduceSub, Nat.reduceLeDiff, true_and, and_true, true_or, or_true, or_self, reduceCtorEq, if_true, if_false, not_false_eq_true, eq_self, c215, H.e80, ma_set_at, nz0, ma_get, Nat.reduceEqDiff, ↓reduceIte, Int32.reduceLT, Int32.reduceLE]
        rw [nI_clamp (show i < 2 ^ 31 by omega)]
        rw [show upd (upN (ai h 101) (fun c => c) (fz g kk (nI a)) i) i 0 i = 0 from if_pos rfl]
        refine ⟨nI_in hi (by decide), nI_in hi (by decide), ?_⟩
        first
          | rw [if_pos rfl]
          | rw [if_neg (show ¬ (1 : Int32) = 0 by decide)]
        refine go 60 (by decide) ?_
        simp only [KX, KY, KZ, KW, KV, Nat.reduceAdd, Nat.reduceSub, Nat.reduceLeDiff, true_and, and_true, true_or, or_true, or_self, reduceCtorEq, if_true, if_false, not_false_eq_true, eq_self, c215]
        rw [ma_set_set, e1i, ← d1]
        rw [d2] at ih2
        exact ih2
      · rw [z] at d1 d2 ⊢
        refine go 60 (by decide) ?_
        simp only [KX, KY, KZ, KW, KV, Nat.reduceAdd, Nat.reduceSub, Nat.reduceLeDiff, true_and, and_true, true_or, or_true, or_self, reduceCtorEq, if_true, if_false, not_false_eq_true, eq_self, c215, H.e80, ma_set_at, nz1, ma_get, Nat.reduceEqDiff, ↓reduceIte, Int32.reduceLT, Int32.reduceLE]
        rw [nI_clamp (show i < 2 ^ 31 by omega)]
        rw [show upd (upN (ai h 101) (fun c => c) (fz g kk (nI a)) i) i 1 i = 1 from if_pos rfl]
        refine ⟨nI_in hi (by decide), nI_in hi (by decide), ?_⟩
        first
          | rw [if_pos rfl]
          | rw [if_neg (show ¬ (1 : Int32) = 0 by decide)]
        refine go 60 (by decide) ?_
        simp only [KX, KY, KZ, KW, KV, Nat.reduceAdd, Nat.reduceSub, Nat.reduceLeDiff, true_and, and_true, true_or, or_true, or_self, reduceCtorEq, if_true, if_false, not_false_eq_true, eq_self, c215]
        rw [ma_set_set, e1i, ← d1]
        rw [d2] at ih2
        exact ih2
  refine ma_enter (m := 215) (Or.inl (by decide)) (by show 3 ≤ mt_n 215; decide +kernel) ?_
  show At 215 Q 0 (mt_c 215) [some (.ref 80), some (.int (nI A)), some (.int x), none, none] [] h
  refine go 60 (by decide) ?_
  simp only [KX, KY, KZ, KW, KV, Nat.reduceAdd, Nat.reduceSub, Nat.reduceLeDiff, true_and, and_true, true_or, or_true, or_self, reduceCtorEq, if_true, if_false, not_false_eq_true, eq_self, c215]
  have l9 := lp 91 0 rfl
  rw [show (ma_set h 101 (.inl (.boolean, 91, .inl (upN (ai h 101) (fun c => c) (fz g kk (nI a)) 0)))) = h from ma_set_id H.e101] at l9
  exact l9
