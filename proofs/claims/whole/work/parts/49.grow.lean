/-! THE MODEL: growIt -/
theorem s217 {h : ma_H} {Q : ma_Q} {f gi kk a m : Nat} {x y : Int32} {g : Nat → Int32} (H : Sh h) (R : Rt h) (ok : fl_ok g) (eg : ∀ i, i < 91 → g (ma_cell i) = ai h 88 (91 * f + i)) (ha : a < 64) (hf : f < 4) (q : x = nI f) (q2 : y = nI gi) (hg : gi < 6) (hk : kk < 6) (ek : ai h 90 (2 * gi) = nI kk) (ea : ai h 90 (2 * gi + 1) = nI a) (hm : fi h 80 11 = nI m) (hm4 : m ≤ 4) (k : Q (some (.int (su (gfl (fz g kk (nI a)) (fi h 80 11) (fi h 80 12)) 91))) (ma_set (ma_set (ma_set (ma_set h 101 (.inl (.boolean, 91, .inl (upN (ai h 101) (fun c => c) (fz g kk (nI a)) 91)))) 89 (.inl (.int, 4, .inl (upd (ai h 89) f (ai h 89 f + 1))))) 80 (.inr (12, (mO h).set 12 (.int (gzz (fz g kk (nI a)) (fi h 80 11) (fi h 80 12) 91))))) 88 (.inl (.int, 910, .inl (garr (fz g kk (nI a)) (fi h 80 11) (fi h 80 12) (ai h 89 f + 1) (fun c => 91 * f + c) (ai h 88) 91))))) : ma_X 217 [.ref 80, .int x, .int y] h Q := by
  have e91 := ix91n q
  have tx : x.toNatClampNeg = f := by subst q; exact nI_clamp (by omega)
  have vx : vp_in x 4 := by subst q; exact nI_in hf (by decide)
  have h80 : ∀ Z A, (ma_set (ma_set (ma_set (ma_set h 101 (.inl (.boolean, 91, .inl (upN (ai h 101) (fun c => c) (fz g kk (nI a)) 91)))) 89 (.inl (.int, 4, .inl (upd (ai h 89) f (ai h 89 f + 1))))) 80 (.inr (12, (mO h).set 12 (.int Z)))) 88 A).2.1 80 = .inr (12, [.ref 81, .ref 82, .ref 83, .ref 84, .ref 85, .ref 86, .ref 87, .ref 88, .ref 89, .int (fi h 80 9), .ref 90, .int (fi h 80 11), .int Z, .ref 91, .int (fi h 80 14), .ref 92, .ref 93, .ref 94, .int (fi h 80 18), .int (fi h 80 19), .int (fi h 80 20), .int (fi h 80 21), .long (fj h 80 22), .int (fi h 80 23), .int (fi h 80 24), .ref 95, .ref 96, .ref 97, .int (fi h 80 28), .int (fi h 80 29), .int (fi h 80 30), .ref 98, .ref 99, .ref 100, .ref 101, .long (fj h 80 35), .long (fj h 80 36), .ref 102, .ref 103, .ref 104, .ref 105, .int (fi h 80 41), .int (fi h 80 42), .ref 106, .ref 107, .ref 108, .ref 109, .ref 110, .ref 111, .int (fi h 80 49), .int (fi h 80 50), .int (fi h 80 51), .ref 112, .int (fi h 80 53), .int (fi h 80 54), .int (fi h 80 55), .ref 113, .int (fi h 80 57), .ref 114]) := fun Z A => (ma_set_ne _ _ (by decide)).trans (ma_set_at _ _ _)
  have h88 : ∀ Z A, (ma_set (ma_set (ma_set (ma_set h 101 (.inl (.boolean, 91, .inl (upN (ai h 101) (fun c => c) (fz g kk (nI a)) 91)))) 89 (.inl (.int, 4, .inl (upd (ai h 89) f (ai h 89 f + 1))))) 80 Z) 88 A).2.1 88 = A := fun Z A => ma_set_at _ _ _
  have h89 : ∀ Z A, (ma_set (ma_set (ma_set (ma_set h 101 (.inl (.boolean, 91, .inl (upN (ai h 101) (fun c => c) (fz g kk (nI a)) 91)))) 89 (.inl (.int, 4, .inl (upd (ai h 89) f (ai h 89 f + 1))))) 80 Z) 88 A).2.1 89 = .inl (.int, 4, .inl (upd (ai h 89) f (ai h 89 f + 1))) := fun Z A => (ma_set_ne _ _ (by decide)).trans ((ma_set_ne _ _ (by decide)).trans (ma_set_at _ _ _))
  have h101 : ∀ Z A, (ma_set (ma_set (ma_set (ma_set h 101 (.inl (.boolean, 91, .inl (upN (ai h 101) (fun c => c) (fz g kk (nI a)) 91)))) 89 (.inl (.int, 4, .inl (upd (ai h 89) f (ai h 89 f + 1))))) 80 Z) 88 A).2.1 101 = .inl (.boolean, 91, .inl (upN (ai h 101) (fun c => c) (fz g kk (nI a)) 91)) := fun Z A => (ma_set_ne _ _ (by decide)).trans ((ma_set_ne _ _ (by decide)).trans ((ma_set_ne _ _ (by decide)).trans (ma_set_at _ _ _)))
  have sw : ∀ Z A Z2, ma_set (ma_set (ma_set (ma_set (ma_set h 101 (.inl (.boolean, 91, .inl (upN (ai h 101) (fun c => c) (fz g kk (nI a)) 91)))) 89 (.inl (.int, 4, .inl (upd (ai h 89) f (ai h 89 f + 1))))) 80 Z) 88 A) 80 Z2 = ma_set (ma_set (ma_set (ma_set h 101 (.inl (.boolean, 91, .inl (upN (ai h 101) (fun c => c) (fz g kk (nI a)) 91)))) 89 (.inl (.int, 4, .inl (upd (ai h 89) f (ai h 89 f + 1))))) 80 Z2) 88 A := fun Z A Z2 => by rw [ma_set_swap _ (show 88 ≠ 80 by decide), ma_set_set]
  have lp : ∀ n c, c + n = 91 → At 217 Q 19 (0, 0) [some (.ref 80), some (.int x), some (.int y), some (.int (su (gfl (fz g kk (nI a)) (fi h 80 11) (fi h 80 12)) c)), some (.int (nI c)), none] [] (ma_set (ma_set (ma_set (ma_set h 101 (.inl (.boolean, 91, .inl (upN (ai h 101) (fun c => c) (fz g kk (nI a)) 91)))) 89 (.inl (.int, 4, .inl (upd (ai h 89) f (ai h 89 f + 1))))) 80 (.inr (12, (mO h).set 12 (.int (gzz (fz g kk (nI a)) (fi h 80 11) (fi h 80 12) c))))) 88 (.inl (.int, 910, .inl (garr (fz g kk (nI a)) (fi h 80 11) (fi h 80 12) (ai h 89 f + 1) (fun c => 91 * f + c) (ai h 88) c)))) := by
    intro n
    induction n with
    | zero =>
      intro c e
      obtain rfl : c = 91 := by omega
      refine go 60 (by decide) ?_
      simp only [KX, KY, KZ, KW, KV, Nat.reduceAdd, Nat.reduceSub, Nat.reduceLeDiff, true_and, and_true, true_or, or_true, or_self, reduceCtorEq, if_true, if_false, not_false_eq_true, eq_self, c217, h80, h88, h89, h101, tx, ma_set_at, List.set_cons_succ, List.set_cons_zero]
      rw [if_neg (show ¬ nI 91 < (91 : Int32) from nI_nlt (Nat.le_refl _) (by decide))]
      exact k
    | succ n ih =>
      intro c e
      have hc : c < 91 := by omega
      have ih2 := ih (c + 1) (by omega)
      have dz : gzz (fz g kk (nI a)) (fi h 80 11) (fi h 80 12) (c + 1) = if (fz g kk (nI a)) c = 0 then gzz (fz g kk (nI a)) (fi h 80 11) (fi h 80 12) c else if (fi h 80 11) = 0 then gzz (fz g kk (nI a)) (fi h 80 11) (fi h 80 12) c else nxt (gzz (fz g kk (nI a)) (fi h 80 11) (fi h 80 12) c) := rfl
      have df : gfl (fz g kk (nI a)) (fi h 80 11) (fi h 80 12) c = if (fz g kk (nI a)) c = 0 then 0 else if (fi h 80 11) = 0 then 1 else if rl (nxt (gzz (fz g kk (nI a)) (fi h 80 11) (fi h 80 12) c)) < (fi h 80 11) then 0 else 1 := rfl
      have ds : su (gfl (fz g kk (nI a)) (fi h 80 11) (fi h 80 12)) (c + 1) = su (gfl (fz g kk (nI a)) (fi h 80 11) (fi h 80 12)) c + gfl (fz g kk (nI a)) (fi h 80 11) (fi h 80 12) c := rfl
      have da : garr (fz g kk (nI a)) (fi h 80 11) (fi h 80 12) (ai h 89 f + 1) (fun c => 91 * f + c) (ai h 88) (c + 1) = if gfl (fz g kk (nI a)) (fi h 80 11) (fi h 80 12) c = 0 then garr (fz g kk (nI a)) (fi h 80 11) (fi h 80 12) (ai h 89 f + 1) (fun c => 91 * f + c) (ai h 88) c else upd (garr (fz g kk (nI a)) (fi h 80 11) (fi h 80 12) (ai h 89 f + 1) (fun c => 91 * f + c) (ai h 88) c) (91 * f + c) (ai h 89 f + 1) := rfl
      refine go 60 (by decide) ?_
      simp only [KX, KY, KZ, KW, KV, Nat.reduceAdd, Nat.reduceSub, Nat.reduceLeDiff, true_and, and_true, true_or, or_true, or_self, reduceCtorEq, if_true, if_false, not_false_eq_true, eq_self, c217, h80, h88, h89, h101, tx, ma_set_at, List.set_cons_succ, List.set_cons_zero]
      rw [if_pos (show nI c < (91 : Int32) from nI_lt hc (by decide)), nI_clamp (show c < 2 ^ 31 by omega), upN_at (p := fun c => c) 91 (fun i j _ _ e => e) c hc]
      refine ⟨nI_in hc (by decide), ?_⟩
      by_cases kc : (fz g kk (nI a)) c = 0
      · rw [if_pos kc] at dz df
        rw [df, if_pos rfl] at da
        rw [df, Int32.add_zero] at ds
        rw [kc, if_pos rfl]
        try rw [if_pos rfl]
        rw [nI_1]
        rw [dz, da, ds] at ih2
        exact At_le ih2 ⟨rfl, rfl, rfl, rfl, rfl, trivial⟩
      · have k1 : (fz g kk (nI a)) c = 1 := (fz01 g kk (nI a) c).resolve_left kc
        rw [if_neg kc] at dz df
        rw [k1, if_neg (by decide)]
        by_cases m0 : fi h 80 11 = 0
        · rw [if_pos m0] at dz df
          rw [df, if_neg (by decide)] at da
          rw [df] at ds
          rw [if_pos (show fi h 80 11 ≤ 0 by rw [m0]; decide)]
          try rw [if_neg (by decide)]
          rw [e91, nI_add, nI_clamp (show 91 * f + c < 2 ^ 31 by omega)]
          rw [show upd (ai h 89) f (ai h 89 f + 1) f = (ai h 89 f + 1) from if_pos rfl]
          refine ⟨vx, nI_in (show 91 * f + c < 910 by omega) (by decide), ?_⟩
          rw [ma_set_set, nI_1]
          rw [dz, da, ds] at ih2
          exact At_le ih2 ⟨rfl, rfl, rfl, rfl, rfl, trivial⟩
        · rw [if_neg m0] at dz df
          have mp : ¬ fi h 80 11 ≤ 0 := by rw [hm]; exact nI_nle (by rcases Nat.eq_zero_or_pos m with w | w; exact absurd (by rw [hm, w]; rfl) m0; exact w) (by omega)
          rw [if_neg mp]
          refine ⟨by simp only [List.length_cons, List.length_nil]; omega, trivial, ?_⟩
          rw [show (.inr (12, [.ref 81, .ref 82, .ref 83, .ref 84, .ref 85, .ref 86, .ref 87, .ref 88, .ref 89, .int (fi h 80 9), .ref 90, .int (fi h 80 11), .int (gzz (fz g kk (nI a)) (fi h 80 11) (fi h 80 12) c * 1103515245 + 12345), .ref 91, .int (fi h 80 14), .ref 92, .ref 93, .ref 94, .int (fi h 80 18), .int (fi h 80 19), .int (fi h 80 20), .int (fi h 80 21), .long (fj h 80 22), .int (fi h 80 23), .int (fi h 80 24), .ref 95, .ref 96, .ref 97, .int (fi h 80 28), .int (fi h 80 29), .int (fi h 80 30), .ref 98, .ref 99, .ref 100, .ref 101, .long (fj h 80 35), .long (fj h 80 36), .ref 102, .ref 103, .ref 104, .ref 105, .int (fi h 80 41), .int (fi h 80 42), .ref 106, .ref 107, .ref 108, .ref 109, .ref 110, .ref 111, .int (fi h 80 49), .int (fi h 80 50), .int (fi h 80 51), .ref 112, .int (fi h 80 53), .int (fi h 80 54), .int (fi h 80 55), .ref 113, .int (fi h 80 57), .ref 114]) : ma_C) = .inr (12, (mO h).set 12 (.int (nxt (gzz (fz g kk (nI a)) (fi h 80 11) (fi h 80 12) c)))) from rfl, sw]
          split
          · rename_i m1
            have m2 : rl (nxt (gzz (fz g kk (nI a)) (fi h 80 11) (fi h 80 12) c)) < fi h 80 11 := m1
            rw [if_pos m2] at df
            rw [df, if_pos rfl] at da
            rw [df, Int32.add_zero] at ds
            refine go 60 (by decide) ?_
            simp only [KX, KY, KZ, KW, KV, Nat.reduceAdd, Nat.reduceSub, Nat.reduceLeDiff, true_and, and_true, true_or, or_true, or_self, reduceCtorEq, if_true, if_false, not_false_eq_true, eq_self, c217, h80, h88, h89, h101, tx, ma_set_at, List.set_cons_succ, List.set_cons_zero]
            rw [nI_1]
            rw [dz, da, ds] at ih2
            exact At_le ih2 ⟨rfl, rfl, rfl, rfl, rfl, trivial⟩
          · rename_i m1
            have m2 : ¬ rl (nxt (gzz (fz g kk (nI a)) (fi h 80 11) (fi h 80 12) c)) < fi h 80 11 := m1
            rw [if_neg m2] at df
            rw [df, if_neg (by decide)] at da
            rw [df] at ds
            refine go 60 (by decide) ?_
            simp only [KX, KY, KZ, KW, KV, Nat.reduceAdd, Nat.reduceSub, Nat.reduceLeDiff, true_and, and_true, true_or, or_true, or_self, reduceCtorEq, if_true, if_false, not_false_eq_true, eq_self, c217, h80, h88, h89, h101, tx, ma_set_at, List.set_cons_succ, List.set_cons_zero]
            rw [e91, nI_add, nI_clamp (show 91 * f + c < 2 ^ 31 by omega)]
            rw [show upd (ai h 89) f (ai h 89 f + 1) f = (ai h 89 f + 1) from if_pos rfl]
            refine ⟨vx, nI_in (show 91 * f + c < 910 by omega) (by decide), ?_⟩
            rw [ma_set_set, nI_1]
            rw [dz, da, ds] at ih2
            exact At_le ih2 ⟨rfl, rfl, rfl, rfl, rfl, trivial⟩
  refine ma_enter (m := 217) (Or.inl (by decide)) (by show 3 ≤ mt_n 217; decide +kernel) ?_
  show At 217 Q 0 (mt_c 217) [some (.ref 80), some (.int x), some (.int y), none, none, none] [] h
  refine go 60 (by decide) ?_
  simp only [KX, KY, KZ, KW, KV, Nat.reduceAdd, Nat.reduceSub, Nat.reduceLeDiff, true_and, and_true, true_or, or_true, or_self, reduceCtorEq, if_true, if_false, not_false_eq_true, eq_self, c217, H.e80]
  rw [e91]
  refine s215 (A := 91 * f) H R (by omega) ok eg ha q2 hg hk ek ea ?_
  refine go 60 (by decide) ?_
  simp only [KX, KY, KZ, KW, KV, Nat.reduceAdd, Nat.reduceSub, Nat.reduceLeDiff, true_and, and_true, true_or, or_true, or_self, reduceCtorEq, if_true, if_false, not_false_eq_true, eq_self, c217, (show ∀ c, (ma_set h 101 c).2.1 80 = _ from fun c => (ma_set_ne _ _ (by decide)).trans H.e80), (show ∀ c, (ma_set h 101 c).2.1 89 = _ from fun c => (ma_set_ne _ _ (by decide)).trans H.e89), tx]
  refine ⟨vx, vx, ?_⟩
  have l0 := lp 91 0 rfl
  rw [show ma_set (ma_set (ma_set h 101 (.inl (.boolean, 91, .inl (upN (ai h 101) (fun c => c) (fz g kk (nI a)) 91)))) 89 (.inl (.int, 4, .inl (upd (ai h 89) f (ai h 89 f + 1))))) 80 (.inr (12, (mO h).set 12 (.int (gzz (fz g kk (nI a)) (fi h 80 11) (fi h 80 12) 0)))) = (ma_set (ma_set h 101 (.inl (.boolean, 91, .inl (upN (ai h 101) (fun c => c) (fz g kk (nI a)) 91)))) 89 (.inl (.int, 4, .inl (upd (ai h 89) f (ai h 89 f + 1))))) from ma_set_id ((ma_set_ne _ _ (by decide)).trans ((ma_set_ne _ _ (by decide)).trans H.e80))] at l0
  rw [show ma_set (ma_set (ma_set h 101 (.inl (.boolean, 91, .inl (upN (ai h 101) (fun c => c) (fz g kk (nI a)) 91)))) 89 (.inl (.int, 4, .inl (upd (ai h 89) f (ai h 89 f + 1))))) 88 (.inl (.int, 910, .inl (garr (fz g kk (nI a)) (fi h 80 11) (fi h 80 12) (ai h 89 f + 1) (fun c => 91 * f + c) (ai h 88) 0))) = (ma_set (ma_set h 101 (.inl (.boolean, 91, .inl (upN (ai h 101) (fun c => c) (fz g kk (nI a)) 91)))) 89 (.inl (.int, 4, .inl (upd (ai h 89) f (ai h 89 f + 1))))) from ma_set_id ((ma_set_ne _ _ (by decide)).trans ((ma_set_ne _ _ (by decide)).trans H.e88))] at l0
  exact l0
