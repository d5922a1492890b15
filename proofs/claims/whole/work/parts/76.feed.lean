/-! feed -/
/-- byte k of eight -/
def fb (e : Int64) (k : Nat) : Int32 := (e.toUInt64 >>> ((8 * nI k).toInt64.toUInt64 &&& Int64.toUInt64 63)).toInt64.toInt32.toInt8.toInt32
def fbm (e : Int64) (k : Nat) : Int32 := ((e >>> ((8 * nI k).toInt64 &&& 63)) &&& 255).toInt32
theorem fb_nar (e : Int64) (k : Nat) : vp_nar .byte (fb e k) = fb e k := by
  unfold fb
  show Int8.toInt32 (Int32.toInt8 (Int8.toInt32 _)) = _
  rw [Int8.toInt8_toInt32]
theorem s103 {h : ma_H} {Q : ma_Q} {e : Int64} {m t : Nat} (H : Sh h) (m1 : 1 ≤ m) (m8 : m ≤ 8) (tm : t + m ≤ 200) (et : fi h 0 4 = nI t) (k : Q (some (.int (nI (t + m)))) (ma_set (ma_set h 1 (.inl (.byte, 200, .inl (upN (ai h 1) (fun c => t + c) (fb e) m)))) 0 (.inr (11, [.ref 34, .ref 57, .int (fi h 0 2), .ref 1, .int (nI (t + m)), .ref 2, .ref 7, .ref 11, .int (fi h 0 8), .ref 18, .ref 23, .ref 24, .ref 25, .ref 26, .ref 27, .ref 29, .ref 30, .ref 31])))) : ma_X 103 [.ref 0, .long e, .int (nI m)] h Q := by
  have e0 : ∀ c, (ma_set h 1 c).2.1 0 = .inr (11, [.ref 34, .ref 57, .int (fi h 0 2), .ref 1, .int (nI t), .ref 2, .ref 7, .ref 11, .int (fi h 0 8), .ref 18, .ref 23, .ref 24, .ref 25, .ref 26, .ref 27, .ref 29, .ref 30, .ref 31]) := fun c => by rw [ma_set_ne _ _ (by decide), H.e0, et]
  have e1 : ∀ c, (ma_set h 1 c).2.1 1 = c := fun c => ma_set_at _ _ _
  have lp : ∀ n i, i + n = m → At 103 Q 18 (0, 0) [some (.ref 0), some (.long e), none, some (.int (nI m)), some (.int (nI i))] [] (ma_set h 1 (.inl (.byte, 200, .inl (upN (ai h 1) (fun c => t + c) (fb e) i)))) := by
    intro n
    induction n with
    | zero =>
      intro i ei
      obtain rfl : i = m := by omega
      refine go 60 (by decide) ?_
      simp only [KX, KY, KZ, KW, KV, Nat.reduceAdd, Nat.reduceSub, Nat.reduceLeDiff, true_and, and_true, true_or, or_true, or_self, reduceCtorEq, if_true, if_false, not_false_eq_true, eq_self, c103, e0, e1, ma_set_at, List.set_cons_succ, List.set_cons_zero]
      rw [if_neg (nI_nlt (Nat.le_refl _) (by omega)), nI_add]
      refine ⟨by simp only [List.length_cons, List.length_nil]; omega, trivial, ?_⟩
      exact k
    | succ n ih =>
      intro i ei
      refine go 60 (by decide) ?_
      simp only [KX, KY, KZ, KW, KV, Nat.reduceAdd, Nat.reduceSub, Nat.reduceLeDiff, true_and, and_true, true_or, or_true, or_self, reduceCtorEq, if_true, if_false, not_false_eq_true, eq_self, c103, e0, e1, ma_set_at]
      rw [if_pos (nI_lt (show i < m by omega) (by omega)), nI_add, nI_clamp (show t + i < 2 ^ 31 by omega), nI_1]
      refine ⟨nI_in (show t + i < 200 by omega) (by decide), ?_⟩
      rw [ma_set_set]
      have fz := fb_nar e i
      unfold fb at fz
      rw [fz]
      exact ih (i + 1) (by omega)
  refine ma_enter (m := 103) (Or.inl (by decide)) (by show 4 ≤ mt_n 103; decide +kernel) ?_
  show At 103 Q 0 (0, 0) [some (.ref 0), some (.long e), none, some (.int (nI m)), none] [] h
  refine go 60 (by decide) ?_
  simp only [KX, KY, KZ, KW, KV, Nat.reduceAdd, Nat.reduceSub, Nat.reduceLeDiff, true_and, and_true, true_or, or_true, or_self, reduceCtorEq, if_true, if_false, not_false_eq_true, eq_self, c103, H.e0, et]
  rw [if_neg (show ¬ nI m < 1 from nI_nlt (b := 1) m1 (by omega)), if_pos (show nI m ≤ 8 from nI_le (b := 8) m8 (by decide)), nI_add, if_pos (show nI (t + m) ≤ 200 from nI_le (b := 200) tm (by decide))]
  have l0 := lp m 0 (by omega)
  rw [show (ma_set h 1 (.inl (.byte, 200, .inl (upN (ai h 1) (fun c => t + c) (fb e) 0)))) = h from ma_set_id H.e1] at l0
  exact l0
