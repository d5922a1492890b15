/-! copies: takeRows -/
/-- the row of a SHEET that tells CELL i, the bit in it -/
def tkr (i : Nat) : Nat := (m_r i + 5).toNatClampNeg
def tkb (i : Nat) : Nat := i - m_fl.getD (tkr i) 0
theorem tkr_ok : ∀ i, i < 91 → nI (ma_cell i) / 13 - 6 + 5 = nI (tkr i) ∧ tkr i < 11 ∧ nI (ma_cell i) - nI (ma_cell i) / 13 * 13 - 6 - i_max (-5) (-5 - (nI (ma_cell i) / 13 - 6)) = nI (tkb i) ∧ tkb i < 11 ∧ nI i - nI (m_fl.getD (tkr i) 0) = nI (tkb i) := by decide +kernel
def told (it : Nat → Int32) (nn i : Nat) : Int32 := if tkr i < nn then if ((it (tkr i)).toUInt32 >>> ((nI (tkb i)).toUInt32 &&& Int32.toUInt32 31)).toInt32 &&& 1 = 1 then 1 else 0 else 0
theorem told01 (it : Nat → Int32) (nn i : Nat) : told it nn i = 0 ∨ told it nn i = 1 := by
  unfold told
  split
  · split
    · exact Or.inr rfl
    · exact Or.inl rfl
  · exact Or.inl rfl
def fl_tk (g it : Nat → Int32) (nn : Nat) (mn : Int32) : Nat → Nat → Int32
  | 0 => g
  | n + 1 => upd (fl_tk g it nn mn n) (ma_cell n) (if told it nn n = 0 then -1 else mn)
theorem fl_tk_ne {g it : Nat → Int32} {nn : Nat} {mn : Int32} (hm : mn ≠ -2) {j : Nat} (e : g j ≠ -2) : ∀ n, fl_tk g it nn mn n j ≠ -2
  | 0 => e
  | n + 1 => by
    show upd (fl_tk g it nn mn n) (ma_cell n) (if told it nn n = 0 then -1 else mn) j ≠ -2
    unfold upd
    split
    · split
      · decide
      · exact hm
    · exact fl_tk_ne hm e n
theorem fl_tk_ok {g it : Nat → Int32} {nn : Nat} {mn : Int32} (hm : mn ≠ -2) (ok : fl_ok g) : ∀ n, n ≤ 91 → fl_ok (fl_tk g it nn mn n)
  | 0, _ => ok
  | n + 1, hn => by
    show fl_ok (upd (fl_tk g it nn mn n) (ma_cell n) (if told it nn n = 0 then -1 else mn))
    refine fl_upd_ok (fl_tk_ok hm ok n (by omega)) (by omega) ?_
    split
    · decide
    · exact hm
theorem fl_tk_lo {g it : Nat → Int32} {nn : Nat} {mn : Int32} {i : Nat} (hi : i < 91) : ∀ n, n ≤ 91 → i < n → fl_tk g it nn mn n (ma_cell i) = if told it nn i = 0 then -1 else mn
  | n + 1, hn, h => by
    show upd (fl_tk g it nn mn n) (ma_cell n) (if told it nn n = 0 then -1 else mn) (ma_cell i) = _
    unfold upd
    by_cases c : i = n
    · subst c
      rw [if_pos rfl]
    · rw [if_neg (fun e => c (cell_inj i hi n (by omega) e))]
      exact fl_tk_lo hi n (by omega) (by omega)
theorem s35 {h : ma_H} {Q : ma_Q} {a s rc : Nat} {mn : Int32} {g : Nat → Int32} (h1 : h.2.1 a = .inr (2, [.int mn, .ref s, .ref rc])) (h2 : h.2.1 s = .inl (.int, 169, .inl g)) {b nn : Nat} {it : Nat → Int32} (h3 : h.2.1 b = .inl (.int, 40, .inl it)) (hs : a ≠ s) (hb : b ≠ s) (hm : mn ≠ -2) (hg : fl_ok g) (hn : nn ≤ 40) (k : Q (some (.int (su (told it nn) 91))) (ma_set h s (.inl (.int, 169, .inl (fl_tk g it nn mn 91))))) : ma_X 35 [.ref a, .ref b, .int (nI nn)] h Q := by
  have hA : ∀ c, (ma_set h s c).2.1 a = .inr (2, [.int mn, .ref s, .ref rc]) := fun c => (ma_set_ne h c hs).trans h1
  have hB : ∀ c, (ma_set h s c).2.1 b = .inl (.int, 40, .inl it) := fun c => (ma_set_ne h c hb).trans h3
  have lp : ∀ ni i, i + ni = 91 → At 35 Q 9 (0, 0) [some (.ref a), some (.ref b), some (.int (nI nn)), some (.int (su (told it nn) i)), some (.retAddr 0), some (.int (nI 91)), some (.int (nI i)), none, none, none, none, none] [] (ma_set h s (.inl (.int, 169, .inl (fl_tk g it nn mn i)))) := by
    intro ni
    induction ni with
    | zero =>
      intro i e
      obtain rfl : i = 91 := by omega
      refine go 60 (by decide) ?_
      simp only [KX, KY, KZ, KW, KV, Nat.reduceAdd, Nat.reduceSub, Nat.reduceLeDiff, true_and, and_true, true_or, or_true, or_self, reduceCtorEq, if_true, if_false, not_false_eq_true, eq_self, c35, hA, hB, ma_set_at]
      rw [if_neg (nI_nlt (Nat.le_refl _) (by omega))]
      exact k
    | succ ni ih =>
      intro i e
      have hi : i < 91 := by omega
      have e1i := nI_1 i
      refine go 60 (by decide) ?_
      simp only [KX, KY, KZ, KW, KV, Nat.reduceAdd, Nat.reduceSub, Nat.reduceLeDiff, true_and, and_true, true_or, or_true, or_self, reduceCtorEq, if_true, if_false, not_false_eq_true, eq_self, c35, hA, hB, ma_set_at]
      rw [if_pos (nI_lt hi (by omega))]
      rw [nI_clamp (show i < 2 ^ 31 by omega)]
      refine ⟨nI_in hi (by decide), ?_⟩
      obtain ⟨t1, t2, t3, t4, -⟩ := tkr_ok i hi
      have t3 : nI (ma_cell i) - nI (ma_cell i) / 13 * 13 - 6 - (if -5 < -5 - (nI (ma_cell i) / 13 - 6) then -5 - (nI (ma_cell i) / 13 - 6) else -5) = nI (tkb i) := t3
      refine s11 ?_
      refine go 60 (by decide) ?_
      simp only [KX, KY, KZ, KW, KV, Nat.reduceAdd, Nat.reduceSub, Nat.reduceLeDiff, true_and, and_true, true_or, or_true, or_self, reduceCtorEq, if_true, if_false, not_false_eq_true, eq_self, c35, hA, hB, ma_set_at]
      refine s10 ?_
      refine go 60 (by decide) ?_
      simp only [KX, KY, KZ, KW, KV, Nat.reduceAdd, Nat.reduceSub, Nat.reduceLeDiff, true_and, and_true, true_or, or_true, or_self, reduceCtorEq, if_true, if_false, not_false_eq_true, eq_self, c35, hA, hB, ma_set_at]
      rw [t1, t3, if_neg (nI_pos (show tkr i < 2 ^ 31 by omega))]
      by_cases c : tkr i < nn
      · rw [if_pos (nI_lt c (by omega)), if_pos (nI_lt (show tkr i < 40 by omega) (by decide)), nI_clamp (show tkr i < 2 ^ 31 by omega)]
        refine ⟨nI_in (show tkr i < 40 by omega) (by decide), ?_⟩
        by_cases d : ((it (tkr i)).toUInt32 >>> ((nI (tkb i)).toUInt32 &&& Int32.toUInt32 31)).toInt32 &&& 1 = 1
        · rw [if_pos d]
          have tz : told it nn i = 1 := (if_pos c).trans (if_pos d)
          refine go 60 (by decide) ?_
          simp only [KX, KY, KZ, KW, KV, Nat.reduceAdd, Nat.reduceSub, Nat.reduceLeDiff, true_and, and_true, true_or, or_true, or_self, reduceCtorEq, if_true, if_false, not_false_eq_true, eq_self, c35, hA, hB, ma_set_at]
          try (refine go 60 (by decide) ?_; simp only [KX, KY, KZ, KW, KV, Nat.reduceAdd, Nat.reduceSub, Nat.reduceLeDiff, true_and, and_true, true_or, or_true, or_self, reduceCtorEq, if_true, if_false, not_false_eq_true, eq_self, c35, hA, hB, ma_set_at])
          refine s17c (hA _) (ma_set_at _ _ _) hi (fl_tk_ne hm (hg.1 i hi) i) ?_
          rw [ma_set_set]
          refine go 60 (by decide) ?_
          simp only [KX, KY, KZ, KW, KV, Nat.reduceAdd, Nat.reduceSub, Nat.reduceLeDiff, true_and, and_true, true_or, or_true, or_self, reduceCtorEq, if_true, if_false, not_false_eq_true, eq_self, c35, hA, hB, ma_set_at]
          try (refine go 60 (by decide) ?_; simp only [KX, KY, KZ, KW, KV, Nat.reduceAdd, Nat.reduceSub, Nat.reduceLeDiff, true_and, and_true, true_or, or_true, or_self, reduceCtorEq, if_true, if_false, not_false_eq_true, eq_self, c35, hA, hB, ma_set_at])
          rw [e1i]
          have e2 : su (told it nn) (i + 1) = su (told it nn) i + 1 := by
            show su (told it nn) i + told it nn i = _
            rw [tz]
          have e3 : fl_tk g it nn mn (i + 1) = upd (fl_tk g it nn mn i) (ma_cell i) mn := by
            show upd (fl_tk g it nn mn i) (ma_cell i) (if told it nn i = 0 then -1 else mn) = _
            rw [tz]
            rfl
          have ih2 := ih (i + 1) (by omega)
          rw [e2, e3] at ih2
          exact At_le ih2 ⟨rfl, rfl, rfl, rfl, rfl, rfl, rfl, trivial⟩
        · rw [if_neg d]
          have tz : told it nn i = 0 := (if_pos c).trans (if_neg d)
          refine go 60 (by decide) ?_
          simp only [KX, KY, KZ, KW, KV, Nat.reduceAdd, Nat.reduceSub, Nat.reduceLeDiff, true_and, and_true, true_or, or_true, or_self, reduceCtorEq, if_true, if_false, not_false_eq_true, eq_self, c35, hA, hB, ma_set_at]
          try (refine go 60 (by decide) ?_; simp only [KX, KY, KZ, KW, KV, Nat.reduceAdd, Nat.reduceSub, Nat.reduceLeDiff, true_and, and_true, true_or, or_true, or_self, reduceCtorEq, if_true, if_false, not_false_eq_true, eq_self, c35, hA, hB, ma_set_at])
          refine s17c (hA _) (ma_set_at _ _ _) hi (fl_tk_ne hm (hg.1 i hi) i) ?_
          rw [ma_set_set]
          refine go 60 (by decide) ?_
          simp only [KX, KY, KZ, KW, KV, Nat.reduceAdd, Nat.reduceSub, Nat.reduceLeDiff, true_and, and_true, true_or, or_true, or_self, reduceCtorEq, if_true, if_false, not_false_eq_true, eq_self, c35, hA, hB, ma_set_at]
          try (refine go 60 (by decide) ?_; simp only [KX, KY, KZ, KW, KV, Nat.reduceAdd, Nat.reduceSub, Nat.reduceLeDiff, true_and, and_true, true_or, or_true, or_self, reduceCtorEq, if_true, if_false, not_false_eq_true, eq_self, c35, hA, hB, ma_set_at])
          rw [e1i]
          have e2 : su (told it nn) (i + 1) = su (told it nn) i + 0 := by
            show su (told it nn) i + told it nn i = _
            rw [tz]
          have e3 : fl_tk g it nn mn (i + 1) = upd (fl_tk g it nn mn i) (ma_cell i) (-1) := by
            show upd (fl_tk g it nn mn i) (ma_cell i) (if told it nn i = 0 then -1 else mn) = _
            rw [tz]
            rfl
          have ih2 := ih (i + 1) (by omega)
          rw [e2, e3] at ih2
          exact At_le ih2 ⟨rfl, rfl, rfl, rfl, rfl, rfl, rfl, trivial⟩
      · rw [if_neg (nI_nlt (by omega) (by omega))]
        have tz : told it nn i = 0 := if_neg c
        refine go 60 (by decide) ?_
        simp only [KX, KY, KZ, KW, KV, Nat.reduceAdd, Nat.reduceSub, Nat.reduceLeDiff, true_and, and_true, true_or, or_true, or_self, reduceCtorEq, if_true, if_false, not_false_eq_true, eq_self, c35, hA, hB, ma_set_at]
        try (refine go 60 (by decide) ?_; simp only [KX, KY, KZ, KW, KV, Nat.reduceAdd, Nat.reduceSub, Nat.reduceLeDiff, true_and, and_true, true_or, or_true, or_self, reduceCtorEq, if_true, if_false, not_false_eq_true, eq_self, c35, hA, hB, ma_set_at])
        refine s17c (hA _) (ma_set_at _ _ _) hi (fl_tk_ne hm (hg.1 i hi) i) ?_
        rw [ma_set_set]
        refine go 60 (by decide) ?_
        simp only [KX, KY, KZ, KW, KV, Nat.reduceAdd, Nat.reduceSub, Nat.reduceLeDiff, true_and, and_true, true_or, or_true, or_self, reduceCtorEq, if_true, if_false, not_false_eq_true, eq_self, c35, hA, hB, ma_set_at]
        try (refine go 60 (by decide) ?_; simp only [KX, KY, KZ, KW, KV, Nat.reduceAdd, Nat.reduceSub, Nat.reduceLeDiff, true_and, and_true, true_or, or_true, or_self, reduceCtorEq, if_true, if_false, not_false_eq_true, eq_self, c35, hA, hB, ma_set_at])
        rw [e1i]
        have e2 : su (told it nn) (i + 1) = su (told it nn) i + 0 := by
          show su (told it nn) i + told it nn i = _
          rw [tz]
        have e3 : fl_tk g it nn mn (i + 1) = upd (fl_tk g it nn mn i) (ma_cell i) (-1) := by
          show upd (fl_tk g it nn mn i) (ma_cell i) (if told it nn i = 0 then -1 else mn) = _
          rw [tz]
          rfl
        have ih2 := ih (i + 1) (by omega)
        rw [e2, e3] at ih2
        exact At_le ih2 ⟨rfl, rfl, rfl, rfl, rfl, rfl, rfl, trivial⟩
  refine ma_enter (m := 35) (Or.inl (by decide)) (by show 3 ≤ mt_n 35; decide +kernel) ?_
  show At 35 Q 0 (0, 0) [some (.ref a), some (.ref b), some (.int (nI nn)), none, none, none, none, none, none, none, none, none] [] h
  refine go 60 (by decide) ?_
  simp only [KX, KY, KZ, KW, KV, Nat.reduceAdd, Nat.reduceSub, Nat.reduceLeDiff, true_and, and_true, true_or, or_true, or_self, reduceCtorEq, if_true, if_false, not_false_eq_true, eq_self, c35, h1, h2]
  have l0 := lp 91 0 rfl
  rw [show (ma_set h s (.inl (.int, 169, .inl (fl_tk g it nn mn 0)))) = h from ma_set_id h2] at l0
  exact l0
theorem bv_1 {w : Nat} (hw : 0 < w) (x : BitVec w) : x &&& 1#w = 1#w ↔ x.getLsbD 0 = true := by
  constructor
  · intro e
    have e2 := congrArg (fun y => BitVec.getLsbD y 0) e
    simpa [hw] using e2
  · intro e
    apply BitVec.eq_of_getLsbD_eq
    intro i hi
    by_cases c : i = 0
    · subst c
      simp [e]
    · simp [BitVec.getLsbD_one, c]
theorem bv_bit (v : BitVec 32) (s : Nat) (hs : s < 32) : (BitVec.sshiftRight (BitVec.signExtend 64 v) s &&& 1#64 = 1#64) ↔ (v >>> s &&& 1#32 = 1#32) := by
  rw [bv_1 (by decide), bv_1 (by decide)]
  have c : s < 64 := by omega
  simp only [BitVec.getLsbD_sshiftRight, BitVec.getLsbD_signExtend, BitVec.getLsbD_ushiftRight, Nat.add_zero]
  simp [hs, c]
theorem bit_0 (v : Int32) : (v.toInt64 >>> ((nI 0).toInt64 &&& 63)) &&& 1 = 1 ↔ (v.toUInt32 >>> ((nI 0).toUInt32 &&& Int32.toUInt32 31)).toInt32 &&& 1 = 1 := by
  rw [← Int64.toBitVec_inj, ← Int32.toBitVec_inj, Int64.toBitVec_and, Int64.toBitVec_shiftRight, Int32.toBitVec_and, Int32.toBitVec_toInt64]
  exact bv_bit v.toBitVec 0 (by decide)
theorem bit_1 (v : Int32) : (v.toInt64 >>> ((nI 1).toInt64 &&& 63)) &&& 1 = 1 ↔ (v.toUInt32 >>> ((nI 1).toUInt32 &&& Int32.toUInt32 31)).toInt32 &&& 1 = 1 := by
  rw [← Int64.toBitVec_inj, ← Int32.toBitVec_inj, Int64.toBitVec_and, Int64.toBitVec_shiftRight, Int32.toBitVec_and, Int32.toBitVec_toInt64]
  exact bv_bit v.toBitVec 1 (by decide)
theorem bit_2 (v : Int32) : (v.toInt64 >>> ((nI 2).toInt64 &&& 63)) &&& 1 = 1 ↔ (v.toUInt32 >>> ((nI 2).toUInt32 &&& Int32.toUInt32 31)).toInt32 &&& 1 = 1 := by
  rw [← Int64.toBitVec_inj, ← Int32.toBitVec_inj, Int64.toBitVec_and, Int64.toBitVec_shiftRight, Int32.toBitVec_and, Int32.toBitVec_toInt64]
  exact bv_bit v.toBitVec 2 (by decide)
theorem bit_3 (v : Int32) : (v.toInt64 >>> ((nI 3).toInt64 &&& 63)) &&& 1 = 1 ↔ (v.toUInt32 >>> ((nI 3).toUInt32 &&& Int32.toUInt32 31)).toInt32 &&& 1 = 1 := by
  rw [← Int64.toBitVec_inj, ← Int32.toBitVec_inj, Int64.toBitVec_and, Int64.toBitVec_shiftRight, Int32.toBitVec_and, Int32.toBitVec_toInt64]
  exact bv_bit v.toBitVec 3 (by decide)
theorem bit_4 (v : Int32) : (v.toInt64 >>> ((nI 4).toInt64 &&& 63)) &&& 1 = 1 ↔ (v.toUInt32 >>> ((nI 4).toUInt32 &&& Int32.toUInt32 31)).toInt32 &&& 1 = 1 := by
  rw [← Int64.toBitVec_inj, ← Int32.toBitVec_inj, Int64.toBitVec_and, Int64.toBitVec_shiftRight, Int32.toBitVec_and, Int32.toBitVec_toInt64]
  exact bv_bit v.toBitVec 4 (by decide)
theorem bit_5 (v : Int32) : (v.toInt64 >>> ((nI 5).toInt64 &&& 63)) &&& 1 = 1 ↔ (v.toUInt32 >>> ((nI 5).toUInt32 &&& Int32.toUInt32 31)).toInt32 &&& 1 = 1 := by
  rw [← Int64.toBitVec_inj, ← Int32.toBitVec_inj, Int64.toBitVec_and, Int64.toBitVec_shiftRight, Int32.toBitVec_and, Int32.toBitVec_toInt64]
  exact bv_bit v.toBitVec 5 (by decide)
theorem bit_6 (v : Int32) : (v.toInt64 >>> ((nI 6).toInt64 &&& 63)) &&& 1 = 1 ↔ (v.toUInt32 >>> ((nI 6).toUInt32 &&& Int32.toUInt32 31)).toInt32 &&& 1 = 1 := by
  rw [← Int64.toBitVec_inj, ← Int32.toBitVec_inj, Int64.toBitVec_and, Int64.toBitVec_shiftRight, Int32.toBitVec_and, Int32.toBitVec_toInt64]
  exact bv_bit v.toBitVec 6 (by decide)
theorem bit_7 (v : Int32) : (v.toInt64 >>> ((nI 7).toInt64 &&& 63)) &&& 1 = 1 ↔ (v.toUInt32 >>> ((nI 7).toUInt32 &&& Int32.toUInt32 31)).toInt32 &&& 1 = 1 := by
  rw [← Int64.toBitVec_inj, ← Int32.toBitVec_inj, Int64.toBitVec_and, Int64.toBitVec_shiftRight, Int32.toBitVec_and, Int32.toBitVec_toInt64]
  exact bv_bit v.toBitVec 7 (by decide)
theorem bit_8 (v : Int32) : (v.toInt64 >>> ((nI 8).toInt64 &&& 63)) &&& 1 = 1 ↔ (v.toUInt32 >>> ((nI 8).toUInt32 &&& Int32.toUInt32 31)).toInt32 &&& 1 = 1 := by
  rw [← Int64.toBitVec_inj, ← Int32.toBitVec_inj, Int64.toBitVec_and, Int64.toBitVec_shiftRight, Int32.toBitVec_and, Int32.toBitVec_toInt64]
  exact bv_bit v.toBitVec 8 (by decide)
theorem bit_9 (v : Int32) : (v.toInt64 >>> ((nI 9).toInt64 &&& 63)) &&& 1 = 1 ↔ (v.toUInt32 >>> ((nI 9).toUInt32 &&& Int32.toUInt32 31)).toInt32 &&& 1 = 1 := by
  rw [← Int64.toBitVec_inj, ← Int32.toBitVec_inj, Int64.toBitVec_and, Int64.toBitVec_shiftRight, Int32.toBitVec_and, Int32.toBitVec_toInt64]
  exact bv_bit v.toBitVec 9 (by decide)
theorem bit_10 (v : Int32) : (v.toInt64 >>> ((nI 10).toInt64 &&& 63)) &&& 1 = 1 ↔ (v.toUInt32 >>> ((nI 10).toUInt32 &&& Int32.toUInt32 31)).toInt32 &&& 1 = 1 := by
  rw [← Int64.toBitVec_inj, ← Int32.toBitVec_inj, Int64.toBitVec_and, Int64.toBitVec_shiftRight, Int32.toBitVec_and, Int32.toBitVec_toInt64]
  exact bv_bit v.toBitVec 10 (by decide)
theorem bit_eq (v : Int32) {k : Nat} (hk : k < 11) : (v.toInt64 >>> ((nI k).toInt64 &&& 63)) &&& 1 = 1 ↔ (v.toUInt32 >>> ((nI k).toUInt32 &&& Int32.toUInt32 31)).toInt32 &&& 1 = 1 := by
  match k, hk with
  | 0, _ => exact bit_0 v
  | 1, _ => exact bit_1 v
  | 2, _ => exact bit_2 v
  | 3, _ => exact bit_3 v
  | 4, _ => exact bit_4 v
  | 5, _ => exact bit_5 v
  | 6, _ => exact bit_6 v
  | 7, _ => exact bit_7 v
  | 8, _ => exact bit_8 v
  | 9, _ => exact bit_9 v
  | 10, _ => exact bit_10 v
