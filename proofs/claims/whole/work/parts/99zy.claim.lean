/-! the law: its loop, from its start -/
theorem and63 (x : Int32) : ∃ v, v < 64 ∧ x &&& 63 = nI v := by
  refine ⟨x.toBitVec.toNat % 64, Nat.mod_lt _ (by decide), ?_⟩
  apply Int32.toBitVec_inj.mp
  rw [Int32.toBitVec_and]
  apply BitVec.eq_of_toNat_eq
  rw [BitVec.toNat_and]
  have e1 : (63 : Int32).toBitVec.toNat = 2 ^ 6 - 1 := rfl
  have e2 : ∀ k, k < 64 → (nI k).toBitVec.toNat = k := by decide +kernel
  rw [e1, Nat.and_two_pow_sub_one_eq_mod, e2 _ (Nat.mod_lt _ (by decide))]
theorem fa_len : faC.length = 80 := rfl
theorem hl_0 {sc : Nat × (Nat → Int32)} : HL sc [] = (0, (fun _ => ma_no), sc) := rfl
theorem k285_d {h : ma_H} {Q : ma_Q} {B1 B2 i n v : Nat} {g : Nat → Int32} (hsc : h.2.2 = (n, g)) (hn : n ≤ 320) (hi : i + 5 ≤ n) (v1 : 42 ≤ v) (v2 : v < 64) (ev : g i &&& 63 = nI v) (K : At 285 Q 10 (B1, B2) [some (.retAddr 1000), some (.ref 0), some (.ref 80), some (.int (nI (i + 5)))] [] h) : At 285 Q 10 (B1, B2) [some (.retAddr 1000), some (.ref 0), some (.ref 80), some (.int (nI i))] [] h := by
  have hle : nI i ≤ nI n - 5 := by rw [show (5 : Int32) = nI 5 from rfl, nI_sub (by omega)]; exact nI_le (by omega) (by omega)
  have v0 : vp_in (nI i) n := nI_in (by omega) (by omega)
  have x0 : (nI i).toNatClampNeg = i := nI_clamp (by omega)
  have a5 : nI i + 5 = nI (i + 5) := nI_add i 5
  have t0 : (Int32.toInt (nI v) < Int.ofNat 0 ∨ Int.ofNat 41 < Int32.toInt (nI v)) = True := by
    rw [nI_toInt (by omega)]
    exact eq_true (Or.inr (by show (41 : Int) < (v : Int); omega))
  refine go 60 (by decide) ?_
  simp only [KX, KY, KZ, KW, KV, Nat.reduceAdd, Nat.reduceSub, Nat.reduceLeDiff, true_and, and_true, true_or, or_true, or_self, reduceCtorEq, if_true, if_false, not_false_eq_true, eq_self, c285h, hsc, hle, ev, v0, x0, t0, if_true]
  rw [a5]
  exact K
theorem l285 {Q : ma_Q} {n : Nat} {g : Nat → Int32} (hn : n ≤ 320) (kE : ∀ h, Q (some (.int 1)) h) : ∀ d i h, n ≤ i + d → i ≤ n + 5 → Inv h → h.2.2 = (n, g) → At 285 Q 10 (6 * (n - i), 24 * (n - i)) [some (.retAddr 1000), some (.ref 0), some (.ref 80), some (.int (nI i))] [] h := by
  have X : ∀ i h, ¬ i + 5 ≤ n → i ≤ n + 5 → h.2.2 = (n, g) → At 285 Q 10 (6 * (n - i), 24 * (n - i)) [some (.retAddr 1000), some (.ref 0), some (.ref 80), some (.int (nI i))] [] h := by
    intro i h hi il hsc
    have hle : ¬ nI i ≤ nI n - 5 := by
      rcases Nat.lt_or_ge n 5 with c | c
      · have m : ∀ k, k < 5 → nI k - 5 < (0 : Int32) := by decide +kernel
        exact Int32.not_le.mpr (Int32.lt_of_lt_of_le (m n c) (Int32.not_lt.mp (nI_pos (by omega))))
      · rw [show (5 : Int32) = nI 5 from rfl, nI_sub c]
        exact Int32.not_le.mpr (nI_lt (by omega) (by omega))
    refine go 60 (by decide) ?_
    simp only [KX, KY, KZ, KW, KV, Nat.reduceAdd, Nat.reduceSub, Nat.reduceLeDiff, true_and, and_true, true_or, or_true, or_self, reduceCtorEq, if_true, if_false, not_false_eq_true, eq_self, c285z, hsc, hle]
    first
      | exact kE h
      | exact ⟨Or.inr rfl, kE h⟩
  intro d
  induction d with
  | zero =>
    intro i h ed il I hsc
    exact X i h (by omega) il hsc
  | succ d ih =>
    intro i h ed il I hsc
    by_cases hi : i + 5 ≤ n
    · obtain ⟨v, v64, ev⟩ := and63 (g i)
      have b1 : 6 ≤ 6 * (n - i) := by omega
      have b2 : 24 ≤ 24 * (n - i) := by omega
      match v, v64, ev with
      | 0, _, ev => exact k285_0 I hsc hn hi b1 b2 ev (fun h2 I2 e2 => At_b (ih (i + 5) h2 (by omega) (by omega) I2 e2) (by show 6 * (n - (i + 5)) ≤ 6 * (n - i) - 6; omega) (by show 24 * (n - (i + 5)) ≤ 24 * (n - i) - 24; omega))
      | 1, _, ev => exact k285_1 I hsc hn hi b1 b2 ev (fun h2 I2 e2 => At_b (ih (i + 5) h2 (by omega) (by omega) I2 e2) (by show 6 * (n - (i + 5)) ≤ 6 * (n - i) - 6; omega) (by show 24 * (n - (i + 5)) ≤ 24 * (n - i) - 24; omega))
      | 2, _, ev => exact k285_2 I hsc hn hi b1 b2 ev (fun h2 I2 e2 => At_b (ih (i + 5) h2 (by omega) (by omega) I2 e2) (by show 6 * (n - (i + 5)) ≤ 6 * (n - i) - 6; omega) (by show 24 * (n - (i + 5)) ≤ 24 * (n - i) - 24; omega))
      | 3, _, ev => exact k285_3 I hsc hn hi b1 b2 ev (fun h2 I2 e2 => At_b (ih (i + 5) h2 (by omega) (by omega) I2 e2) (by show 6 * (n - (i + 5)) ≤ 6 * (n - i) - 6; omega) (by show 24 * (n - (i + 5)) ≤ 24 * (n - i) - 24; omega))
      | 4, _, ev => exact k285_4 I hsc hn hi b1 b2 ev (fun h2 I2 e2 => At_b (ih (i + 5) h2 (by omega) (by omega) I2 e2) (by show 6 * (n - (i + 5)) ≤ 6 * (n - i) - 6; omega) (by show 24 * (n - (i + 5)) ≤ 24 * (n - i) - 24; omega))
      | 5, _, ev => exact k285_5 I hsc hn hi b1 b2 ev (fun h2 I2 e2 => At_b (ih (i + 5) h2 (by omega) (by omega) I2 e2) (by show 6 * (n - (i + 5)) ≤ 6 * (n - i) - 6; omega) (by show 24 * (n - (i + 5)) ≤ 24 * (n - i) - 24; omega))
      | 6, _, ev => exact k285_6 I hsc hn hi b1 b2 ev (fun h2 I2 e2 => At_b (ih (i + 5) h2 (by omega) (by omega) I2 e2) (by show 6 * (n - (i + 5)) ≤ 6 * (n - i) - 6; omega) (by show 24 * (n - (i + 5)) ≤ 24 * (n - i) - 24; omega))
      | 7, _, ev => exact k285_7 I hsc hn hi b1 b2 ev (fun h2 I2 e2 => At_b (ih (i + 5) h2 (by omega) (by omega) I2 e2) (by show 6 * (n - (i + 5)) ≤ 6 * (n - i) - 6; omega) (by show 24 * (n - (i + 5)) ≤ 24 * (n - i) - 24; omega))
      | 8, _, ev => exact k285_8 I hsc hn hi b1 b2 ev (fun h2 I2 e2 => At_b (ih (i + 5) h2 (by omega) (by omega) I2 e2) (by show 6 * (n - (i + 5)) ≤ 6 * (n - i) - 6; omega) (by show 24 * (n - (i + 5)) ≤ 24 * (n - i) - 24; omega))
      | 9, _, ev => exact k285_9 I hsc hn hi b1 b2 ev (fun h2 I2 e2 => At_b (ih (i + 5) h2 (by omega) (by omega) I2 e2) (by show 6 * (n - (i + 5)) ≤ 6 * (n - i) - 6; omega) (by show 24 * (n - (i + 5)) ≤ 24 * (n - i) - 24; omega))
      | 10, _, ev => exact k285_10 I hsc hn hi b1 b2 ev (fun h2 I2 e2 => At_b (ih (i + 5) h2 (by omega) (by omega) I2 e2) (by show 6 * (n - (i + 5)) ≤ 6 * (n - i) - 6; omega) (by show 24 * (n - (i + 5)) ≤ 24 * (n - i) - 24; omega))
      | 11, _, ev => exact k285_11 I hsc hn hi b1 b2 ev (fun h2 I2 e2 => At_b (ih (i + 5) h2 (by omega) (by omega) I2 e2) (by show 6 * (n - (i + 5)) ≤ 6 * (n - i) - 6; omega) (by show 24 * (n - (i + 5)) ≤ 24 * (n - i) - 24; omega))
      | 12, _, ev => exact k285_12 I hsc hn hi b1 b2 ev (fun h2 I2 e2 => At_b (ih (i + 5) h2 (by omega) (by omega) I2 e2) (by show 6 * (n - (i + 5)) ≤ 6 * (n - i) - 6; omega) (by show 24 * (n - (i + 5)) ≤ 24 * (n - i) - 24; omega))
      | 13, _, ev => exact k285_13 I hsc hn hi b1 b2 ev (fun h2 I2 e2 => At_b (ih (i + 5) h2 (by omega) (by omega) I2 e2) (by show 6 * (n - (i + 5)) ≤ 6 * (n - i) - 6; omega) (by show 24 * (n - (i + 5)) ≤ 24 * (n - i) - 24; omega))
      | 14, _, ev => exact k285_14 I hsc hn hi b1 b2 ev (fun h2 I2 e2 => At_b (ih (i + 5) h2 (by omega) (by omega) I2 e2) (by show 6 * (n - (i + 5)) ≤ 6 * (n - i) - 6; omega) (by show 24 * (n - (i + 5)) ≤ 24 * (n - i) - 24; omega))
      | 15, _, ev => exact k285_15 I hsc hn hi b1 b2 ev (fun h2 I2 e2 => At_b (ih (i + 5) h2 (by omega) (by omega) I2 e2) (by show 6 * (n - (i + 5)) ≤ 6 * (n - i) - 6; omega) (by show 24 * (n - (i + 5)) ≤ 24 * (n - i) - 24; omega))
      | 16, _, ev => exact k285_16 I hsc hn hi b1 b2 ev (fun h2 I2 e2 => At_b (ih (i + 5) h2 (by omega) (by omega) I2 e2) (by show 6 * (n - (i + 5)) ≤ 6 * (n - i) - 6; omega) (by show 24 * (n - (i + 5)) ≤ 24 * (n - i) - 24; omega))
      | 17, _, ev => exact k285_17 I hsc hn hi b1 b2 ev (fun h2 I2 e2 => At_b (ih (i + 5) h2 (by omega) (by omega) I2 e2) (by show 6 * (n - (i + 5)) ≤ 6 * (n - i) - 6; omega) (by show 24 * (n - (i + 5)) ≤ 24 * (n - i) - 24; omega))
      | 18, _, ev => exact k285_18 I hsc hn hi b1 b2 ev (fun h2 I2 e2 => At_b (ih (i + 5) h2 (by omega) (by omega) I2 e2) (by show 6 * (n - (i + 5)) ≤ 6 * (n - i) - 6; omega) (by show 24 * (n - (i + 5)) ≤ 24 * (n - i) - 24; omega))
      | 19, _, ev => exact k285_19 I hsc hn hi b1 b2 ev (fun h2 I2 e2 => At_b (ih (i + 5) h2 (by omega) (by omega) I2 e2) (by show 6 * (n - (i + 5)) ≤ 6 * (n - i) - 6; omega) (by show 24 * (n - (i + 5)) ≤ 24 * (n - i) - 24; omega))
      | 20, _, ev => exact k285_20 I hsc hn hi b1 b2 ev (fun h2 I2 e2 => At_b (ih (i + 5) h2 (by omega) (by omega) I2 e2) (by show 6 * (n - (i + 5)) ≤ 6 * (n - i) - 6; omega) (by show 24 * (n - (i + 5)) ≤ 24 * (n - i) - 24; omega))
      | 21, _, ev => exact k285_21 I hsc hn hi b1 b2 ev (fun h2 I2 e2 => At_b (ih (i + 5) h2 (by omega) (by omega) I2 e2) (by show 6 * (n - (i + 5)) ≤ 6 * (n - i) - 6; omega) (by show 24 * (n - (i + 5)) ≤ 24 * (n - i) - 24; omega))
      | 22, _, ev => exact k285_22 I hsc hn hi b1 b2 ev (fun h2 I2 e2 => At_b (ih (i + 5) h2 (by omega) (by omega) I2 e2) (by show 6 * (n - (i + 5)) ≤ 6 * (n - i) - 6; omega) (by show 24 * (n - (i + 5)) ≤ 24 * (n - i) - 24; omega))
      | 23, _, ev => exact k285_23 I hsc hn hi b1 b2 ev (fun h2 I2 e2 => At_b (ih (i + 5) h2 (by omega) (by omega) I2 e2) (by show 6 * (n - (i + 5)) ≤ 6 * (n - i) - 6; omega) (by show 24 * (n - (i + 5)) ≤ 24 * (n - i) - 24; omega))
      | 24, _, ev => exact k285_24 I hsc hn hi b1 b2 ev (fun h2 I2 e2 => At_b (ih (i + 5) h2 (by omega) (by omega) I2 e2) (by show 6 * (n - (i + 5)) ≤ 6 * (n - i) - 6; omega) (by show 24 * (n - (i + 5)) ≤ 24 * (n - i) - 24; omega))
      | 25, _, ev => exact k285_25 I hsc hn hi b1 b2 ev (fun h2 I2 e2 => At_b (ih (i + 5) h2 (by omega) (by omega) I2 e2) (by show 6 * (n - (i + 5)) ≤ 6 * (n - i) - 6; omega) (by show 24 * (n - (i + 5)) ≤ 24 * (n - i) - 24; omega))
      | 26, _, ev => exact k285_26 I hsc hn hi b1 b2 ev (fun h2 I2 e2 => At_b (ih (i + 5) h2 (by omega) (by omega) I2 e2) (by show 6 * (n - (i + 5)) ≤ 6 * (n - i) - 6; omega) (by show 24 * (n - (i + 5)) ≤ 24 * (n - i) - 24; omega))
      | 27, _, ev => exact k285_27 I hsc hn hi b1 b2 ev (fun h2 I2 e2 => At_b (ih (i + 5) h2 (by omega) (by omega) I2 e2) (by show 6 * (n - (i + 5)) ≤ 6 * (n - i) - 6; omega) (by show 24 * (n - (i + 5)) ≤ 24 * (n - i) - 24; omega))
      | 28, _, ev => exact k285_28 I hsc hn hi b1 b2 ev (fun h2 I2 e2 => At_b (ih (i + 5) h2 (by omega) (by omega) I2 e2) (by show 6 * (n - (i + 5)) ≤ 6 * (n - i) - 6; omega) (by show 24 * (n - (i + 5)) ≤ 24 * (n - i) - 24; omega))
      | 29, _, ev => exact k285_29 I hsc hn hi b1 b2 ev (fun h2 I2 e2 => At_b (ih (i + 5) h2 (by omega) (by omega) I2 e2) (by show 6 * (n - (i + 5)) ≤ 6 * (n - i) - 6; omega) (by show 24 * (n - (i + 5)) ≤ 24 * (n - i) - 24; omega))
      | 30, _, ev => exact k285_30 I hsc hn hi b1 b2 ev (fun h2 I2 e2 => At_b (ih (i + 5) h2 (by omega) (by omega) I2 e2) (by show 6 * (n - (i + 5)) ≤ 6 * (n - i) - 6; omega) (by show 24 * (n - (i + 5)) ≤ 24 * (n - i) - 24; omega))
      | 31, _, ev => exact k285_31 I hsc hn hi b1 b2 ev (fun h2 I2 e2 => At_b (ih (i + 5) h2 (by omega) (by omega) I2 e2) (by show 6 * (n - (i + 5)) ≤ 6 * (n - i) - 6; omega) (by show 24 * (n - (i + 5)) ≤ 24 * (n - i) - 24; omega))
      | 32, _, ev => exact k285_32 I hsc hn hi b1 b2 ev (fun h2 I2 e2 => At_b (ih (i + 5) h2 (by omega) (by omega) I2 e2) (by show 6 * (n - (i + 5)) ≤ 6 * (n - i) - 6; omega) (by show 24 * (n - (i + 5)) ≤ 24 * (n - i) - 24; omega))
      | 33, _, ev => exact k285_33 I hsc hn hi b1 b2 ev (fun h2 I2 e2 => At_b (ih (i + 5) h2 (by omega) (by omega) I2 e2) (by show 6 * (n - (i + 5)) ≤ 6 * (n - i) - 6; omega) (by show 24 * (n - (i + 5)) ≤ 24 * (n - i) - 24; omega))
      | 34, _, ev => exact k285_34 I hsc hn hi b1 b2 ev (fun h2 I2 e2 => At_b (ih (i + 5) h2 (by omega) (by omega) I2 e2) (by show 6 * (n - (i + 5)) ≤ 6 * (n - i) - 6; omega) (by show 24 * (n - (i + 5)) ≤ 24 * (n - i) - 24; omega))
      | 35, _, ev => exact k285_35 I hsc hn hi b1 b2 ev (fun h2 I2 e2 => At_b (ih (i + 5) h2 (by omega) (by omega) I2 e2) (by show 6 * (n - (i + 5)) ≤ 6 * (n - i) - 6; omega) (by show 24 * (n - (i + 5)) ≤ 24 * (n - i) - 24; omega))
      | 36, _, ev => exact k285_36 I hsc hn hi b1 b2 ev (fun h2 I2 e2 => At_b (ih (i + 5) h2 (by omega) (by omega) I2 e2) (by show 6 * (n - (i + 5)) ≤ 6 * (n - i) - 6; omega) (by show 24 * (n - (i + 5)) ≤ 24 * (n - i) - 24; omega))
      | 37, _, ev => exact k285_37 I hsc hn hi b1 b2 ev (fun h2 I2 e2 => At_b (ih (i + 5) h2 (by omega) (by omega) I2 e2) (by show 6 * (n - (i + 5)) ≤ 6 * (n - i) - 6; omega) (by show 24 * (n - (i + 5)) ≤ 24 * (n - i) - 24; omega))
      | 38, _, ev => exact k285_38 I hsc hn hi b1 b2 ev (fun h2 I2 e2 => At_b (ih (i + 5) h2 (by omega) (by omega) I2 e2) (by show 6 * (n - (i + 5)) ≤ 6 * (n - i) - 6; omega) (by show 24 * (n - (i + 5)) ≤ 24 * (n - i) - 24; omega))
      | 39, _, ev => exact k285_39 I hsc hn hi b1 b2 ev (fun h2 I2 e2 => At_b (ih (i + 5) h2 (by omega) (by omega) I2 e2) (by show 6 * (n - (i + 5)) ≤ 6 * (n - i) - 6; omega) (by show 24 * (n - (i + 5)) ≤ 24 * (n - i) - 24; omega))
      | 40, _, ev => exact k285_40 I hsc hn hi b1 b2 ev (fun h2 I2 e2 => At_b (ih (i + 5) h2 (by omega) (by omega) I2 e2) (by show 6 * (n - (i + 5)) ≤ 6 * (n - i) - 6; omega) (by show 24 * (n - (i + 5)) ≤ 24 * (n - i) - 24; omega))
      | 41, _, ev => exact k285_41 I hsc hn hi b1 b2 ev (fun h2 I2 e2 => At_b (ih (i + 5) h2 (by omega) (by omega) I2 e2) (by show 6 * (n - (i + 5)) ≤ 6 * (n - i) - 6; omega) (by show 24 * (n - (i + 5)) ≤ 24 * (n - i) - 24; omega))
      | v + 42, v64, ev => exact k285_d hsc hn hi (by omega) v64 ev (At_b (ih (i + 5) h (by omega) (by omega) I hsc) (by show 6 * (n - (i + 5)) ≤ 6 * (n - i); omega) (by show 24 * (n - (i + 5)) ≤ 24 * (n - i); omega))
    · exact X i h hi il hsc
theorem m285 {Q : ma_Q} {n : Nat} {g : Nat → Int32} (hn : n ≤ 320) (kE : ∀ h, Q (some (.int 1)) h) : At 285 Q 0 (600000, 7302250) [some (.retAddr 1000), none, none, none] [] (0, (fun _ => ma_no), (n, g)) := by
  have hN11 : ct_N 11 = 18 := rfl
  have hN12 : ct_N 12 = 59 := rfl
  rw [← hl_0]
  refine go 60 (by decide) ?_
  simp only [KX, KY, KZ, KW, KV, Nat.reduceAdd, Nat.reduceSub, Nat.reduceLeDiff, true_and, and_true, true_or, or_true, or_self, reduceCtorEq, if_true, if_false, not_false_eq_true, eq_self, c285e, hl_len, hl_new, fa_len, List.nil_append, List.length_nil, List.length_append, List.length_cons, Nat.zero_add, hN11, hN12]
  refine n102 ?_
  refine go 60 (by decide) ?_
  simp only [KX, KY, KZ, KW, KV, Nat.reduceAdd, Nat.reduceSub, Nat.reduceLeDiff, true_and, and_true, true_or, or_true, or_self, reduceCtorEq, if_true, if_false, not_false_eq_true, eq_self, c285e, hl_len, hl_new, fa_len, List.nil_append, List.length_nil, List.length_append, List.length_cons, Nat.zero_add, hN11, hN12]
  refine ma_sc ?_
  refine n161 (pre := faC) ?_
  show At 161 _ 173 (0, 0) [some (.ref 80), none, none, none, none, none] [] (HL (n, g) (faC ++ moC 80))
  refine e161 sh0 (fun h1 S1 R1 n1 fr bg => ?_)
  intro e1
  refine go 60 (by decide) ?_
  simp only [KX, KY, KZ, KW, KV, Nat.reduceAdd, Nat.reduceSub, Nat.reduceLeDiff, true_and, and_true, true_or, or_true, or_self, reduceCtorEq, if_true, if_false, not_false_eq_true, eq_self, c285e, hl_len, hl_new, fa_len, List.nil_append, List.length_nil, List.length_append, List.length_cons, Nat.zero_add, hN11, hN12]
  exact At_b (l285 hn kE n 0 h1 (by omega) (by omega) (inv0 S1 R1 fr bg) e1) (by show 6 * (n - 0) ≤ _; omega) (by show 24 * (n - 0) ≤ _; omega)
