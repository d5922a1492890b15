/-! ways: the Model -/
theorem nI_div {a b : Nat} (ha : a < 2 ^ 31) (hb : b < 2 ^ 31) : nI a / nI b = nI (a / b) := (Int32.ofNat_div ha hb).symm
theorem nI_rem {a b : Nat} (ha : a < 2 ^ 31) (hb : b < 2 ^ 31) : nI a - nI a / nI b * nI b = nI (a % b) := by
  rw [nI_div ha hb, nI_mul, show a % b = a - a / b * b from Nat.eq_sub_of_add_eq (Nat.mod_add_div' a b)]
  exact (Int32.ofNat_sub a (a / b * b) (Nat.div_mul_le_self a b)).symm
def nby (b : Nat) : Nat := if b ≤ 1 then 1 else b / 6
def VD (gc : Nat) : Nat → Nat → Nat → Bool
  | 0, _, _ => true
  | m + 1, b, left => decide (left / b < gc) && VD gc m (nby b) (left % b)
def fw (gc : Nat) : Nat → Nat → Nat → Nat → Nat
  | 0, _, _, w => w
  | m + 1, b, left, w => fw gc m (nby b) (left % b) (w * gc + 1 + left / b)
def by0 (n : Nat) : Nat := if n = 3 then 36 else if n = 2 then 6 else 1
def AG (gc : Nat) : Nat → Nat → Bool
  | 0, _ => true
  | m + 1, left => decide (left % 6 < gc) && AG gc m (left / 6)
theorem AG_VD : ∀ gc, gc < 7 → ∀ n, n < 4 → ∀ code, code < 6 ^ n → AG gc n code = VD gc n (by0 n) code := by decide +kernel
def lk (S F : Bs) : Nat → Bool
  | 0 => true
  | n + 1 => lk S F n && (S n == F n)
theorem lk_false {S F : Bs} {c : Nat} (e : S c ≠ F c) : ∀ n, c < n → lk S F n = false
  | n + 1, h => by
    show (lk S F n && (S n == F n)) = false
    by_cases z : c = n
    · subst z
      rw [show (S c == F c) = false from beq_eq_false_iff_ne.mpr e, Bool.and_false]
    · rw [lk_false e n (by omega), Bool.false_and]
theorem lk_true {S F : Bs} : ∀ n, (∀ c, c < n → S c = F c) → lk S F n = true
  | 0, _ => rfl
  | n + 1, h => by
    show (lk S F n && (S n == F n)) = true
    rw [lk_true n (fun c hc => h c (by omega)), h n (by omega), Bool.true_and]
    exact beq_self_eq_true _
theorem lk_of {S F : Bs} : ∀ n, lk S F n = true → ∀ c, c < n → S c = F c := by
  intro n h c hc
  rcases Decidable.em (S c = F c) with e | e
  · exact e
  · rw [lk_false e n hc] at h
    exact absurd h (by decide)
def tdF : Nat → Int32 → Nat → Int32
  | 0, v, _ => v
  | k + 1, v, left => tdF k (v ||| nI (left % 6) <<< ((3 * nI k) &&& 31)) (left / 6)
/-- a lent row -/
def LR (hh : ma_H) (k : Nat) (S : Bs) : Prop := ∀ c, c < 91 → ai hh 88 (91 * (4 + k) + c) = if S c then 0 else -1
def ML (h1 : ma_H) (hh : ma_H) : Prop := Sh hh ∧ hh.1 = h1.1 ∧ (∀ a, a ≠ 88 → a ≠ 102 → a ≠ 103 → hh.2.1 a = h1.2.1 a) ∧ ∀ j, j < 364 → ai hh 88 j = ai h1 88 j
theorem Pn_le {gc k : Nat} (hk : k < 3) {w : Nat} (h : w < Pn gc k) : w < Pn gc 2 := by
  match k, hk with
  | 0, _ =>
    have h : w < 1 := h
    show w < 1 + gc * (1 + gc * 1)
    omega
  | 1, _ =>
    have h : w < 1 + gc * 1 := h
    show w < 1 + gc * (1 + gc * 1)
    have := Nat.mul_le_mul (Nat.le_refl gc) (show 1 ≤ 1 + gc * 1 by omega)
    omega
  | 2, _ => exact h
theorem Pn_child {gc k w d : Nat} (h : w < Pn gc k) (hd : d < gc) : w * gc + 1 + d < Pn gc (k + 1) := by
  show w * gc + 1 + d < 1 + gc * Pn gc k
  have := Nat.mul_le_mul (Nat.le_refl gc) (show w + 1 ≤ Pn gc k by omega)
  rw [Nat.mul_succ, Nat.mul_comm gc w] at this
  omega
theorem s232 {h : ma_H} {Q : ma_Q} {m : Nat} (k : Q (some (.int (nI (91 * (4 + m))))) h) : ma_X 232 [.int (nI m)] h Q := by
  refine ma_enter (m := 232) (Or.inl (by decide)) (by show 1 ≤ mt_n 232; decide +kernel) ?_
  show At 232 Q 0 (mt_c 232) [some (.int (nI m))] [] h
  refine go 60 (by decide) ?_
  simp only [KX, KY, KZ, KW, KV, Nat.reduceAdd, Nat.reduceSub, Nat.reduceLeDiff, true_and, and_true, true_or, or_true, or_self, reduceCtorEq, if_true, if_false, not_false_eq_true, eq_self, c232]
  rw [show (4 : Int32) + nI m = nI (4 + m) from nI_add 4 m, show (91 : Int32) * nI (4 + m) = nI (91 * (4 + m)) from nI_mul 91 (4 + m)]
  exact k
theorem s235_0 {h : ma_H} {Q : ma_Q} (k : Q (some (.int (nI 1))) h) : ma_X 235 [.int (nI 0)] h Q := by
  refine ma_enter (m := 235) (Or.inl (by decide)) (by show 1 ≤ mt_n 235; decide +kernel) ?_
  show At 235 Q 0 (mt_c 235) [some (.int (nI 0))] [] h
  refine go 60 (by decide) ?_
  simp only [KX, KY, KZ, KW, KV, Nat.reduceAdd, Nat.reduceSub, Nat.reduceLeDiff, true_and, and_true, true_or, or_true, or_self, reduceCtorEq, if_true, if_false, not_false_eq_true, eq_self, c235, show (nI 0 = 0) = True from by decide, show (nI 0 = 1) = False from by decide, show (nI 0 = 2) = False from by decide, show (nI 0 = 3) = False from by decide]
  exact k
theorem s235_1 {h : ma_H} {Q : ma_Q} (k : Q (some (.int (nI 6))) h) : ma_X 235 [.int (nI 1)] h Q := by
  refine ma_enter (m := 235) (Or.inl (by decide)) (by show 1 ≤ mt_n 235; decide +kernel) ?_
  show At 235 Q 0 (mt_c 235) [some (.int (nI 1))] [] h
  refine go 60 (by decide) ?_
  simp only [KX, KY, KZ, KW, KV, Nat.reduceAdd, Nat.reduceSub, Nat.reduceLeDiff, true_and, and_true, true_or, or_true, or_self, reduceCtorEq, if_true, if_false, not_false_eq_true, eq_self, c235, show (nI 1 = 0) = False from by decide, show (nI 1 = 1) = True from by decide, show (nI 1 = 2) = False from by decide, show (nI 1 = 3) = False from by decide]
  exact k
theorem s235_2 {h : ma_H} {Q : ma_Q} (k : Q (some (.int (nI 36))) h) : ma_X 235 [.int (nI 2)] h Q := by
  refine ma_enter (m := 235) (Or.inl (by decide)) (by show 1 ≤ mt_n 235; decide +kernel) ?_
  show At 235 Q 0 (mt_c 235) [some (.int (nI 2))] [] h
  refine go 60 (by decide) ?_
  simp only [KX, KY, KZ, KW, KV, Nat.reduceAdd, Nat.reduceSub, Nat.reduceLeDiff, true_and, and_true, true_or, or_true, or_self, reduceCtorEq, if_true, if_false, not_false_eq_true, eq_self, c235, show (nI 2 = 0) = False from by decide, show (nI 2 = 1) = False from by decide, show (nI 2 = 2) = True from by decide, show (nI 2 = 3) = False from by decide]
  exact k
theorem s235_3 {h : ma_H} {Q : ma_Q} (k : Q (some (.int (nI 216))) h) : ma_X 235 [.int (nI 3)] h Q := by
  refine ma_enter (m := 235) (Or.inl (by decide)) (by show 1 ≤ mt_n 235; decide +kernel) ?_
  show At 235 Q 0 (mt_c 235) [some (.int (nI 3))] [] h
  refine go 60 (by decide) ?_
  simp only [KX, KY, KZ, KW, KV, Nat.reduceAdd, Nat.reduceSub, Nat.reduceLeDiff, true_and, and_true, true_or, or_true, or_self, reduceCtorEq, if_true, if_false, not_false_eq_true, eq_self, c235, show (nI 3 = 0) = False from by decide, show (nI 3 = 1) = False from by decide, show (nI 3 = 2) = False from by decide, show (nI 3 = 3) = True from by decide]
  exact k
theorem s235 {h : ma_H} {Q : ma_Q} {n : Nat} (hn : n < 4) (k : Q (some (.int (nI (6 ^ n)))) h) : ma_X 235 [.int (nI n)] h Q := by
  match n, hn with
  | 0, _ => exact s235_0 k
  | 1, _ => exact s235_1 k
  | 2, _ => exact s235_2 k
  | 3, _ => exact s235_3 k
theorem s236 {h : ma_H} {Q : ma_Q} {gc n code : Nat} (H : Sh h) (e9 : fi h 80 9 = nI gc) (g6 : gc ≤ 6) (hn : n < 4) (hc : code < 216) (k : Q (some (.int (bI (AG gc n code)))) h) : ma_X 236 [.ref 80, .int (nI n), .int (nI code)] h Q := by
  have lp : ∀ m i left, i + m = n → left < 216 → Q (some (.int (bI (AG gc m left)))) h → At 236 Q 4 (0, 0) [some (.ref 80), some (.int (nI n)), some (.int (nI code)), some (.int (nI left)), some (.int (nI i))] [] h := by
    intro m
    induction m with
    | zero =>
      intro i left ei hl kq
      obtain rfl : i = n := by omega
      refine go 60 (by decide) ?_
      simp only [KX, KY, KZ, KW, KV, Nat.reduceAdd, Nat.reduceSub, Nat.reduceLeDiff, true_and, and_true, true_or, or_true, or_self, reduceCtorEq, if_true, if_false, not_false_eq_true, eq_self, c236]
      rw [if_neg (nI_nlt (Nat.le_refl _) (by omega))]
      rw [show bI (AG gc 0 left) = 1 from rfl] at kq
      exact kq
    | succ m ih =>
      intro i left ei hl kq
      have lm := Nat.mod_lt left (show 6 > 0 by decide)
      refine go 60 (by decide) ?_
      simp only [KX, KY, KZ, KW, KV, Nat.reduceAdd, Nat.reduceSub, Nat.reduceLeDiff, true_and, and_true, true_or, or_true, or_self, reduceCtorEq, if_true, if_false, not_false_eq_true, eq_self, c236, H.e80, e9]
      rw [if_pos (nI_lt (show i < n by omega) (by omega)), show nI left - nI left / 6 * 6 = nI (left % 6) from nI_rem (b := 6) (by omega) (by decide), show nI left / 6 = nI (left / 6) from nI_div (b := 6) (by omega) (by decide), nI_1 i]
      by_cases c : left % 6 < gc
      · rw [show AG gc (m + 1) left = AG gc m (left / 6) by show (decide (left % 6 < gc) && AG gc m (left / 6)) = _; rw [decide_eq_true c, Bool.true_and]] at kq
        rw [if_pos (nI_lt c (by omega))]
        first
          | exact ih (i + 1) (left / 6) (by omega) (by omega) kq
          | exact ⟨by decide, ih (i + 1) (left / 6) (by omega) (by omega) kq⟩
      · rw [show AG gc (m + 1) left = false by show (decide (left % 6 < gc) && AG gc m (left / 6)) = _; rw [decide_eq_false c, Bool.false_and]] at kq
        rw [if_neg (nI_nlt (by omega) (by omega))]
        first
          | exact kq
          | exact ⟨Or.inl rfl, kq⟩
  refine ma_enter (m := 236) (Or.inl (by decide)) (by show 3 ≤ mt_n 236; decide +kernel) ?_
  show At 236 Q 0 (mt_c 236) [some (.ref 80), some (.int (nI n)), some (.int (nI code)), none, none] [] h
  refine go 60 (by decide) ?_
  simp only [KX, KY, KZ, KW, KV, Nat.reduceAdd, Nat.reduceSub, Nat.reduceLeDiff, true_and, and_true, true_or, or_true, or_self, reduceCtorEq, if_true, if_false, not_false_eq_true, eq_self, c236]
  exact lp n 0 code (by omega) hc k
theorem s238 {h : ma_H} {Q : ma_Q} {n code : Nat} (hn : n < 4) (hc : code < 216) (k : Q (some (.int (tdF n 0 code))) h) : ma_X 238 [.int (nI n), .int (nI code)] h Q := by
  have lp : ∀ m v left, m < 4 → left < 216 → Q (some (.int (tdF m v left))) h → At 238 Q 8 (0, 0) [some (.int (nI n)), some (.int (nI code)), some (.int v), some (.int (nI left)), some (.int (nI m - 1))] [] h := by
    intro m
    induction m with
    | zero =>
      intro v left hm hl k
      refine go 60 (by decide) ?_
      simp only [KX, KY, KZ, KW, KV, Nat.reduceAdd, Nat.reduceSub, Nat.reduceLeDiff, true_and, and_true, true_or, or_true, or_self, reduceCtorEq, if_true, if_false, not_false_eq_true, eq_self, c238]
      rw [if_pos (show nI 0 - 1 < 0 by decide)]
      exact k
    | succ m ih =>
      intro v left hm hl k
      have k : Q (some (.int (tdF m (v ||| nI (left % 6) <<< ((3 * nI m) &&& 31)) (left / 6)))) h := k
      rw [nI_pred]
      refine go 60 (by decide) ?_
      simp only [KX, KY, KZ, KW, KV, Nat.reduceAdd, Nat.reduceSub, Nat.reduceLeDiff, true_and, and_true, true_or, or_true, or_self, reduceCtorEq, if_true, if_false, not_false_eq_true, eq_self, c238]
      rw [if_neg (nI_pos (show m < 2 ^ 31 by omega)), show nI left - nI left / 6 * 6 = nI (left % 6) from nI_rem (b := 6) (by omega) (by decide), show nI left / 6 = nI (left / 6) from nI_div (b := 6) (by omega) (by decide)]
      have ih2 := ih _ (left / 6) (by omega) (by omega) k
      rw [show nI m - 1 = nI m + -1 from Int32.sub_eq_add_neg _ _] at ih2
      first
        | exact ih2
        | exact ⟨by decide, ih2⟩
        | exact ⟨by decide, by decide, ih2⟩
  refine ma_enter (m := 238) (Or.inl (by decide)) (by show 2 ≤ mt_n 238; decide +kernel) ?_
  show At 238 Q 0 (mt_c 238) [some (.int (nI n)), some (.int (nI code)), none, none, none] [] h
  refine go 60 (by decide) ?_
  simp only [KX, KY, KZ, KW, KV, Nat.reduceAdd, Nat.reduceSub, Nat.reduceLeDiff, true_and, and_true, true_or, or_true, or_self, reduceCtorEq, if_true, if_false, not_false_eq_true, eq_self, c238]
  exact lp n 0 code hn hc k
theorem s237 {h : ma_H} {Q : ma_Q} {A B : Nat} {S F : Bs} (H : Sh h) (hA : A + 91 ≤ 910) (hB : B + 91 ≤ 910) (eA : ∀ c, c < 91 → ai h 88 (A + c) = if S c then 0 else -1) (eB : ∀ c, c < 91 → F c = !decide (ai h 88 (B + c) < 0)) (k : Q (some (.int (bI (lk S F 91)))) h) : ma_X 237 [.ref 80, .int (nI A), .int (nI B)] h Q := by
  have lp : ∀ d c, c + d = 91 → (∀ x, x < c → S x = F x) → At 237 Q 2 (0, 0) [some (.ref 80), some (.int (nI A)), some (.int (nI B)), some (.int (nI c))] [] h := by
    intro d
    induction d with
    | zero =>
      intro c ec w
      obtain rfl : c = 91 := by omega
      rw [lk_true 91 w] at k
      refine go 60 (by decide) ?_
      simp only [KX, KY, KZ, KW, KV, Nat.reduceAdd, Nat.reduceSub, Nat.reduceLeDiff, true_and, and_true, true_or, or_true, or_self, reduceCtorEq, if_true, if_false, not_false_eq_true, eq_self, c237]
      rw [if_neg (show ¬ nI 91 < (91 : Int32) from nI_nlt (Nat.le_refl _) (by decide))]
      first
        | exact k
        | exact ⟨Or.inr rfl, k⟩
    | succ d ih =>
      intro c ec w
      have hc : c < 91 := by omega
      have xA : fl_has (ai h 88) (A + c) = bI (S c) := by
        unfold fl_has
        rw [eA c hc]
        cases S c <;> decide
      have xB : fl_has (ai h 88) (B + c) = bI (F c) := by
        unfold fl_has
        rw [eB c hc]
        by_cases z : ai h 88 (B + c) < 0
        · rw [if_pos z, decide_eq_true z]
          rfl
        · rw [if_neg z, decide_eq_false z]
          rfl
      refine go 60 (by decide) ?_
      simp only [KX, KY, KZ, KW, KV, Nat.reduceAdd, Nat.reduceSub, Nat.reduceLeDiff, true_and, and_true, true_or, or_true, or_self, reduceCtorEq, if_true, if_false, not_false_eq_true, eq_self, c237, H.e80]
      rw [if_pos (show nI c < (91 : Int32) from nI_lt hc (by decide))]
      refine s172 (A := A) H.e80 rfl H.e88 (by omega) ?_
      rw [xA]
      refine go 60 (by decide) ?_
      simp only [KX, KY, KZ, KW, KV, Nat.reduceAdd, Nat.reduceSub, Nat.reduceLeDiff, true_and, and_true, true_or, or_true, or_self, reduceCtorEq, if_true, if_false, not_false_eq_true, eq_self, c237, H.e80]
      refine s172 (A := B) H.e80 rfl H.e88 (by omega) ?_
      rw [xB]
      refine go 60 (by decide) ?_
      simp only [KX, KY, KZ, KW, KV, Nat.reduceAdd, Nat.reduceSub, Nat.reduceLeDiff, true_and, and_true, true_or, or_true, or_self, reduceCtorEq, if_true, if_false, not_false_eq_true, eq_self, c237]
      by_cases z : S c = F c
      · rw [if_pos (show bI (S c) = bI (F c) by rw [z]), nI_1 c]
        refine ih (c + 1) (by omega) (fun x hx => ?_)
        rcases Nat.lt_or_ge x c with y | y
        · exact w x y
        · obtain rfl : x = c := by omega
          exact z
      · rw [lk_false z 91 hc] at k
        rw [if_neg (show ¬ bI (S c) = bI (F c) by intro e; apply z; cases h1 : S c <;> cases h2 : F c <;> rw [h1, h2] at e <;> first | rfl | exact absurd e (by decide))]
        first
          | exact k
          | exact ⟨Or.inl rfl, k⟩
  refine ma_enter (m := 237) (Or.inl (by decide)) (by show 3 ≤ mt_n 237; decide +kernel) ?_
  show At 237 Q 0 (mt_c 237) [some (.ref 80), some (.int (nI A)), some (.int (nI B)), none] [] h
  refine go 60 (by decide) ?_
  simp only [KX, KY, KZ, KW, KV, Nat.reduceAdd, Nat.reduceSub, Nat.reduceLeDiff, true_and, and_true, true_or, or_true, or_self, reduceCtorEq, if_true, if_false, not_false_eq_true, eq_self, c237]
  exact lp 91 0 rfl (fun x hx => absurd hx (Nat.not_lt_zero x))
