/-! ways: CELLS as bits -/
abbrev Bs : Type := Nat → Bool
/-- a FLAKE of these CELLS -/
def cS (S : Bs) (p : Nat) : Int32 := if cix p < 91 then if S (cix p) then 0 else -1 else -2
theorem cix_p : ∀ p, p < 169 → cix p < 91 → p = ma_cell (cix p) := by decide +kernel
theorem cS_cell (S : Bs) {c : Nat} (hc : c < 91) : cS S (ma_cell c) = if S c then 0 else -1 := by
  unfold cS
  rw [cix_cell c hc, if_pos hc]
theorem cS_out (S : Bs) {p : Nat} (hp : p < 169) (w : ∀ i, i < 91 → p ≠ ma_cell i) : cS S p = -2 := by
  unfold cS
  rw [if_neg (fun z => w _ z (cix_p p hp z))]
theorem cS_ok (S : Bs) : fl_ok (cS S) := ⟨fun i hi => by
  rw [cS_cell S hi]
  split <;> decide, fun q hq w => cS_out S hq w⟩
def hS (g : Nat → Int32) : Bs := fun c => !decide (g (ma_cell c) < 0)
theorem hS_cS (S : Bs) {c : Nat} (hc : c < 91) : hS (cS S) c = S c := by
  unfold hS
  rw [cS_cell S hc]
  cases S c <;> decide
theorem fl_has_c {g g2 : Nat → Int32} {p : Nat} (e : g p = g2 p) : fl_has g p = fl_has g2 p := by
  unfold fl_has
  rw [e]
theorem fz_c {g g2 : Nat → Int32} (e : ∀ p, p < 169 → g p = g2 p) (kk : Nat) (a : Int32) {c : Nat} (hc : c < 91) : fz g kk a c = fz g2 kk a c := by
  unfold fz
  rw [e _ (cell_lt c hc).1, su_congr (f := fl_beside g c) (f2 := fl_beside g2 c) 6 (fun j hj => fl_has_c (e _ (fl_nb_ok c hc j hj).2)), fl_has_c (e _ (fl_nb_ok c hc 0 (by decide)).2), fl_has_c (e _ (fl_nb_ok c hc 3 (by decide)).2)]
def gS (kk : Nat) (a : Int32) (S : Bs) : Bs := fun c => !decide (fz (cS S) kk a c = 0)
def ob (n : Nat) : Int64 := lN 1 <<< ((nI n).toInt64 &&& 63)
def bt (S : Bs) (off : Nat) : Nat → Int64
  | 0 => lN 0
  | n + 1 => bt S off n ||| (if S (off + n) then ob n else lN 0)
theorem ob_bv : ∀ n, n < 64 → (ob n).toBitVec = 1#64 <<< n := by decide +kernel
theorem ob_bit {n j : Nat} (hn : n < 64) : (ob n).toBitVec.getLsbD j = decide (j = n) := by
  rw [ob_bv n hn, BitVec.getLsbD_shiftLeft, BitVec.getLsbD_one]
  by_cases c : j = n
  · subst c
    simp [hn]
  · by_cases d : j < n
    · simp [c, d]
    · have e : ¬ j - n = 0 := by omega
      simp [c, e]
theorem bt_bit (S : Bs) (off : Nat) : ∀ n, n ≤ 64 → ∀ j, (bt S off n).toBitVec.getLsbD j = (decide (j < n) && S (off + j))
  | 0, _, j => by
    show (0#64).getLsbD j = _
    simp
  | n + 1, hn, j => by
    show (bt S off n ||| (if S (off + n) then ob n else lN 0)).toBitVec.getLsbD j = _
    rw [Int64.toBitVec_or, BitVec.getLsbD_or, bt_bit S off n (by omega) j]
    have e : (if S (off + n) then ob n else lN 0).toBitVec.getLsbD j = (S (off + n) && decide (j = n)) := by
      cases S (off + n)
      · show (0#64).getLsbD j = _
        simp
      · show (ob n).toBitVec.getLsbD j = _
        rw [ob_bit (by omega), Bool.true_and]
    rw [e]
    by_cases c : j = n
    · subst c
      simp
    · by_cases d : j < n
      · have d2 : j < n + 1 := by omega
        simp [c, d, d2]
      · have d2 : ¬ j < n + 1 := by omega
        simp [c, d, d2]
theorem l_ext {x y : Int64} (h : ∀ j, j < 64 → x.toBitVec.getLsbD j = y.toBitVec.getLsbD j) : x = y := Int64.toBitVec_inj.mp (BitVec.eq_of_getLsbD_eq h)
theorem bt_eq {S T : Bs} {off n : Nat} (hn : n ≤ 64) : bt S off n = bt T off n ↔ ∀ j, j < n → S (off + j) = T (off + j) := by
  constructor
  · intro e j hj
    have e2 := congrArg (fun x => x.toBitVec.getLsbD j) e
    simp only [bt_bit _ _ _ hn, decide_eq_true hj, Bool.true_and] at e2
    exact e2
  · intro e
    refine l_ext fun j _ => ?_
    rw [bt_bit _ _ _ hn, bt_bit _ _ _ hn]
    by_cases c : j < n
    · rw [e j c]
    · rw [decide_eq_false c, Bool.false_and, Bool.false_and]
theorem bt_or (S T : Bs) {off n : Nat} (hn : n ≤ 64) : bt S off n ||| bt T off n = bt (fun c => S c || T c) off n := by
  refine l_ext fun j _ => ?_
  rw [Int64.toBitVec_or, BitVec.getLsbD_or, bt_bit _ _ _ hn, bt_bit _ _ _ hn, bt_bit _ _ _ hn]
  cases decide (j < n) <;> rfl
theorem lus_t : ∀ j, j < 64 → (((nI j).toInt64.toUInt64 &&& Int64.toUInt64 63) % 64).toBitVec.toNat = j := by decide +kernel
theorem lus (x : Int64) {j : Nat} (hj : j < 64) : ((x.toUInt64 >>> ((nI j).toInt64.toUInt64 &&& Int64.toUInt64 63)).toInt64).toBitVec = x.toBitVec >>> j := congrArg (fun n => x.toBitVec >>> n) (lus_t j hj)
theorem lus_1 (x : Int64) {j : Nat} (hj : j < 64) : ((x.toUInt64 >>> ((nI j).toInt64.toUInt64 &&& Int64.toUInt64 63)).toInt64 &&& lN 1 = lN 1) ↔ x.toBitVec.getLsbD j = true := by
  rw [← Int64.toBitVec_inj, Int64.toBitVec_and, lus x hj]
  show (x.toBitVec >>> j &&& 1#64 = 1#64) ↔ _
  rw [bv_1 (by decide), BitVec.getLsbD_ushiftRight, Nat.add_zero]
theorem an63 : ∀ i, i < 91 → nI i &&& 63 = nI (i % 64) := by decide +kernel
def fl_tb (g : Nat → Int32) (S : Bs) : Nat → Nat → Int32
  | 0 => g
  | n + 1 => upd (fl_tb g S n) (ma_cell n) (if S n then 0 else -1)
theorem fl_tb_ne {g : Nat → Int32} {S : Bs} {j : Nat} (e : g j ≠ -2) : ∀ n, fl_tb g S n j ≠ -2
  | 0 => e
  | n + 1 => by
    show upd (fl_tb g S n) (ma_cell n) (if S n then 0 else -1) j ≠ -2
    unfold upd
    split
    · split <;> decide
    · exact fl_tb_ne e n
theorem fl_tb_lo {g : Nat → Int32} {S : Bs} {i : Nat} (hi : i < 91) : ∀ n, n ≤ 91 → i < n → fl_tb g S n (ma_cell i) = if S i then 0 else -1
  | n + 1, hn, h => by
    show upd (fl_tb g S n) (ma_cell n) (if S n then 0 else -1) (ma_cell i) = _
    rw [upd_cell (by omega) hi]
    by_cases c : i = n
    · subst c
      rw [if_pos rfl]
    · rw [if_neg c]
      exact fl_tb_lo hi n (by omega) (by omega)
theorem fl_tb_out {g : Nat → Int32} {S : Bs} {q : Nat} (w : ∀ i, i < 91 → q ≠ ma_cell i) : ∀ n, n ≤ 91 → fl_tb g S n q = g q
  | 0, _ => rfl
  | n + 1, hn => by
    show upd (fl_tb g S n) (ma_cell n) (if S n then 0 else -1) q = _
    unfold upd
    rw [if_neg (w n (by omega))]
    exact fl_tb_out w n (by omega)
theorem fl_tb_cS {g : Nat → Int32} {S : Bs} (ok : fl_ok g) : ∀ p, p < 169 → fl_tb g S 91 p = cS S p := by
  intro p hp
  by_cases c : cix p < 91
  · have e := cix_p p hp c
    rw [e, fl_tb_lo c 91 (Nat.le_refl _) c, cS_cell S c]
  · have w : ∀ i, i < 91 → p ≠ ma_cell i := fun i hi e => c (by rw [e, cix_cell i hi]; exact hi)
    rw [fl_tb_out w 91 (Nat.le_refl _), ok.2 p hp w, cS_out S hp w]
theorem fl_tb_ok {g : Nat → Int32} {S : Bs} (ok : fl_ok g) : fl_ok (fl_tb g S 91) := ⟨fun i hi => fl_tb_ne (ok.1 i hi) 91, fun q hq w => (fl_tb_out w 91 (Nat.le_refl _)).trans (ok.2 q hq w)⟩
theorem s36_0 {h : ma_H} {Q : ma_Q} {a s rc : Nat} {mn : Int32} {g : Nat → Int32} (h1 : h.2.1 a = .inr (2, [.int mn, .ref s, .ref rc])) (h2 : h.2.1 s = .inl (.int, 169, .inl g)) (k : Q (some (.long (bt (hS g) 0 64))) h) : ma_X 36 [.ref a, .int 0] h Q := by
  have lp : ∀ d i, i + d = 64 → At 36 Q 6 (0, 0) [some (.ref a), some (.int 0), some (.long (bt (hS g) 0 i)), none, some (.int (nI i))] [] h := by
    intro d
    induction d with
    | zero =>
      intro i e
      obtain rfl : i = 64 := by omega
      refine go 60 (by decide) ?_
      simp only [KX, KY, KZ, KW, KV, Nat.reduceAdd, Nat.reduceSub, Nat.reduceLeDiff, true_and, and_true, true_or, or_true, or_self, reduceCtorEq, if_true, if_false, not_false_eq_true, eq_self, c36, h1, h2, show lN ((1 : Fin 2).val) = lN 1 from rfl, show lN ((0 : Fin 2).val) = lN 0 from rfl, show (0 : Int32) * 64 = 0 from by decide, show (1 : Int32) * 64 = 64 from by decide, show (0 : Int32) + 64 = 64 from by decide, show (64 : Int32) + 64 = 128 from by decide]
      rw [if_pos (nI_lt (a := 64) (b := 91) (by decide) (by decide)), if_neg (show ¬ nI 64 < (64 : Int32) from nI_nlt (Nat.le_refl _) (by decide))]
      exact k
    | succ d ih =>
      intro i e
      have hi : i < 91 := by omega
      refine go 60 (by decide) ?_
      simp only [KX, KY, KZ, KW, KV, Nat.reduceAdd, Nat.reduceSub, Nat.reduceLeDiff, true_and, and_true, true_or, or_true, or_self, reduceCtorEq, if_true, if_false, not_false_eq_true, eq_self, c36, h1, h2, show lN ((1 : Fin 2).val) = lN 1 from rfl, show lN ((0 : Fin 2).val) = lN 0 from rfl, show (0 : Int32) * 64 = 0 from by decide, show (1 : Int32) * 64 = 64 from by decide, show (0 : Int32) + 64 = 64 from by decide, show (64 : Int32) + 64 = 128 from by decide]
      rw [if_pos (nI_lt (a := i) (b := 91) (by omega) (by decide)), if_pos (show nI i < (64 : Int32) from nI_lt (b := 64) (by omega) (by decide))]
      rw [nI_clamp (show i < 2 ^ 31 by omega)]
      refine ⟨nI_in hi (by decide), ?_⟩
      have ih2 := ih (i + 1) (by omega)
      refine s19c h1 h2 hi (fun z => ?_) (fun z => ?_)
      · rw [show bt (hS g) 0 (i + 1) = bt (hS g) 0 i ||| lN 0 by
          show bt (hS g) 0 i ||| (if hS g (0 + i) then ob i else lN 0) = _
          rw [show hS g (0 + i) = false by unfold hS; rw [show 0 + i = i by omega]; simp [z]]
          rfl] at ih2
        refine go 60 (by decide) ?_
        simp only [KX, KY, KZ, KW, KV, Nat.reduceAdd, Nat.reduceSub, Nat.reduceLeDiff, true_and, and_true, true_or, or_true, or_self, reduceCtorEq, if_true, if_false, not_false_eq_true, eq_self, c36, h1, h2, show lN ((1 : Fin 2).val) = lN 1 from rfl, show lN ((0 : Fin 2).val) = lN 0 from rfl, show (0 : Int32) * 64 = 0 from by decide, show (1 : Int32) * 64 = 64 from by decide, show (0 : Int32) + 64 = 64 from by decide, show (64 : Int32) + 64 = 128 from by decide]
        skip
        first
          | (with_reducible show At 36 _ 31 _ _ _ _)
          | (refine go 60 (by decide) ?_; simp only [KX, KY, KZ, KW, KV, Nat.reduceAdd, Nat.reduceSub, Nat.reduceLeDiff, true_and, and_true, true_or, or_true, or_self, reduceCtorEq, if_true, if_false, not_false_eq_true, eq_self, c36, h1, h2, show lN ((1 : Fin 2).val) = lN 1 from rfl, show lN ((0 : Fin 2).val) = lN 0 from rfl, show (0 : Int32) * 64 = 0 from by decide, show (1 : Int32) * 64 = 64 from by decide, show (0 : Int32) + 64 = 64 from by decide, show (64 : Int32) + 64 = 128 from by decide])
        first
          | (with_reducible show At 36 _ 31 _ _ _ _)
          | (refine go 60 (by decide) ?_; simp only [KX, KY, KZ, KW, KV, Nat.reduceAdd, Nat.reduceSub, Nat.reduceLeDiff, true_and, and_true, true_or, or_true, or_self, reduceCtorEq, if_true, if_false, not_false_eq_true, eq_self, c36, h1, h2, show lN ((1 : Fin 2).val) = lN 1 from rfl, show lN ((0 : Fin 2).val) = lN 0 from rfl, show (0 : Int32) * 64 = 0 from by decide, show (1 : Int32) * 64 = 64 from by decide, show (0 : Int32) + 64 = 64 from by decide, show (64 : Int32) + 64 = 128 from by decide])
        first
          | (with_reducible show At 36 _ 31 _ _ _ _)
          | (refine go 60 (by decide) ?_; simp only [KX, KY, KZ, KW, KV, Nat.reduceAdd, Nat.reduceSub, Nat.reduceLeDiff, true_and, and_true, true_or, or_true, or_self, reduceCtorEq, if_true, if_false, not_false_eq_true, eq_self, c36, h1, h2, show lN ((1 : Fin 2).val) = lN 1 from rfl, show lN ((0 : Fin 2).val) = lN 0 from rfl, show (0 : Int32) * 64 = 0 from by decide, show (1 : Int32) * 64 = 64 from by decide, show (0 : Int32) + 64 = 64 from by decide, show (64 : Int32) + 64 = 128 from by decide])
        refine go 60 (by decide) ?_
        simp only [KX, KY, KZ, KW, KV, Nat.reduceAdd, Nat.reduceSub, Nat.reduceLeDiff, true_and, and_true, true_or, or_true, or_self, reduceCtorEq, if_true, if_false, not_false_eq_true, eq_self, c36, h1, h2, show lN ((1 : Fin 2).val) = lN 1 from rfl, show lN ((0 : Fin 2).val) = lN 0 from rfl, show (0 : Int32) * 64 = 0 from by decide, show (1 : Int32) * 64 = 64 from by decide, show (0 : Int32) + 64 = 64 from by decide, show (64 : Int32) + 64 = 128 from by decide]
        rw [show nI i + 1 = nI (i + 1) from nI_1 _]
        exact At_le ih2 ⟨rfl, rfl, rfl, rfl, trivial⟩
      · rw [show bt (hS g) 0 (i + 1) = bt (hS g) 0 i ||| ob i by
          show bt (hS g) 0 i ||| (if hS g (0 + i) then ob i else lN 0) = _
          rw [show hS g (0 + i) = true by unfold hS; rw [show 0 + i = i by omega]; simp [z]]
          rfl] at ih2
        refine go 60 (by decide) ?_
        simp only [KX, KY, KZ, KW, KV, Nat.reduceAdd, Nat.reduceSub, Nat.reduceLeDiff, true_and, and_true, true_or, or_true, or_self, reduceCtorEq, if_true, if_false, not_false_eq_true, eq_self, c36, h1, h2, show lN ((1 : Fin 2).val) = lN 1 from rfl, show lN ((0 : Fin 2).val) = lN 0 from rfl, show (0 : Int32) * 64 = 0 from by decide, show (1 : Int32) * 64 = 64 from by decide, show (0 : Int32) + 64 = 64 from by decide, show (64 : Int32) + 64 = 128 from by decide]
        first
          | (with_reducible show At 36 _ 31 _ _ _ _)
          | (refine go 60 (by decide) ?_; simp only [KX, KY, KZ, KW, KV, Nat.reduceAdd, Nat.reduceSub, Nat.reduceLeDiff, true_and, and_true, true_or, or_true, or_self, reduceCtorEq, if_true, if_false, not_false_eq_true, eq_self, c36, h1, h2, show lN ((1 : Fin 2).val) = lN 1 from rfl, show lN ((0 : Fin 2).val) = lN 0 from rfl, show (0 : Int32) * 64 = 0 from by decide, show (1 : Int32) * 64 = 64 from by decide, show (0 : Int32) + 64 = 64 from by decide, show (64 : Int32) + 64 = 128 from by decide])
        first
          | (with_reducible show At 36 _ 31 _ _ _ _)
          | (refine go 60 (by decide) ?_; simp only [KX, KY, KZ, KW, KV, Nat.reduceAdd, Nat.reduceSub, Nat.reduceLeDiff, true_and, and_true, true_or, or_true, or_self, reduceCtorEq, if_true, if_false, not_false_eq_true, eq_self, c36, h1, h2, show lN ((1 : Fin 2).val) = lN 1 from rfl, show lN ((0 : Fin 2).val) = lN 0 from rfl, show (0 : Int32) * 64 = 0 from by decide, show (1 : Int32) * 64 = 64 from by decide, show (0 : Int32) + 64 = 64 from by decide, show (64 : Int32) + 64 = 128 from by decide])
        first
          | (with_reducible show At 36 _ 31 _ _ _ _)
          | (refine go 60 (by decide) ?_; simp only [KX, KY, KZ, KW, KV, Nat.reduceAdd, Nat.reduceSub, Nat.reduceLeDiff, true_and, and_true, true_or, or_true, or_self, reduceCtorEq, if_true, if_false, not_false_eq_true, eq_self, c36, h1, h2, show lN ((1 : Fin 2).val) = lN 1 from rfl, show lN ((0 : Fin 2).val) = lN 0 from rfl, show (0 : Int32) * 64 = 0 from by decide, show (1 : Int32) * 64 = 64 from by decide, show (0 : Int32) + 64 = 64 from by decide, show (64 : Int32) + 64 = 128 from by decide])
        rw [an63 i (by omega), show i % 64 = i by omega]
        refine go 60 (by decide) ?_
        simp only [KX, KY, KZ, KW, KV, Nat.reduceAdd, Nat.reduceSub, Nat.reduceLeDiff, true_and, and_true, true_or, or_true, or_self, reduceCtorEq, if_true, if_false, not_false_eq_true, eq_self, c36, h1, h2, show lN ((1 : Fin 2).val) = lN 1 from rfl, show lN ((0 : Fin 2).val) = lN 0 from rfl, show (0 : Int32) * 64 = 0 from by decide, show (1 : Int32) * 64 = 64 from by decide, show (0 : Int32) + 64 = 64 from by decide, show (64 : Int32) + 64 = 128 from by decide]
        rw [show nI i + 1 = nI (i + 1) from nI_1 _]
        exact At_le ih2 ⟨rfl, rfl, rfl, rfl, trivial⟩
  refine ma_enter (m := 36) (Or.inl (by decide)) (by show 2 ≤ mt_n 36; decide +kernel) ?_
  show At 36 Q 0 (mt_c 36) [some (.ref a), some (.int 0), none, none, none] [] h
  refine go 60 (by decide) ?_
  simp only [KX, KY, KZ, KW, KV, Nat.reduceAdd, Nat.reduceSub, Nat.reduceLeDiff, true_and, and_true, true_or, or_true, or_self, reduceCtorEq, if_true, if_false, not_false_eq_true, eq_self, c36, h1, h2, show lN ((1 : Fin 2).val) = lN 1 from rfl, show lN ((0 : Fin 2).val) = lN 0 from rfl, show (0 : Int32) * 64 = 0 from by decide, show (1 : Int32) * 64 = 64 from by decide, show (0 : Int32) + 64 = 64 from by decide, show (64 : Int32) + 64 = 128 from by decide]
  exact At_le (lp 64 0 rfl) ⟨rfl, rfl, rfl, rfl, trivial⟩
theorem s36_1 {h : ma_H} {Q : ma_Q} {a s rc : Nat} {mn : Int32} {g : Nat → Int32} (h1 : h.2.1 a = .inr (2, [.int mn, .ref s, .ref rc])) (h2 : h.2.1 s = .inl (.int, 169, .inl g)) (k : Q (some (.long (bt (hS g) 64 27))) h) : ma_X 36 [.ref a, .int 1] h Q := by
  have lp : ∀ d i, i + d = 27 → At 36 Q 6 (0, 0) [some (.ref a), some (.int 1), some (.long (bt (hS g) 64 i)), none, some (.int (nI (64 + i)))] [] h := by
    intro d
    induction d with
    | zero =>
      intro i e
      obtain rfl : i = 27 := by omega
      refine go 60 (by decide) ?_
      simp only [KX, KY, KZ, KW, KV, Nat.reduceAdd, Nat.reduceSub, Nat.reduceLeDiff, true_and, and_true, true_or, or_true, or_self, reduceCtorEq, if_true, if_false, not_false_eq_true, eq_self, c36, h1, h2, show lN ((1 : Fin 2).val) = lN 1 from rfl, show lN ((0 : Fin 2).val) = lN 0 from rfl, show (0 : Int32) * 64 = 0 from by decide, show (1 : Int32) * 64 = 64 from by decide, show (0 : Int32) + 64 = 64 from by decide, show (64 : Int32) + 64 = 128 from by decide]
      rw [if_neg (nI_nlt (Nat.le_refl _) (by decide))]
      exact k
    | succ d ih =>
      intro i e
      have hi : (64 + i) < 91 := by omega
      refine go 60 (by decide) ?_
      simp only [KX, KY, KZ, KW, KV, Nat.reduceAdd, Nat.reduceSub, Nat.reduceLeDiff, true_and, and_true, true_or, or_true, or_self, reduceCtorEq, if_true, if_false, not_false_eq_true, eq_self, c36, h1, h2, show lN ((1 : Fin 2).val) = lN 1 from rfl, show lN ((0 : Fin 2).val) = lN 0 from rfl, show (0 : Int32) * 64 = 0 from by decide, show (1 : Int32) * 64 = 64 from by decide, show (0 : Int32) + 64 = 64 from by decide, show (64 : Int32) + 64 = 128 from by decide]
      rw [if_pos (nI_lt (a := 64 + i) (b := 91) (by omega) (by decide)), if_pos (show nI (64 + i) < (128 : Int32) from nI_lt (b := 128) (by omega) (by decide))]
      rw [nI_clamp (show (64 + i) < 2 ^ 31 by omega)]
      refine ⟨nI_in hi (by decide), ?_⟩
      have ih2 := ih (i + 1) (by omega)
      refine s19c h1 h2 hi (fun z => ?_) (fun z => ?_)
      · rw [show bt (hS g) 64 (i + 1) = bt (hS g) 64 i ||| lN 0 by
          show bt (hS g) 64 i ||| (if hS g (64 + i) then ob i else lN 0) = _
          rw [show hS g (64 + i) = false by unfold hS; rw [show 64 + i = (64 + i) by omega]; simp [z]]
          rfl] at ih2
        refine go 60 (by decide) ?_
        simp only [KX, KY, KZ, KW, KV, Nat.reduceAdd, Nat.reduceSub, Nat.reduceLeDiff, true_and, and_true, true_or, or_true, or_self, reduceCtorEq, if_true, if_false, not_false_eq_true, eq_self, c36, h1, h2, show lN ((1 : Fin 2).val) = lN 1 from rfl, show lN ((0 : Fin 2).val) = lN 0 from rfl, show (0 : Int32) * 64 = 0 from by decide, show (1 : Int32) * 64 = 64 from by decide, show (0 : Int32) + 64 = 64 from by decide, show (64 : Int32) + 64 = 128 from by decide]
        skip
        first
          | (with_reducible show At 36 _ 31 _ _ _ _)
          | (refine go 60 (by decide) ?_; simp only [KX, KY, KZ, KW, KV, Nat.reduceAdd, Nat.reduceSub, Nat.reduceLeDiff, true_and, and_true, true_or, or_true, or_self, reduceCtorEq, if_true, if_false, not_false_eq_true, eq_self, c36, h1, h2, show lN ((1 : Fin 2).val) = lN 1 from rfl, show lN ((0 : Fin 2).val) = lN 0 from rfl, show (0 : Int32) * 64 = 0 from by decide, show (1 : Int32) * 64 = 64 from by decide, show (0 : Int32) + 64 = 64 from by decide, show (64 : Int32) + 64 = 128 from by decide])
        first
          | (with_reducible show At 36 _ 31 _ _ _ _)
          | (refine go 60 (by decide) ?_; simp only [KX, KY, KZ, KW, KV, Nat.reduceAdd, Nat.reduceSub, Nat.reduceLeDiff, true_and, and_true, true_or, or_true, or_self, reduceCtorEq, if_true, if_false, not_false_eq_true, eq_self, c36, h1, h2, show lN ((1 : Fin 2).val) = lN 1 from rfl, show lN ((0 : Fin 2).val) = lN 0 from rfl, show (0 : Int32) * 64 = 0 from by decide, show (1 : Int32) * 64 = 64 from by decide, show (0 : Int32) + 64 = 64 from by decide, show (64 : Int32) + 64 = 128 from by decide])
        first
          | (with_reducible show At 36 _ 31 _ _ _ _)
          | (refine go 60 (by decide) ?_; simp only [KX, KY, KZ, KW, KV, Nat.reduceAdd, Nat.reduceSub, Nat.reduceLeDiff, true_and, and_true, true_or, or_true, or_self, reduceCtorEq, if_true, if_false, not_false_eq_true, eq_self, c36, h1, h2, show lN ((1 : Fin 2).val) = lN 1 from rfl, show lN ((0 : Fin 2).val) = lN 0 from rfl, show (0 : Int32) * 64 = 0 from by decide, show (1 : Int32) * 64 = 64 from by decide, show (0 : Int32) + 64 = 64 from by decide, show (64 : Int32) + 64 = 128 from by decide])
        refine go 60 (by decide) ?_
        simp only [KX, KY, KZ, KW, KV, Nat.reduceAdd, Nat.reduceSub, Nat.reduceLeDiff, true_and, and_true, true_or, or_true, or_self, reduceCtorEq, if_true, if_false, not_false_eq_true, eq_self, c36, h1, h2, show lN ((1 : Fin 2).val) = lN 1 from rfl, show lN ((0 : Fin 2).val) = lN 0 from rfl, show (0 : Int32) * 64 = 0 from by decide, show (1 : Int32) * 64 = 64 from by decide, show (0 : Int32) + 64 = 64 from by decide, show (64 : Int32) + 64 = 128 from by decide]
        rw [show nI (64 + i) + 1 = nI (64 + (i + 1)) from nI_1 _]
        exact At_le ih2 ⟨rfl, rfl, rfl, rfl, trivial⟩
      · rw [show bt (hS g) 64 (i + 1) = bt (hS g) 64 i ||| ob i by
          show bt (hS g) 64 i ||| (if hS g (64 + i) then ob i else lN 0) = _
          rw [show hS g (64 + i) = true by unfold hS; rw [show 64 + i = (64 + i) by omega]; simp [z]]
          rfl] at ih2
        refine go 60 (by decide) ?_
        simp only [KX, KY, KZ, KW, KV, Nat.reduceAdd, Nat.reduceSub, Nat.reduceLeDiff, true_and, and_true, true_or, or_true, or_self, reduceCtorEq, if_true, if_false, not_false_eq_true, eq_self, c36, h1, h2, show lN ((1 : Fin 2).val) = lN 1 from rfl, show lN ((0 : Fin 2).val) = lN 0 from rfl, show (0 : Int32) * 64 = 0 from by decide, show (1 : Int32) * 64 = 64 from by decide, show (0 : Int32) + 64 = 64 from by decide, show (64 : Int32) + 64 = 128 from by decide]
        first
          | (with_reducible show At 36 _ 31 _ _ _ _)
          | (refine go 60 (by decide) ?_; simp only [KX, KY, KZ, KW, KV, Nat.reduceAdd, Nat.reduceSub, Nat.reduceLeDiff, true_and, and_true, true_or, or_true, or_self, reduceCtorEq, if_true, if_false, not_false_eq_true, eq_self, c36, h1, h2, show lN ((1 : Fin 2).val) = lN 1 from rfl, show lN ((0 : Fin 2).val) = lN 0 from rfl, show (0 : Int32) * 64 = 0 from by decide, show (1 : Int32) * 64 = 64 from by decide, show (0 : Int32) + 64 = 64 from by decide, show (64 : Int32) + 64 = 128 from by decide])
        first
          | (with_reducible show At 36 _ 31 _ _ _ _)
          | (refine go 60 (by decide) ?_; simp only [KX, KY, KZ, KW, KV, Nat.reduceAdd, Nat.reduceSub, Nat.reduceLeDiff, true_and, and_true, true_or, or_true, or_self, reduceCtorEq, if_true, if_false, not_false_eq_true, eq_self, c36, h1, h2, show lN ((1 : Fin 2).val) = lN 1 from rfl, show lN ((0 : Fin 2).val) = lN 0 from rfl, show (0 : Int32) * 64 = 0 from by decide, show (1 : Int32) * 64 = 64 from by decide, show (0 : Int32) + 64 = 64 from by decide, show (64 : Int32) + 64 = 128 from by decide])
        first
          | (with_reducible show At 36 _ 31 _ _ _ _)
          | (refine go 60 (by decide) ?_; simp only [KX, KY, KZ, KW, KV, Nat.reduceAdd, Nat.reduceSub, Nat.reduceLeDiff, true_and, and_true, true_or, or_true, or_self, reduceCtorEq, if_true, if_false, not_false_eq_true, eq_self, c36, h1, h2, show lN ((1 : Fin 2).val) = lN 1 from rfl, show lN ((0 : Fin 2).val) = lN 0 from rfl, show (0 : Int32) * 64 = 0 from by decide, show (1 : Int32) * 64 = 64 from by decide, show (0 : Int32) + 64 = 64 from by decide, show (64 : Int32) + 64 = 128 from by decide])
        rw [an63 (64 + i) (by omega), show (64 + i) % 64 = i by omega]
        refine go 60 (by decide) ?_
        simp only [KX, KY, KZ, KW, KV, Nat.reduceAdd, Nat.reduceSub, Nat.reduceLeDiff, true_and, and_true, true_or, or_true, or_self, reduceCtorEq, if_true, if_false, not_false_eq_true, eq_self, c36, h1, h2, show lN ((1 : Fin 2).val) = lN 1 from rfl, show lN ((0 : Fin 2).val) = lN 0 from rfl, show (0 : Int32) * 64 = 0 from by decide, show (1 : Int32) * 64 = 64 from by decide, show (0 : Int32) + 64 = 64 from by decide, show (64 : Int32) + 64 = 128 from by decide]
        rw [show nI (64 + i) + 1 = nI (64 + (i + 1)) from nI_1 _]
        exact At_le ih2 ⟨rfl, rfl, rfl, rfl, trivial⟩
  refine ma_enter (m := 36) (Or.inl (by decide)) (by show 2 ≤ mt_n 36; decide +kernel) ?_
  show At 36 Q 0 (mt_c 36) [some (.ref a), some (.int 1), none, none, none] [] h
  refine go 60 (by decide) ?_
  simp only [KX, KY, KZ, KW, KV, Nat.reduceAdd, Nat.reduceSub, Nat.reduceLeDiff, true_and, and_true, true_or, or_true, or_self, reduceCtorEq, if_true, if_false, not_false_eq_true, eq_self, c36, h1, h2, show lN ((1 : Fin 2).val) = lN 1 from rfl, show lN ((0 : Fin 2).val) = lN 0 from rfl, show (0 : Int32) * 64 = 0 from by decide, show (1 : Int32) * 64 = 64 from by decide, show (0 : Int32) + 64 = 64 from by decide, show (64 : Int32) + 64 = 128 from by decide]
  exact At_le (lp 27 0 rfl) ⟨rfl, rfl, rfl, rfl, trivial⟩
