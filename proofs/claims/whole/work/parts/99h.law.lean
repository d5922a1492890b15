/-! law: bytes, words; the class reads them -/
/-- a byte as an int -/
def sb (c : Nat) : Int32 := if c < 128 then nI c else nI c - 256
theorem sb_t : ∀ c, c < 256 → (sb c = 32 ↔ c = 32) ∧ ((¬ sb c < 97 ∧ sb c ≤ 122) ↔ (97 ≤ c ∧ c ≤ 122)) ∧ ((¬ sb c < 48 ∧ sb c ≤ 57) ↔ (48 ≤ c ∧ c ≤ 57)) ∧ sb c &&& 255 = nI c ∧ (48 ≤ c → c ≤ 57 → sb c - 48 = nI (c - 48)) := by decide +kernel
theorem sb_eq : ∀ c, c < 256 → ∀ d, d < 128 → (sb c = nI d ↔ c = d) := by decide +kernel
theorem i8_t : ∀ k, k < 256 → ∃ c, c < 256 ∧ (Int8.ofNat k).toInt32 = sb c ∧ (Int8.ofNat k).toInt32 &&& 255 = nI c := by
  intro k hk
  refine ⟨k, hk, ?_⟩
  revert k
  decide +kernel
theorem i8_all {x : Int32} (e : x = x.toInt8.toInt32) : ∃ c, c < 256 ∧ x = sb c ∧ x &&& 255 = nI c := by
  have w := i8_t x.toInt8.toBitVec.toNat x.toInt8.toBitVec.isLt
  have e2 : Int8.ofNat x.toInt8.toBitVec.toNat = x.toInt8 := by
    apply Int8.toBitVec_inj.mp
    show BitVec.ofNat 8 x.toInt8.toBitVec.toNat = x.toInt8.toBitVec
    rw [BitVec.ofNat_toNat, BitVec.setWidth_eq]
  rw [e2, ← e] at w
  exact w
def isL (c : Nat) : Bool := decide (97 ≤ c) && decide (c ≤ 122)
def isD (c : Nat) : Bool := decide (48 ≤ c) && decide (c ≤ 57)
/-- how many in a row from i on -/
def run (g : Nat → Bool) (b : Nat → Nat) (n : Nat) : Nat → Nat → Nat
  | 0, _ => 0
  | f + 1, i => if i < n then if g (b i) then 1 + run g b n f (i + 1) else 0 else 0
theorem run_le (g : Nat → Bool) (b : Nat → Nat) (n : Nat) : ∀ f i, run g b n f i ≤ n - i
  | 0, _ => Nat.zero_le _
  | f + 1, i => by
    show (if i < n then if g (b i) then 1 + run g b n f (i + 1) else 0 else 0) ≤ n - i
    have := run_le g b n f (i + 1)
    split
    · split <;> omega
    · omega
def numF (b : Nat → Nat) (i : Nat) : Nat → Nat
  | 0 => 0
  | k + 1 => numF b i k * 10 + (b (i + k) - 48)
theorem numF_lt {b : Nat → Nat} {i : Nat} : ∀ k, (∀ j, j < k → b (i + j) ≤ 57) → numF b i k < 10 ^ k
  | 0, _ => by
    show 0 < 1
    decide
  | k + 1, h => by
    show numF b i k * 10 + (b (i + k) - 48) < 10 ^ (k + 1)
    have := numF_lt k (fun j hj => h j (by omega))
    have := h k (by omega)
    rw [Nat.pow_succ]
    omega
/-- the word of this length from i on is w -/
def eqs (b : Nat → Nat) (i : Nat) : List Nat → Bool
  | [] => true
  | c :: r => (b i == c) && eqs b (i + 1) r
def spl (b : Nat → Nat) (i L : Nat) (w : List Nat) : Bool := (w.length == L) && eqs b i w
def wns : List (List Nat) := [[117, 115, 101], [112, 105, 99, 107], [105, 102], [111, 114], [97, 110, 100], [110, 111, 116], [119, 97, 114, 109], [119, 101, 116], [115, 105, 122, 101], [115, 112, 97, 110], [101, 100, 103, 101], [109, 105, 110, 117, 116, 101]]
theorem wns_t : ∀ q, q < 12 → ma_tl.getD q 0 = (wns.getD q []).length ∧ (wns.getD q []).length ≤ 6 ∧ ma_tb.getD q [] = (wns.getD q []).map nI ∧ ∀ c ∈ wns.getD q [], c < 128 := by decide +kernel
/-- the TEXT that the class reads -/
def TX (hh : ma_H) (b : Nat → Nat) (n : Nat) : Prop := Sh hh ∧ fi hh 2 1 = nI n ∧ n ≤ 200 ∧ (∀ i, i < n → ai hh 3 i = sb (b i)) ∧ ∀ i, b i < 256
theorem s65L {h : ma_H} {Q : ma_Q} {b : Nat → Nat} {n i : Nat} (X : TX h b n) (hi : i < n) (k : Q (some (.int (nI (run isL b n 201 i)))) h) : ma_X 65 [.ref 2, .int (nI i), .int 97, .int 122] h Q := by
  obtain ⟨H, en, n2, ex, eb⟩ := X
  have lp : ∀ f j, n < j + f → j ≤ n → Q (some (.int (nI (j + run isL b n f j) - nI i))) h → At 65 Q 2 (0, 0) [some (.ref 2), some (.int (nI i)), some (.int 97), some (.int 122), some (.int (nI j))] [] h := by
    intro f
    induction f with
    | zero =>
      intro j hj jn kq
      refine go 60 (by decide) ?_
      simp only [KX, KY, KZ, KW, KV, Nat.reduceAdd, Nat.reduceSub, Nat.reduceLeDiff, true_and, and_true, true_or, or_true, or_self, reduceCtorEq, if_true, if_false, not_false_eq_true, eq_self, c65, H.e2, en]
      rw [if_neg (nI_nlt (by omega) (by omega))]
      rw [show run isL b n 0 j = 0 from rfl, Nat.add_zero] at kq
      exact kq
    | succ f ih =>
      intro j hj jn kq
      have kq : Q (some (.int (nI (j + if j < n then if isL (b j) then 1 + run isL b n f (j + 1) else 0 else 0) - nI i))) h := kq
      by_cases c : j < n
      · have t := (sb_t (b j) (eb j)).2.1
        rw [if_pos c] at kq
        refine go 60 (by decide) ?_
        simp only [KX, KY, KZ, KW, KV, Nat.reduceAdd, Nat.reduceSub, Nat.reduceLeDiff, true_and, and_true, true_or, or_true, or_self, reduceCtorEq, if_true, if_false, not_false_eq_true, eq_self, c65, H.e2, H.e3, en]
        rw [if_pos (nI_lt c (by omega)), nI_clamp (show j < 2 ^ 31 by omega), ex j c]
        refine ⟨nI_in (show j < 200 by omega) (by decide), ?_⟩
        by_cases d : 97 ≤ b j ∧ b j ≤ 122
        · rw [show isL (b j) = true by unfold isL; rw [decide_eq_true d.1, decide_eq_true d.2]; rfl, if_pos rfl, ← Nat.add_assoc] at kq
          rw [if_neg (t.mpr d).1]
          refine ⟨nI_in (show j < 200 by omega) (by decide), ?_⟩
          rw [if_pos (t.mpr d).2, nI_1 j]
          exact ih (j + 1) (by omega) (by omega) kq
        · rw [show isL (b j) = false by
            unfold isL
            by_cases z : 97 ≤ b j
            · rw [decide_eq_false (show ¬ b j ≤ 122 from fun y => d ⟨z, y⟩), Bool.and_false]
            · rw [decide_eq_false z, Bool.false_and], if_neg (by decide), Nat.add_zero] at kq
          by_cases z : sb (b j) < 97
          · rw [if_pos z]
            exact kq
          · rw [if_neg z]
            refine ⟨nI_in (show j < 200 by omega) (by decide), ?_⟩
            rw [if_neg (fun y => d (t.mp ⟨z, y⟩))]
            exact kq
      · rw [if_neg c, Nat.add_zero] at kq
        refine go 60 (by decide) ?_
        simp only [KX, KY, KZ, KW, KV, Nat.reduceAdd, Nat.reduceSub, Nat.reduceLeDiff, true_and, and_true, true_or, or_true, or_self, reduceCtorEq, if_true, if_false, not_false_eq_true, eq_self, c65, H.e2, en]
        rw [if_neg (nI_nlt (by omega) (by omega))]
        exact kq
  refine ma_enter (m := 65) (Or.inl (by decide)) (by show 4 ≤ mt_n 65; decide +kernel) ?_
  show At 65 Q 0 (mt_c 65) [some (.ref 2), some (.int (nI i)), some (.int 97), some (.int 122), none] [] h
  refine go 60 (by decide) ?_
  simp only [KX, KY, KZ, KW, KV, Nat.reduceAdd, Nat.reduceSub, Nat.reduceLeDiff, true_and, and_true, true_or, or_true, or_self, reduceCtorEq, if_true, if_false, not_false_eq_true, eq_self, c65]
  refine lp 201 i (by omega) (by omega) ?_
  rw [← nI_add, Int32.add_comm, Int32.add_sub_cancel]
  exact k
theorem s65D {h : ma_H} {Q : ma_Q} {b : Nat → Nat} {n i : Nat} (X : TX h b n) (hi : i < n) (k : Q (some (.int (nI (run isD b n 201 i)))) h) : ma_X 65 [.ref 2, .int (nI i), .int 48, .int 57] h Q := by
  obtain ⟨H, en, n2, ex, eb⟩ := X
  have lp : ∀ f j, n < j + f → j ≤ n → Q (some (.int (nI (j + run isD b n f j) - nI i))) h → At 65 Q 2 (0, 0) [some (.ref 2), some (.int (nI i)), some (.int 48), some (.int 57), some (.int (nI j))] [] h := by
    intro f
    induction f with
    | zero =>
      intro j hj jn kq
      refine go 60 (by decide) ?_
      simp only [KX, KY, KZ, KW, KV, Nat.reduceAdd, Nat.reduceSub, Nat.reduceLeDiff, true_and, and_true, true_or, or_true, or_self, reduceCtorEq, if_true, if_false, not_false_eq_true, eq_self, c65, H.e2, en]
      rw [if_neg (nI_nlt (by omega) (by omega))]
      rw [show run isD b n 0 j = 0 from rfl, Nat.add_zero] at kq
      exact kq
    | succ f ih =>
      intro j hj jn kq
      have kq : Q (some (.int (nI (j + if j < n then if isD (b j) then 1 + run isD b n f (j + 1) else 0 else 0) - nI i))) h := kq
      by_cases c : j < n
      · have t := (sb_t (b j) (eb j)).2.2.1
        rw [if_pos c] at kq
        refine go 60 (by decide) ?_
        simp only [KX, KY, KZ, KW, KV, Nat.reduceAdd, Nat.reduceSub, Nat.reduceLeDiff, true_and, and_true, true_or, or_true, or_self, reduceCtorEq, if_true, if_false, not_false_eq_true, eq_self, c65, H.e2, H.e3, en]
        rw [if_pos (nI_lt c (by omega)), nI_clamp (show j < 2 ^ 31 by omega), ex j c]
        refine ⟨nI_in (show j < 200 by omega) (by decide), ?_⟩
        by_cases d : 48 ≤ b j ∧ b j ≤ 57
        · rw [show isD (b j) = true by unfold isD; rw [decide_eq_true d.1, decide_eq_true d.2]; rfl, if_pos rfl, ← Nat.add_assoc] at kq
          rw [if_neg (t.mpr d).1]
          refine ⟨nI_in (show j < 200 by omega) (by decide), ?_⟩
          rw [if_pos (t.mpr d).2, nI_1 j]
          exact ih (j + 1) (by omega) (by omega) kq
        · rw [show isD (b j) = false by
            unfold isD
            by_cases z : 48 ≤ b j
            · rw [decide_eq_false (show ¬ b j ≤ 57 from fun y => d ⟨z, y⟩), Bool.and_false]
            · rw [decide_eq_false z, Bool.false_and], if_neg (by decide), Nat.add_zero] at kq
          by_cases z : sb (b j) < 48
          · rw [if_pos z]
            exact kq
          · rw [if_neg z]
            refine ⟨nI_in (show j < 200 by omega) (by decide), ?_⟩
            rw [if_neg (fun y => d (t.mp ⟨z, y⟩))]
            exact kq
      · rw [if_neg c, Nat.add_zero] at kq
        refine go 60 (by decide) ?_
        simp only [KX, KY, KZ, KW, KV, Nat.reduceAdd, Nat.reduceSub, Nat.reduceLeDiff, true_and, and_true, true_or, or_true, or_self, reduceCtorEq, if_true, if_false, not_false_eq_true, eq_self, c65, H.e2, en]
        rw [if_neg (nI_nlt (by omega) (by omega))]
        exact kq
  refine ma_enter (m := 65) (Or.inl (by decide)) (by show 4 ≤ mt_n 65; decide +kernel) ?_
  show At 65 Q 0 (mt_c 65) [some (.ref 2), some (.int (nI i)), some (.int 48), some (.int 57), none] [] h
  refine go 60 (by decide) ?_
  simp only [KX, KY, KZ, KW, KV, Nat.reduceAdd, Nat.reduceSub, Nat.reduceLeDiff, true_and, and_true, true_or, or_true, or_self, reduceCtorEq, if_true, if_false, not_false_eq_true, eq_self, c65]
  refine lp 201 i (by omega) (by omega) ?_
  rw [← nI_add, Int32.add_comm, Int32.add_sub_cancel]
  exact k
theorem s67 {h : ma_H} {Q : ma_Q} {b : Nat → Nat} {n i d : Nat} (X : TX h b n) (hd : d ≤ 3) (hi : i + d ≤ n) (w : ∀ j, j < d → 48 ≤ b (i + j) ∧ b (i + j) ≤ 57) (k : Q (some (.int (nI (numF b i d)))) h) : ma_X 67 [.ref 2, .int (nI i), .int (nI d)] h Q := by
  obtain ⟨H, en, n2, ex, eb⟩ := X
  have lp : ∀ m j, j + m = d → At 67 Q 4 (0, 0) [some (.ref 2), some (.int (nI i)), some (.int (nI d)), some (.int (nI (numF b i j))), some (.int (nI (i + j)))] [] h := by
    intro m
    induction m with
    | zero =>
      intro j ej
      obtain rfl : j = d := by omega
      refine go 60 (by decide) ?_
      simp only [KX, KY, KZ, KW, KV, Nat.reduceAdd, Nat.reduceSub, Nat.reduceLeDiff, true_and, and_true, true_or, or_true, or_self, reduceCtorEq, if_true, if_false, not_false_eq_true, eq_self, c67]
      rw [nI_add, if_neg (nI_nlt (Nat.le_refl _) (by omega))]
      exact k
    | succ m ih =>
      intro j ej
      have wj := w j (by omega)
      refine go 60 (by decide) ?_
      simp only [KX, KY, KZ, KW, KV, Nat.reduceAdd, Nat.reduceSub, Nat.reduceLeDiff, true_and, and_true, true_or, or_true, or_self, reduceCtorEq, if_true, if_false, not_false_eq_true, eq_self, c67, H.e2, H.e3, en]
      rw [nI_add, if_pos (nI_lt (show i + j < i + d by omega) (by omega)), if_pos (nI_lt (show i + j < n by omega) (by omega)), nI_clamp (show i + j < 2 ^ 31 by omega), ex _ (by omega), (sb_t _ (eb _)).2.2.2.2 wj.1 wj.2, show (10 : Int32) = nI 10 from rfl, nI_mul, nI_add, nI_1 (i + j)]
      refine ⟨nI_in (show i + j < 200 by omega) (by decide), ?_⟩
      exact ih (j + 1) (by omega)
  refine ma_enter (m := 67) (Or.inl (by decide)) (by show 3 ≤ mt_n 67; decide +kernel) ?_
  show At 67 Q 0 (mt_c 67) [some (.ref 2), some (.int (nI i)), some (.int (nI d)), none, none] [] h
  refine go 60 (by decide) ?_
  simp only [KX, KY, KZ, KW, KV, Nat.reduceAdd, Nat.reduceSub, Nat.reduceLeDiff, true_and, and_true, true_or, or_true, or_self, reduceCtorEq, if_true, if_false, not_false_eq_true, eq_self, c67]
  exact lp d 0 (by omega)
theorem kj6 (m : Nat) (go : ma_K) (k : Nat) (b : Nat × Nat) (L : ma_L) (q : Nat) (r : List Value) (h : ma_H) : me_jdk m 6 go k b L (.retAddr q :: r) h = ((2 ≤ q ∧ q < 14) ∧ me_cs r ≤ 8 ∧ go (k + 1) b L (.int (nI (ma_tl.getD (q - 2) 0)) :: r) h) := rfl
theorem kj7 (m : Nat) (go : ma_K) (k : Nat) (b : Nat × Nat) (L : ma_L) (i : Int32) (q : Nat) (r : List Value) (h : ma_H) : me_jdk m 7 go k b L (.int i :: .retAddr q :: r) h = ((2 ≤ q ∧ q < 14) ∧ vp_in i (ma_tl.getD (q - 2) 0) ∧ me_cs r ≤ 8 ∧ go (k + 1) b L (.int ((ma_tb.getD (q - 2) []).getD i.toNatClampNeg 0) :: r) h) := rfl
theorem eqs_at {b : Nat → Nat} : ∀ (w : List Nat) (i : Nat), eqs b i w = true ↔ ∀ j, j < w.length → b (i + j) = w.getD j 0
  | [], i => ⟨fun _ j hj => absurd hj (Nat.not_lt_zero j), fun _ => rfl⟩
  | c :: r, i => by
    show ((b i == c) && eqs b (i + 1) r) = true ↔ _
    rw [Bool.and_eq_true, eqs_at r (i + 1), beq_iff_eq]
    constructor
    · intro ⟨x, y⟩ j hj
      match j, hj with
      | 0, _ => exact x
      | j + 1, hj =>
        have hj : j + 1 < r.length + 1 := hj
        have := y j (by omega)
        rw [show i + (j + 1) = i + 1 + j by omega]
        exact this
    · intro x
      refine ⟨x 0 (Nat.succ_pos _), fun j hj => ?_⟩
      have := x (j + 1) (Nat.succ_lt_succ hj)
      rw [show i + 1 + j = i + (j + 1) by omega]
      exact this
theorem s70 {h : ma_H} {Q : ma_Q} {b : Nat → Nat} {n i L q : Nat} (X : TX h b n) (hq : q < 12) (hL : i + L ≤ n) (k : Q (some (.int (bI (spl b i L (wns.getD q []))))) h) : ma_X 70 [.ref 2, .retAddr (2 + q), .int (nI i), .int (nI L)] h Q := by
  obtain ⟨H, en, n2, ex, eb⟩ := X
  obtain ⟨el, w6, et, wc⟩ := wns_t q hq
  generalize wns.getD q [] = w at el w6 et wc k
  have q2 : 2 + q - 2 = q := by omega
  have c1 : (2 ≤ 2 + q ∧ 2 + q < 14) = True := eq_true (by omega)
  have wn : ∀ j, j < w.length → (w.map nI).getD j 0 = nI (w.getD j 0) ∧ w.getD j 0 < 128 := fun j hj => by
    rw [List.getD_eq_getElem?_getD, List.getD_eq_getElem?_getD, List.getElem?_map, List.getElem?_eq_getElem hj]
    exact ⟨rfl, wc _ (List.getElem_mem hj)⟩
  have lp : ∀ m j, j + m = w.length → w.length = L → (∀ x, x < j → b (i + x) = w.getD x 0) → Q (some (.int (bI (spl b i L w)))) h → At 70 Q 10 (0, 0) [some (.ref 2), some (.retAddr (2 + q)), some (.int (nI i)), some (.int (nI L)), some (.int 1), some (.int (nI j))] [] h := by
    intro m
    induction m with
    | zero =>
      intro j ej eL wx kq
      obtain rfl : j = w.length := by omega
      have e1 : spl b i L w = true := by
        unfold spl
        rw [(eqs_at w i).mpr wx, Bool.and_true]
        exact beq_iff_eq.mpr eL
      rw [e1] at kq
      refine go 60 (by decide) ?_
      simp only [KX, KY, KZ, KW, KV, Nat.reduceAdd, Nat.reduceSub, Nat.reduceLeDiff, true_and, and_true, true_or, or_true, or_self, reduceCtorEq, if_true, if_false, not_false_eq_true, eq_self, c70, H.e2, H.e3, en, el, et, kj6, kj7, q2, c1]
      rw [if_neg (nI_nlt (Nat.le_refl _) (by omega))]
      first
        | exact kq
        | exact ⟨Or.inr rfl, kq⟩
    | succ m ih =>
      intro j ej eL wx kq
      have hj : j < w.length := by omega
      obtain ⟨wn1, wn2⟩ := wn j hj
      refine go 60 (by decide) ?_
      simp only [KX, KY, KZ, KW, KV, Nat.reduceAdd, Nat.reduceSub, Nat.reduceLeDiff, true_and, and_true, true_or, or_true, or_self, reduceCtorEq, if_true, if_false, not_false_eq_true, eq_self, c70, H.e2, H.e3, en, el, et, kj6, kj7, q2, c1]
      rw [if_pos (nI_lt hj (by omega)), nI_add, if_pos (nI_lt (show i + j < n by omega) (by omega)), nI_clamp (show i + j < 2 ^ 31 by omega), nI_clamp (show j < 2 ^ 31 by omega), ex _ (by omega), wn1]
      refine ⟨nI_in (show i + j < 200 by omega) (by decide), nI_in hj (by omega), ?_⟩
      by_cases c : b (i + j) = w.getD j 0
      · rw [if_pos ((sb_eq _ (eb _) _ wn2).mpr c)]
        first
          | (with_reducible show At 70 _ 10 _ _ _ _)
          | (refine go 60 (by decide) ?_; simp only [KX, KY, KZ, KW, KV, Nat.reduceAdd, Nat.reduceSub, Nat.reduceLeDiff, true_and, and_true, true_or, or_true, or_self, reduceCtorEq, if_true, if_false, not_false_eq_true, eq_self, c70, H.e2, H.e3, en, el, et, kj6, kj7, q2, c1])
        first
          | (with_reducible show At 70 _ 10 _ _ _ _)
          | (refine go 60 (by decide) ?_; simp only [KX, KY, KZ, KW, KV, Nat.reduceAdd, Nat.reduceSub, Nat.reduceLeDiff, true_and, and_true, true_or, or_true, or_self, reduceCtorEq, if_true, if_false, not_false_eq_true, eq_self, c70, H.e2, H.e3, en, el, et, kj6, kj7, q2, c1])
        first
          | (with_reducible show At 70 _ 10 _ _ _ _)
          | (refine go 60 (by decide) ?_; simp only [KX, KY, KZ, KW, KV, Nat.reduceAdd, Nat.reduceSub, Nat.reduceLeDiff, true_and, and_true, true_or, or_true, or_self, reduceCtorEq, if_true, if_false, not_false_eq_true, eq_self, c70, H.e2, H.e3, en, el, et, kj6, kj7, q2, c1])
        rw [nI_1 j]
        refine ih (j + 1) (by omega) eL (fun x hx => ?_) kq
        rcases Nat.lt_or_ge x j with y | y
        · exact wx x y
        · obtain rfl : x = j := by omega
          exact c
      · have e1 : spl b i L w = false := by
          unfold spl
          cases z : eqs b i w
          · rw [Bool.and_false]
          · exact absurd ((eqs_at w i).mp z j hj) c
        rw [e1] at kq
        rw [if_neg (fun z => c ((sb_eq _ (eb _) _ wn2).mp z))]
        first
          | (with_reducible show At 70 _ 10 _ _ _ _)
          | (refine go 60 (by decide) ?_; simp only [KX, KY, KZ, KW, KV, Nat.reduceAdd, Nat.reduceSub, Nat.reduceLeDiff, true_and, and_true, true_or, or_true, or_self, reduceCtorEq, if_true, if_false, not_false_eq_true, eq_self, c70, H.e2, H.e3, en, el, et, kj6, kj7, q2, c1])
        first
          | (with_reducible show At 70 _ 10 _ _ _ _)
          | (refine go 60 (by decide) ?_; simp only [KX, KY, KZ, KW, KV, Nat.reduceAdd, Nat.reduceSub, Nat.reduceLeDiff, true_and, and_true, true_or, or_true, or_self, reduceCtorEq, if_true, if_false, not_false_eq_true, eq_self, c70, H.e2, H.e3, en, el, et, kj6, kj7, q2, c1])
        first
          | (with_reducible show At 70 _ 10 _ _ _ _)
          | (refine go 60 (by decide) ?_; simp only [KX, KY, KZ, KW, KV, Nat.reduceAdd, Nat.reduceSub, Nat.reduceLeDiff, true_and, and_true, true_or, or_true, or_self, reduceCtorEq, if_true, if_false, not_false_eq_true, eq_self, c70, H.e2, H.e3, en, el, et, kj6, kj7, q2, c1])
        refine go 60 (by decide) ?_
        simp only [KX, KY, KZ, KW, KV, Nat.reduceAdd, Nat.reduceSub, Nat.reduceLeDiff, true_and, and_true, true_or, or_true, or_self, reduceCtorEq, if_true, if_false, not_false_eq_true, eq_self, c70, H.e2, H.e3, en, el, et, kj6, kj7, q2, c1]
        first
          | exact kq
          | exact ⟨Or.inl rfl, kq⟩
  refine ma_enter (m := 70) (Or.inl (by decide)) (by show 4 ≤ mt_n 70; decide +kernel) ?_
  show At 70 Q 0 (mt_c 70) [some (.ref 2), some (.retAddr (2 + q)), some (.int (nI i)), some (.int (nI L)), none, none] [] h
  refine go 60 (by decide) ?_
  simp only [KX, KY, KZ, KW, KV, Nat.reduceAdd, Nat.reduceSub, Nat.reduceLeDiff, true_and, and_true, true_or, or_true, or_self, reduceCtorEq, if_true, if_false, not_false_eq_true, eq_self, c70, H.e2, H.e3, en, el, et, kj6, kj7, q2, c1]
  by_cases c : w.length = L
  · rw [if_pos (show nI w.length = nI L by rw [c])]
    first
      | (with_reducible show At 70 _ 10 _ _ _ _)
      | (refine go 60 (by decide) ?_; simp only [KX, KY, KZ, KW, KV, Nat.reduceAdd, Nat.reduceSub, Nat.reduceLeDiff, true_and, and_true, true_or, or_true, or_self, reduceCtorEq, if_true, if_false, not_false_eq_true, eq_self, c70, H.e2, H.e3, en, el, et, kj6, kj7])
    first
      | (with_reducible show At 70 _ 10 _ _ _ _)
      | (refine go 60 (by decide) ?_; simp only [KX, KY, KZ, KW, KV, Nat.reduceAdd, Nat.reduceSub, Nat.reduceLeDiff, true_and, and_true, true_or, or_true, or_self, reduceCtorEq, if_true, if_false, not_false_eq_true, eq_self, c70, H.e2, H.e3, en, el, et, kj6, kj7])
    first
      | (with_reducible show At 70 _ 10 _ _ _ _)
      | (refine go 60 (by decide) ?_; simp only [KX, KY, KZ, KW, KV, Nat.reduceAdd, Nat.reduceSub, Nat.reduceLeDiff, true_and, and_true, true_or, or_true, or_self, reduceCtorEq, if_true, if_false, not_false_eq_true, eq_self, c70, H.e2, H.e3, en, el, et, kj6, kj7])
    exact lp w.length 0 (by omega) c (fun x hx => absurd hx (Nat.not_lt_zero x)) k
  · have e1 : spl b i L w = false := by
      unfold spl
      rw [show (w.length == L) = false from beq_eq_false_iff_ne.mpr c, Bool.false_and]
    rw [e1] at k
    rw [if_neg (fun z => c ((nI_eq (by omega) (by omega)).mp z))]
    first
      | (with_reducible show At 70 _ 10 _ _ _ _)
      | (refine go 60 (by decide) ?_; simp only [KX, KY, KZ, KW, KV, Nat.reduceAdd, Nat.reduceSub, Nat.reduceLeDiff, true_and, and_true, true_or, or_true, or_self, reduceCtorEq, if_true, if_false, not_false_eq_true, eq_self, c70, H.e2, H.e3, en, el, et, kj6, kj7])
    first
      | (with_reducible show At 70 _ 10 _ _ _ _)
      | (refine go 60 (by decide) ?_; simp only [KX, KY, KZ, KW, KV, Nat.reduceAdd, Nat.reduceSub, Nat.reduceLeDiff, true_and, and_true, true_or, or_true, or_self, reduceCtorEq, if_true, if_false, not_false_eq_true, eq_self, c70, H.e2, H.e3, en, el, et, kj6, kj7])
    first
      | (with_reducible show At 70 _ 10 _ _ _ _)
      | (refine go 60 (by decide) ?_; simp only [KX, KY, KZ, KW, KV, Nat.reduceAdd, Nat.reduceSub, Nat.reduceLeDiff, true_and, and_true, true_or, or_true, or_self, reduceCtorEq, if_true, if_false, not_false_eq_true, eq_self, c70, H.e2, H.e3, en, el, et, kj6, kj7])
    refine go 60 (by decide) ?_
    simp only [KX, KY, KZ, KW, KV, Nat.reduceAdd, Nat.reduceSub, Nat.reduceLeDiff, true_and, and_true, true_or, or_true, or_self, reduceCtorEq, if_true, if_false, not_false_eq_true, eq_self, c70, H.e2, H.e3, en, el, et, kj6, kj7]
    first
      | exact k
      | exact ⟨Or.inl rfl, k⟩
