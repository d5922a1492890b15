/-! THE LAW: what a COND comes to in the class -/
theorem bv_ush (n k : Nat) (hn : n < 2 ^ 31) : (BitVec.ofNat 32 n) >>> k = BitVec.ofNat 32 (n / 2 ^ k) := by
  apply BitVec.eq_of_toNat_eq
  rw [BitVec.toNat_ushiftRight, BitVec.toNat_ofNat, BitVec.toNat_ofNat, Nat.mod_eq_of_lt (show n < 2 ^ 32 by omega), Nat.mod_eq_of_lt (show n / 2 ^ k < 2 ^ 32 from Nat.lt_of_le_of_lt (Nat.div_le_self _ _) (by omega)), Nat.shiftRight_eq_div_pow]
theorem bv_1023 (n : Nat) : (BitVec.ofNat 32 n) &&& (1023#32) = BitVec.ofNat 32 (n % 1024) := by
  apply BitVec.eq_of_getLsbD_eq
  intro i hi
  rw [BitVec.getLsbD_and, BitVec.getLsbD_ofNat, BitVec.getLsbD_ofNat, BitVec.getLsbD_ofNat, show (1023 : Nat) = 2 ^ 10 - 1 from rfl, show (1024 : Nat) = 2 ^ 10 from rfl, Nat.testBit_two_pow_sub_one, Nat.testBit_mod_two_pow]
  generalize decide (i < 32) = a
  generalize decide (i < 10) = b
  generalize Nat.testBit n i = c
  cases a <;> cases b <;> cases c <;> rfl
theorem us10 {n : Nat} (hn : n < 2 ^ 31) : ((nI n).toUInt32 >>> ((10 : Int32).toUInt32 &&& Int32.toUInt32 31)).toInt32 = nI (n / 1024) := by
  apply Int32.toBitVec_inj.mp
  exact bv_ush n 10 hn
theorem us20 {n : Nat} (hn : n < 2 ^ 31) : ((nI n).toUInt32 >>> ((20 : Int32).toUInt32 &&& Int32.toUInt32 31)).toInt32 = nI (n / 1048576) := by
  apply Int32.toBitVec_inj.mp
  exact bv_ush n 20 hn
theorem an1023 (n : Nat) : nI n &&& 1023 = nI (n % 1024) := by
  apply Int32.toBitVec_inj.mp
  rw [Int32.toBitVec_and]
  exact bv_1023 n
theorem sub_neg : ∀ v, v < 1000 → nI v - 1000 < 0 := by decide +kernel
theorem sub_1000 (w : Nat) : nI (1000 + w) - 1000 = nI w := by
  rw [← nI_add, Int32.add_comm]
  exact Int32.add_sub_cancel (nI w) (nI 1000)
theorem i_ext {x y : Int32} (h : ∀ j, j < 32 → x.toBitVec.getLsbD j = y.toBitVec.getLsbD j) : x = y := Int32.toBitVec_inj.mp (BitVec.eq_of_getLsbD_eq h)
def bI (b : Bool) : Int32 := if b then 1 else 0
theorem bI01 (b : Bool) : bI b = 0 ∨ bI b = 1 := by
  cases b
  · exact Or.inl rfl
  · exact Or.inr rfl
/-- the class' stack of bits -/
def es : List Bool → Int32
  | [] => 1
  | b :: r => es r <<< (1 &&& 31) ||| bI b
def bB (b : Bool) : BitVec 32 := if b then 1#32 else 0#32
theorem bI_bv (b : Bool) : (bI b).toBitVec = bB b := by cases b <;> rfl
theorem es_bv (b : Bool) (r : List Bool) : (es (b :: r)).toBitVec = (es r).toBitVec <<< 1 ||| bB b := by
  show (es r <<< (1 &&& 31) ||| bI b).toBitVec = _
  rw [Int32.toBitVec_or, bI_bv]
  rfl
theorem bB_bit (b : Bool) (j : Nat) : (bB b).getLsbD j = (decide (j = 0) && b) := by
  cases b
  · show (0#32).getLsbD j = _
    simp
  · show (1#32).getLsbD j = _
    simp [BitVec.getLsbD_one]
theorem es_bit (b : Bool) (r : List Bool) (j : Nat) : (es (b :: r)).toBitVec.getLsbD j = if j = 0 then b else (decide (j < 32) && (es r).toBitVec.getLsbD (j - 1)) := by
  rw [es_bv, BitVec.getLsbD_or, BitVec.getLsbD_shiftLeft, bB_bit]
  by_cases c : j = 0
  · subst c
    simp
  · have c2 : ¬ j < 1 := by omega
    simp [c, c2]
theorem es_hi : ∀ (st : List Bool) (j : Nat), st.length < j → (es st).toBitVec.getLsbD j = false
  | [], j, h => by
    have c : j ≠ 0 := fun e => by subst e; exact absurd h (Nat.lt_irrefl 0)
    show (1#32).getLsbD j = false
    simp [BitVec.getLsbD_one, c]
  | b :: r, j, h => by
    have c : r.length + 1 < j := h
    rw [es_bit, if_neg (show ¬ j = 0 by omega), es_hi r (j - 1) (by omega), Bool.and_false]
theorem es_pop (b : Bool) (r : List Bool) (hr : r.length ≤ 30) : ((es (b :: r)).toUInt32 >>> ((1 : Int32).toUInt32 &&& Int32.toUInt32 31)).toInt32 = es r := by
  refine i_ext fun j hj => ?_
  show ((es (b :: r)).toBitVec >>> 1).getLsbD j = _
  rw [BitVec.getLsbD_ushiftRight, es_bit, if_neg (show ¬ 1 + j = 0 by omega), show 1 + j - 1 = j by omega]
  by_cases c : 1 + j < 32
  · simp [c]
  · rw [es_hi r j (by omega), Bool.and_false]
theorem one_bit (j : Nat) : ((1 : Int32)).toBitVec.getLsbD j = decide (j = 0) := by
  show (1#32).getLsbD j = _
  simp [BitVec.getLsbD_one]
theorem es_top (b : Bool) (r : List Bool) : es (b :: r) &&& 1 = bI b := by
  refine i_ext fun j hj => ?_
  rw [Int32.toBitVec_and, BitVec.getLsbD_and, es_bit, bI_bv, bB_bit, one_bit]
  by_cases c : j = 0
  · subst c
    simp
  · simp [c]
theorem es_not (b : Bool) (r : List Bool) : es (b :: r) ^^^ 1 = es ((!b) :: r) := by
  refine i_ext fun j hj => ?_
  rw [Int32.toBitVec_xor, BitVec.getLsbD_xor, es_bit, es_bit, one_bit]
  by_cases c : j = 0
  · subst c
    simp
  · simp [c]
theorem m2_bit (b : Bool) {j : Nat} (hj : j < 32) : (bI b ||| -2).toBitVec.getLsbD j = if j = 0 then b else true := by
  rw [Int32.toBitVec_or, BitVec.getLsbD_or, bI_bv, bB_bit, show ((-2 : Int32)).toBitVec = ~~~ 1#32 from by decide, BitVec.getLsbD_not, BitVec.getLsbD_one]
  by_cases c : j = 0
  · subst c
    simp
  · simp [c, hj]
theorem es_and (a b : Bool) (r : List Bool) : es (a :: r) &&& (bI b ||| -2) = es ((a && b) :: r) := by
  refine i_ext fun j hj => ?_
  rw [Int32.toBitVec_and, BitVec.getLsbD_and, m2_bit b hj, es_bit, es_bit]
  by_cases c : j = 0
  · simp only [if_pos c]
  · simp only [if_neg c, Bool.and_true]
theorem es_or (a b : Bool) (r : List Bool) : es (a :: r) ||| bI b = es ((a || b) :: r) := by
  refine i_ext fun j hj => ?_
  rw [Int32.toBitVec_or, BitVec.getLsbD_or, es_bit, es_bit, bI_bv, bB_bit]
  by_cases c : j = 0
  · subst c
    simp
  · simp [c]
def sres : List Bool → Bool
  | [] => true
  | b :: _ => b
theorem es_sres (st : List Bool) : es st &&& 1 = bI (sres st) := by
  cases st with
  | nil => decide
  | cons b r => exact es_top b r
def cb (F : Nat → Int32) (o l r : Nat) : Bool := match o with
  | 0 => decide (tv F l < tv F r)
  | 1 => decide (tv F l = tv F r)
  | _ => decide (tv F r < tv F l)
theorem tk_cmp (F : Nat → Int32) (D : Nat) {o : Nat} (ho : o < 3) (l r : Nat) (st : List Bool) : tk F D (o, l, r) st = if st.length < D then some (cb F o l r :: st) else none := by
  match o, ho with
  | 0, _ => rfl
  | 1, _ => rfl
  | 2, _ => rfl
theorem tc_cmp {o : Nat} (ho : o < 3) (l r : Nat) : tc (o, l, r) = nI (o * 1048576 + l * 1024 + r) := by
  match o, ho with
  | 0, _ => rfl
  | 1, _ => rfl
  | 2, _ => rfl
theorem tm_cmp {o : Nat} (ho : o < 3) (l r : Nat) : tm (o, l, r) = [tmv l, nI (60 + o), tmv r] := by
  match o, ho with
  | 0, _ => rfl
  | 1, _ => rfl
  | 2, _ => rfl
theorem ev_cons (F : Nat → Int32) (D : Nat) (t : Tok) (r : List Tok) (st : List Bool) : ev F D (t :: r) st = match tk F D t st with
    | some st' => ev F D r st'
    | none => none := rfl
theorem ls60_0 : (Op.lookupswitch.offset [(Int.ofNat 0, Int.ofNat 18), (Int.ofNat 1, Int.ofNat 25)] (Int.ofNat 32) (Int32.toInt (nI 0))).toNat = 18 := by decide
theorem ls60_1 : (Op.lookupswitch.offset [(Int.ofNat 0, Int.ofNat 18), (Int.ofNat 1, Int.ofNat 25)] (Int.ofNat 32) (Int32.toInt (nI 1))).toNat = 25 := by decide
theorem ls60_2 : (Op.lookupswitch.offset [(Int.ofNat 0, Int.ofNat 18), (Int.ofNat 1, Int.ofNat 25)] (Int.ofNat 32) (Int32.toInt (nI 2))).toNat = 32 := by decide
theorem s61 {h : ma_H} {Q : ma_Q} {v : Nat} {F : Nat → Int32} (h5 : h.2.1 56 = .inl (.int, 6, .inl F)) (hv : v < 1006) (k : Q (some (.int (tv F v))) h) : ma_X 61 [.int (nI v), .ref 56] h Q := by
  refine ma_enter (m := 61) (Or.inl (by decide)) (by show 2 ≤ mt_n 61; decide +kernel) ?_
  show At 61 Q 0 (mt_c 61) [some (.int (nI v)), some (.ref 56), none] [] h
  refine go 60 (by decide) ?_
  simp only [KX, KY, KZ, KW, KV, Nat.reduceAdd, Nat.reduceSub, Nat.reduceLeDiff, true_and, and_true, true_or, or_true, or_self, reduceCtorEq, if_true, if_false, not_false_eq_true, eq_self, c61, h5]
  by_cases c : v < 1000
  · rw [show tv F v = nI v from if_pos c] at k
    rw [if_pos (sub_neg v c)]
    exact k
  · obtain ⟨w, rfl⟩ : ∃ w, v = 1000 + w := ⟨v - 1000, by omega⟩
    rw [show tv F (1000 + w) = F w from (if_neg c).trans (by rw [Nat.add_sub_cancel_left])] at k
    rw [sub_1000, if_neg (nI_pos (show w < 2 ^ 31 by omega)), if_pos (nI_lt (show w < 6 by omega) (by decide)), nI_clamp (show w < 2 ^ 31 by omega)]
    exact ⟨nI_in (show w < 6 by omega) (by decide), k⟩
theorem s60 {h : ma_H} {Q : ma_Q} {o l r : Nat} {F : Nat → Int32} (h5 : h.2.1 56 = .inl (.int, 6, .inl F)) (ho : o < 3) (hl : l < 1006) (hr : r < 1006) (k : Q (some (.int (bI (cb F o l r)))) h) : ma_X 60 [.int (nI (o * 1048576 + l * 1024 + r)), .ref 56] h Q := by
  have hN : (o * 1048576 + l * 1024 + r) < 2 ^ 31 := by omega
  have e10 : ((nI (o * 1048576 + l * 1024 + r)).toUInt32 >>> ((10 : Int32).toUInt32 &&& Int32.toUInt32 31)).toInt32 &&& 1023 = nI l := by
    rw [us10 hN, an1023, show (o * 1048576 + l * 1024 + r) / 1024 % 1024 = l by omega]
  have e0 : nI (o * 1048576 + l * 1024 + r) &&& 1023 = nI r := by
    rw [an1023, show (o * 1048576 + l * 1024 + r) % 1024 = r by omega]
  have e20 : ((nI (o * 1048576 + l * 1024 + r)).toUInt32 >>> ((20 : Int32).toUInt32 &&& Int32.toUInt32 31)).toInt32 = nI o := by
    rw [us20 hN, show (o * 1048576 + l * 1024 + r) / 1048576 = o by omega]
  refine ma_enter (m := 60) (Or.inl (by decide)) (by show 2 ≤ mt_n 60; decide +kernel) ?_
  show At 60 Q 0 (mt_c 60) [some (.int (nI (o * 1048576 + l * 1024 + r))), some (.ref 56), none, none] [] h
  refine go 60 (by decide) ?_
  simp only [KX, KY, KZ, KW, KV, Nat.reduceAdd, Nat.reduceSub, Nat.reduceLeDiff, true_and, and_true, true_or, or_true, or_self, reduceCtorEq, if_true, if_false, not_false_eq_true, eq_self, c60, h5, e10, e0, e20]
  refine s61 h5 hl ?_
  refine go 60 (by decide) ?_
  simp only [KX, KY, KZ, KW, KV, Nat.reduceAdd, Nat.reduceSub, Nat.reduceLeDiff, true_and, and_true, true_or, or_true, or_self, reduceCtorEq, if_true, if_false, not_false_eq_true, eq_self, c60, h5, e10, e0, e20]
  refine s61 h5 hr ?_
  rcases (show o = 0 ∨ o = 1 ∨ o = 2 by omega) with rfl | rfl | rfl
  · refine go 60 (by decide) ?_
    simp only [KX, KY, KZ, KW, KV, Nat.reduceAdd, Nat.reduceSub, Nat.reduceLeDiff, true_and, and_true, true_or, or_true, or_self, reduceCtorEq, if_true, if_false, not_false_eq_true, eq_self, c60, h5, e10, e0, e20, ls60_0]
    by_cases c : tv F l < tv F r
    · rw [if_pos c]
      rw [show cb F 0 l r = true from decide_eq_true c] at k
      try (refine go 60 (by decide) ?_; simp only [KX, KY, KZ, KW, KV, Nat.reduceAdd, Nat.reduceSub, Nat.reduceLeDiff, true_and, and_true, true_or, or_true, or_self, reduceCtorEq, if_true, if_false, not_false_eq_true, eq_self, c60])
      exact k
    · rw [if_neg c]
      rw [show cb F 0 l r = false from decide_eq_false c] at k
      try (refine go 60 (by decide) ?_; simp only [KX, KY, KZ, KW, KV, Nat.reduceAdd, Nat.reduceSub, Nat.reduceLeDiff, true_and, and_true, true_or, or_true, or_self, reduceCtorEq, if_true, if_false, not_false_eq_true, eq_self, c60])
      exact k
  · refine go 60 (by decide) ?_
    simp only [KX, KY, KZ, KW, KV, Nat.reduceAdd, Nat.reduceSub, Nat.reduceLeDiff, true_and, and_true, true_or, or_true, or_self, reduceCtorEq, if_true, if_false, not_false_eq_true, eq_self, c60, h5, e10, e0, e20, ls60_1]
    by_cases c : tv F l = tv F r
    · rw [if_pos c]
      rw [show cb F 1 l r = true from decide_eq_true c] at k
      try (refine go 60 (by decide) ?_; simp only [KX, KY, KZ, KW, KV, Nat.reduceAdd, Nat.reduceSub, Nat.reduceLeDiff, true_and, and_true, true_or, or_true, or_self, reduceCtorEq, if_true, if_false, not_false_eq_true, eq_self, c60])
      exact k
    · rw [if_neg c]
      rw [show cb F 1 l r = false from decide_eq_false c] at k
      try (refine go 60 (by decide) ?_; simp only [KX, KY, KZ, KW, KV, Nat.reduceAdd, Nat.reduceSub, Nat.reduceLeDiff, true_and, and_true, true_or, or_true, or_self, reduceCtorEq, if_true, if_false, not_false_eq_true, eq_self, c60])
      exact k
  · refine go 60 (by decide) ?_
    simp only [KX, KY, KZ, KW, KV, Nat.reduceAdd, Nat.reduceSub, Nat.reduceLeDiff, true_and, and_true, true_or, or_true, or_self, reduceCtorEq, if_true, if_false, not_false_eq_true, eq_self, c60, h5, e10, e0, e20, ls60_2]
    by_cases c : tv F r < tv F l
    · rw [if_neg (Int32.not_le.mpr c)]
      rw [show cb F 2 l r = true from decide_eq_true c] at k
      try (refine go 60 (by decide) ?_; simp only [KX, KY, KZ, KW, KV, Nat.reduceAdd, Nat.reduceSub, Nat.reduceLeDiff, true_and, and_true, true_or, or_true, or_self, reduceCtorEq, if_true, if_false, not_false_eq_true, eq_self, c60])
      exact k
    · rw [if_pos (Int32.not_lt.mp c)]
      rw [show cb F 2 l r = false from decide_eq_false c] at k
      try (refine go 60 (by decide) ?_; simp only [KX, KY, KZ, KW, KV, Nat.reduceAdd, Nat.reduceSub, Nat.reduceLeDiff, true_and, and_true, true_or, or_true, or_self, reduceCtorEq, if_true, if_false, not_false_eq_true, eq_self, c60])
      exact k
theorem s59 {h : ma_H} {Q : ma_Q} {i a : Nat} {P : List Tok} {st : List Bool} (H : Sh h) {F : Nat → Int32} (h5 : h.2.1 56 = .inl (.int, 6, .inl F)) (hi : i < 8) (ea : if i = 0 then a = 0 else ai h 51 (i - 1) = nI a) (ce : ai h 51 i = nI (a + P.length)) (hP : a + P.length ≤ 200) (sg : seg (ai h 52) a (P.map tc)) (ok : ∀ t ∈ P, tok_ok t) (e : ev F 30 P [] = some st) (k : Q (some (.int (bI (sres st)))) h) : ma_X 59 [.ref 49, .int (nI i), .ref 56] h Q := by
  have i8 : i < 2 ^ 31 := by omega
  have lp : ∀ (P2 : List Tok) (j : Nat) (s0 : List Bool), (∀ k v, (P2.map tc)[k]? = some v → ai h 52 (a + j + k) = v) → (∀ t ∈ P2, tok_ok t) → j + P2.length = P.length → s0.length ≤ 30 → ev F 30 P2 s0 = some st → At 59 Q 15 (0, 0) [some (.ref 49), some (.int (nI i)), some (.ref 56), some (.int (es s0)), none, some (.int (nI (a + j))), none] [] h := by
    intro P2
    induction P2 with
    | nil =>
      intro j s0 w1 w2 w3 w4 w5
      obtain rfl : j = P.length := w3
      obtain rfl : s0 = st := Option.some.inj w5
      refine go 60 (by decide) ?_
      simp only [KX, KY, KZ, KW, KV, Nat.reduceAdd, Nat.reduceSub, Nat.reduceLeDiff, true_and, and_true, true_or, or_true, or_self, reduceCtorEq, if_true, if_false, not_false_eq_true, eq_self, c59, H.e49, H.e51, H.e52]
      rw [nI_clamp i8, ce]
      refine ⟨nI_in hi (by decide), ?_⟩
      rw [if_neg (nI_nlt (Nat.le_refl _) (by omega))]
      try (refine go 60 (by decide) ?_; simp only [KX, KY, KZ, KW, KV, Nat.reduceAdd, Nat.reduceSub, Nat.reduceLeDiff, true_and, and_true, true_or, or_true, or_self, reduceCtorEq, if_true, if_false, not_false_eq_true, eq_self, c59, H.e49, H.e51, H.e52])
      rw [es_sres]
      cases e : sres s0
      · rw [e] at k
        rw [if_neg (show ¬ bI false = 1 by decide)]
        try (refine go 60 (by decide) ?_; simp only [KX, KY, KZ, KW, KV, Nat.reduceAdd, Nat.reduceSub, Nat.reduceLeDiff, true_and, and_true, true_or, or_true, or_self, reduceCtorEq, if_true, if_false, not_false_eq_true, eq_self, c59, H.e49, H.e51, H.e52])
        exact k
      · rw [e] at k
        rw [if_pos (show bI true = 1 from rfl)]
        try (refine go 60 (by decide) ?_; simp only [KX, KY, KZ, KW, KV, Nat.reduceAdd, Nat.reduceSub, Nat.reduceLeDiff, true_and, and_true, true_or, or_true, or_self, reduceCtorEq, if_true, if_false, not_false_eq_true, eq_self, c59, H.e49, H.e51, H.e52])
        exact k
    | cons t r ih =>
      intro j s0 w1 w2 w3 w4 w5
      have w3 : j + (r.length + 1) = P.length := w3
      have wr : ∀ k v, (r.map tc)[k]? = some v → ai h 52 (a + (j + 1) + k) = v := fun k v e => by
        rw [show a + (j + 1) + k = a + j + (k + 1) by omega]
        exact w1 (k + 1) v (by rw [List.map_cons, List.getElem?_cons_succ]; exact e)
      have wo : ∀ t ∈ r, tok_ok t := fun t ht => w2 t (List.mem_cons_of_mem _ ht)
      have ok : tok_ok t := w2 t (by simp)
      obtain ⟨o, l, r2⟩ := t
      obtain ⟨ok1, ok2, ok3⟩ := ok
      dsimp only at ok1 ok2 ok3
      rcases (show o = 3 ∨ o = 4 ∨ o = 5 ∨ o < 3 by omega) with rfl | rfl | rfl | ho
      · have w0 : ai h 52 (a + j) = -1 := w1 0 _ rfl
        cases s0 with
        | nil => exact absurd (show (none : Option (List Bool)) = some st from w5) (by intro z; cases z)
        | cons b q =>
          skip
          refine go 60 (by decide) ?_
          simp only [KX, KY, KZ, KW, KV, Nat.reduceAdd, Nat.reduceSub, Nat.reduceLeDiff, true_and, and_true, true_or, or_true, or_self, reduceCtorEq, if_true, if_false, not_false_eq_true, eq_self, c59, H.e49, H.e51, H.e52]
          rw [nI_clamp i8, ce]
          refine ⟨nI_in hi (by decide), ?_⟩
          rw [if_pos (nI_lt (show a + j < a + P.length by omega) (by omega)), if_pos (nI_lt (show a + j < 200 by omega) (by decide)), nI_clamp (show a + j < 2 ^ 31 by omega), w0]
          refine ⟨nI_in (show a + j < 200 by omega) (by decide), ?_⟩
          simp only [KX, KY, KZ, KW, KV, Nat.reduceAdd, Nat.reduceSub, Nat.reduceLeDiff, true_and, and_true, true_or, or_true, or_self, reduceCtorEq, if_true, if_false, not_false_eq_true, eq_self, c59, show ((-1 : Int32).toInt < Int.negSucc 2 ∨ Int.negSucc 0 < (-1 : Int32).toInt) = False from by decide, show ((-1 : Int32).toInt - Int.negSucc 2).toNat = 2 from rfl, List.getD_cons_zero, List.getD_cons_succ]
          first
            | (with_reducible show At 59 _ 15 _ _ _ _)
            | (refine go 60 (by decide) ?_; simp only [KX, KY, KZ, KW, KV, Nat.reduceAdd, Nat.reduceSub, Nat.reduceLeDiff, true_and, and_true, true_or, or_true, or_self, reduceCtorEq, if_true, if_false, not_false_eq_true, eq_self, c59])
          first
            | (with_reducible show At 59 _ 15 _ _ _ _)
            | (refine go 60 (by decide) ?_; simp only [KX, KY, KZ, KW, KV, Nat.reduceAdd, Nat.reduceSub, Nat.reduceLeDiff, true_and, and_true, true_or, or_true, or_self, reduceCtorEq, if_true, if_false, not_false_eq_true, eq_self, c59])
          first
            | (with_reducible show At 59 _ 15 _ _ _ _)
            | (refine go 60 (by decide) ?_; simp only [KX, KY, KZ, KW, KV, Nat.reduceAdd, Nat.reduceSub, Nat.reduceLeDiff, true_and, and_true, true_or, or_true, or_self, reduceCtorEq, if_true, if_false, not_false_eq_true, eq_self, c59])
          rw [es_not]
          rw [nI_1 (a + j)]
          exact At_le (ih (j + 1) ((!b) :: q) wr wo (by omega) (by simp only [List.length_cons] at w4 ⊢; omega) w5) ⟨rfl, rfl, rfl, rfl, rfl, trivial⟩
      · have w0 : ai h 52 (a + j) = -2 := w1 0 _ rfl
        cases s0 with
        | nil => exact absurd (show (none : Option (List Bool)) = some st from w5) (by intro z; cases z)
        | cons b q0 =>
          cases q0 with
          | nil => exact absurd (show (none : Option (List Bool)) = some st from w5) (by intro z; cases z)
          | cons a0 q =>
            skip
            refine go 60 (by decide) ?_
            simp only [KX, KY, KZ, KW, KV, Nat.reduceAdd, Nat.reduceSub, Nat.reduceLeDiff, true_and, and_true, true_or, or_true, or_self, reduceCtorEq, if_true, if_false, not_false_eq_true, eq_self, c59, H.e49, H.e51, H.e52]
            rw [nI_clamp i8, ce]
            refine ⟨nI_in hi (by decide), ?_⟩
            rw [if_pos (nI_lt (show a + j < a + P.length by omega) (by omega)), if_pos (nI_lt (show a + j < 200 by omega) (by decide)), nI_clamp (show a + j < 2 ^ 31 by omega), w0]
            refine ⟨nI_in (show a + j < 200 by omega) (by decide), ?_⟩
            simp only [KX, KY, KZ, KW, KV, Nat.reduceAdd, Nat.reduceSub, Nat.reduceLeDiff, true_and, and_true, true_or, or_true, or_self, reduceCtorEq, if_true, if_false, not_false_eq_true, eq_self, c59, show ((-2 : Int32).toInt < Int.negSucc 2 ∨ Int.negSucc 0 < (-2 : Int32).toInt) = False from by decide, show ((-2 : Int32).toInt - Int.negSucc 2).toNat = 1 from rfl, List.getD_cons_zero, List.getD_cons_succ]
            first
              | (with_reducible show At 59 _ 15 _ _ _ _)
              | (refine go 60 (by decide) ?_; simp only [KX, KY, KZ, KW, KV, Nat.reduceAdd, Nat.reduceSub, Nat.reduceLeDiff, true_and, and_true, true_or, or_true, or_self, reduceCtorEq, if_true, if_false, not_false_eq_true, eq_self, c59])
            first
              | (with_reducible show At 59 _ 15 _ _ _ _)
              | (refine go 60 (by decide) ?_; simp only [KX, KY, KZ, KW, KV, Nat.reduceAdd, Nat.reduceSub, Nat.reduceLeDiff, true_and, and_true, true_or, or_true, or_self, reduceCtorEq, if_true, if_false, not_false_eq_true, eq_self, c59])
            first
              | (with_reducible show At 59 _ 15 _ _ _ _)
              | (refine go 60 (by decide) ?_; simp only [KX, KY, KZ, KW, KV, Nat.reduceAdd, Nat.reduceSub, Nat.reduceLeDiff, true_and, and_true, true_or, or_true, or_self, reduceCtorEq, if_true, if_false, not_false_eq_true, eq_self, c59])
            rw [es_top, es_pop b (a0 :: q) (by simp only [List.length_cons] at w4 ⊢; omega), es_and]
            rw [nI_1 (a + j)]
            exact At_le (ih (j + 1) ((a0 && b) :: q) wr wo (by omega) (by simp only [List.length_cons] at w4 ⊢; omega) w5) ⟨rfl, rfl, rfl, rfl, rfl, trivial⟩
      · have w0 : ai h 52 (a + j) = -3 := w1 0 _ rfl
        cases s0 with
        | nil => exact absurd (show (none : Option (List Bool)) = some st from w5) (by intro z; cases z)
        | cons b q0 =>
          cases q0 with
          | nil => exact absurd (show (none : Option (List Bool)) = some st from w5) (by intro z; cases z)
          | cons a0 q =>
            skip
            refine go 60 (by decide) ?_
            simp only [KX, KY, KZ, KW, KV, Nat.reduceAdd, Nat.reduceSub, Nat.reduceLeDiff, true_and, and_true, true_or, or_true, or_self, reduceCtorEq, if_true, if_false, not_false_eq_true, eq_self, c59, H.e49, H.e51, H.e52]
            rw [nI_clamp i8, ce]
            refine ⟨nI_in hi (by decide), ?_⟩
            rw [if_pos (nI_lt (show a + j < a + P.length by omega) (by omega)), if_pos (nI_lt (show a + j < 200 by omega) (by decide)), nI_clamp (show a + j < 2 ^ 31 by omega), w0]
            refine ⟨nI_in (show a + j < 200 by omega) (by decide), ?_⟩
            simp only [KX, KY, KZ, KW, KV, Nat.reduceAdd, Nat.reduceSub, Nat.reduceLeDiff, true_and, and_true, true_or, or_true, or_self, reduceCtorEq, if_true, if_false, not_false_eq_true, eq_self, c59, show ((-3 : Int32).toInt < Int.negSucc 2 ∨ Int.negSucc 0 < (-3 : Int32).toInt) = False from by decide, show ((-3 : Int32).toInt - Int.negSucc 2).toNat = 0 from rfl, List.getD_cons_zero, List.getD_cons_succ]
            first
              | (with_reducible show At 59 _ 15 _ _ _ _)
              | (refine go 60 (by decide) ?_; simp only [KX, KY, KZ, KW, KV, Nat.reduceAdd, Nat.reduceSub, Nat.reduceLeDiff, true_and, and_true, true_or, or_true, or_self, reduceCtorEq, if_true, if_false, not_false_eq_true, eq_self, c59])
            first
              | (with_reducible show At 59 _ 15 _ _ _ _)
              | (refine go 60 (by decide) ?_; simp only [KX, KY, KZ, KW, KV, Nat.reduceAdd, Nat.reduceSub, Nat.reduceLeDiff, true_and, and_true, true_or, or_true, or_self, reduceCtorEq, if_true, if_false, not_false_eq_true, eq_self, c59])
            first
              | (with_reducible show At 59 _ 15 _ _ _ _)
              | (refine go 60 (by decide) ?_; simp only [KX, KY, KZ, KW, KV, Nat.reduceAdd, Nat.reduceSub, Nat.reduceLeDiff, true_and, and_true, true_or, or_true, or_self, reduceCtorEq, if_true, if_false, not_false_eq_true, eq_self, c59])
            rw [es_top, es_pop b (a0 :: q) (by simp only [List.length_cons] at w4 ⊢; omega), es_or]
            rw [nI_1 (a + j)]
            exact At_le (ih (j + 1) ((a0 || b) :: q) wr wo (by omega) (by simp only [List.length_cons] at w4 ⊢; omega) w5) ⟨rfl, rfl, rfl, rfl, rfl, trivial⟩
      · have w0 : ai h 52 (a + j) = nI (o * 1048576 + l * 1024 + r2) := (w1 0 _ rfl).trans (tc_cmp ho l r2)
        rw [ev_cons, tk_cmp F 30 ho] at w5
        by_cases c : s0.length < 30
        · rw [if_pos c] at w5
          have sw : ((nI (o * 1048576 + l * 1024 + r2)).toInt < Int.negSucc 2 ∨ Int.negSucc 0 < (nI (o * 1048576 + l * 1024 + r2)).toInt) = True := by
            rw [nI_toInt (by omega)]
            exact eq_true (Or.inr (by omega))
          refine go 60 (by decide) ?_
          simp only [KX, KY, KZ, KW, KV, Nat.reduceAdd, Nat.reduceSub, Nat.reduceLeDiff, true_and, and_true, true_or, or_true, or_self, reduceCtorEq, if_true, if_false, not_false_eq_true, eq_self, c59, H.e49, H.e51, H.e52]
          rw [nI_clamp i8, ce]
          refine ⟨nI_in hi (by decide), ?_⟩
          rw [if_pos (nI_lt (show a + j < a + P.length by omega) (by omega)), if_pos (nI_lt (show a + j < 200 by omega) (by decide)), nI_clamp (show a + j < 2 ^ 31 by omega), w0]
          refine ⟨nI_in (show a + j < 200 by omega) (by decide), ?_⟩
          simp only [KX, KY, KZ, KW, KV, Nat.reduceAdd, Nat.reduceSub, Nat.reduceLeDiff, true_and, and_true, true_or, or_true, or_self, reduceCtorEq, if_true, if_false, not_false_eq_true, eq_self, c59, sw]
          refine ⟨nI_in (show a + j < 200 by omega) (by decide), ?_⟩
          refine s60 h5 ho ok2 ok3 ?_
          have ih2 := ih (j + 1) (cb F o l r2 :: s0) wr wo (by omega) (by simp only [List.length_cons]; omega) w5
          cases e : cb F o l r2
          · rw [e] at ih2
            rw [show bI false = 0 from rfl]
            first
              | (with_reducible show At 59 _ 15 _ _ _ _)
              | (refine go 60 (by decide) ?_; simp only [KX, KY, KZ, KW, KV, Nat.reduceAdd, Nat.reduceSub, Nat.reduceLeDiff, true_and, and_true, true_or, or_true, or_self, reduceCtorEq, if_true, if_false, not_false_eq_true, eq_self, c59, H.e49, H.e51, H.e52])
            first
              | (with_reducible show At 59 _ 15 _ _ _ _)
              | (refine go 60 (by decide) ?_; simp only [KX, KY, KZ, KW, KV, Nat.reduceAdd, Nat.reduceSub, Nat.reduceLeDiff, true_and, and_true, true_or, or_true, or_self, reduceCtorEq, if_true, if_false, not_false_eq_true, eq_self, c59, H.e49, H.e51, H.e52])
            first
              | (with_reducible show At 59 _ 15 _ _ _ _)
              | (refine go 60 (by decide) ?_; simp only [KX, KY, KZ, KW, KV, Nat.reduceAdd, Nat.reduceSub, Nat.reduceLeDiff, true_and, and_true, true_or, or_true, or_self, reduceCtorEq, if_true, if_false, not_false_eq_true, eq_self, c59, H.e49, H.e51, H.e52])
            rw [nI_1 (a + j)]
            exact At_le ih2 ⟨rfl, rfl, rfl, rfl, rfl, trivial⟩
          · rw [e] at ih2
            rw [show bI true = 1 from rfl]
            first
              | (with_reducible show At 59 _ 15 _ _ _ _)
              | (refine go 60 (by decide) ?_; simp only [KX, KY, KZ, KW, KV, Nat.reduceAdd, Nat.reduceSub, Nat.reduceLeDiff, true_and, and_true, true_or, or_true, or_self, reduceCtorEq, if_true, if_false, not_false_eq_true, eq_self, c59, H.e49, H.e51, H.e52])
            first
              | (with_reducible show At 59 _ 15 _ _ _ _)
              | (refine go 60 (by decide) ?_; simp only [KX, KY, KZ, KW, KV, Nat.reduceAdd, Nat.reduceSub, Nat.reduceLeDiff, true_and, and_true, true_or, or_true, or_self, reduceCtorEq, if_true, if_false, not_false_eq_true, eq_self, c59, H.e49, H.e51, H.e52])
            first
              | (with_reducible show At 59 _ 15 _ _ _ _)
              | (refine go 60 (by decide) ?_; simp only [KX, KY, KZ, KW, KV, Nat.reduceAdd, Nat.reduceSub, Nat.reduceLeDiff, true_and, and_true, true_or, or_true, or_self, reduceCtorEq, if_true, if_false, not_false_eq_true, eq_self, c59, H.e49, H.e51, H.e52])
            rw [nI_1 (a + j)]
            exact At_le ih2 ⟨rfl, rfl, rfl, rfl, rfl, trivial⟩
        · rw [if_neg c] at w5
          exact absurd (show (none : Option (List Bool)) = some st from w5) (by intro z; cases z)
  refine ma_enter (m := 59) (Or.inl (by decide)) (by show 3 ≤ mt_n 59; decide +kernel) ?_
  show At 59 Q 0 (mt_c 59) [some (.ref 49), some (.int (nI i)), some (.ref 56), none, none, none, none] [] h
  refine go 60 (by decide) ?_
  simp only [KX, KY, KZ, KW, KV, Nat.reduceAdd, Nat.reduceSub, Nat.reduceLeDiff, true_and, and_true, true_or, or_true, or_self, reduceCtorEq, if_true, if_false, not_false_eq_true, eq_self, c59, H.e49, H.e51, H.e52]
  have l0 := lp P 0 [] (fun k v w => sg k v w) ok (by omega) (by simp) e
  by_cases c : i = 0
  · subst c
    rw [if_pos rfl] at ea
    subst ea
    rw [if_pos (show nI 0 ≤ 0 by decide)]
    first
      | (with_reducible show At 59 _ 15 _ _ _ _)
      | (refine go 60 (by decide) ?_; simp only [KX, KY, KZ, KW, KV, Nat.reduceAdd, Nat.reduceSub, Nat.reduceLeDiff, true_and, and_true, true_or, or_true, or_self, reduceCtorEq, if_true, if_false, not_false_eq_true, eq_self, c59, H.e49, H.e51, H.e52])
    first
      | (with_reducible show At 59 _ 15 _ _ _ _)
      | (refine go 60 (by decide) ?_; simp only [KX, KY, KZ, KW, KV, Nat.reduceAdd, Nat.reduceSub, Nat.reduceLeDiff, true_and, and_true, true_or, or_true, or_self, reduceCtorEq, if_true, if_false, not_false_eq_true, eq_self, c59, H.e49, H.e51, H.e52])
    first
      | (with_reducible show At 59 _ 15 _ _ _ _)
      | (refine go 60 (by decide) ?_; simp only [KX, KY, KZ, KW, KV, Nat.reduceAdd, Nat.reduceSub, Nat.reduceLeDiff, true_and, and_true, true_or, or_true, or_self, reduceCtorEq, if_true, if_false, not_false_eq_true, eq_self, c59, H.e49, H.e51, H.e52])
    exact At_le l0 ⟨rfl, rfl, rfl, rfl, rfl, trivial⟩
  · rw [if_neg c] at ea
    obtain ⟨m, rfl⟩ : ∃ m, i = m + 1 := ⟨i - 1, by omega⟩
    rw [if_neg (show ¬ nI (m + 1) ≤ 0 from nI_ge (a := 0) (by omega) (by omega)), nI_pred, nI_clamp (show m < 2 ^ 31 by omega)]
    rw [Nat.add_sub_cancel] at ea
    rw [ea]
    refine ⟨nI_in (show m < 8 by omega) (by decide), ?_⟩
    first
      | (with_reducible show At 59 _ 15 _ _ _ _)
      | (refine go 60 (by decide) ?_; simp only [KX, KY, KZ, KW, KV, Nat.reduceAdd, Nat.reduceSub, Nat.reduceLeDiff, true_and, and_true, true_or, or_true, or_self, reduceCtorEq, if_true, if_false, not_false_eq_true, eq_self, c59, H.e49, H.e51, H.e52])
    first
      | (with_reducible show At 59 _ 15 _ _ _ _)
      | (refine go 60 (by decide) ?_; simp only [KX, KY, KZ, KW, KV, Nat.reduceAdd, Nat.reduceSub, Nat.reduceLeDiff, true_and, and_true, true_or, or_true, or_self, reduceCtorEq, if_true, if_false, not_false_eq_true, eq_self, c59, H.e49, H.e51, H.e52])
    first
      | (with_reducible show At 59 _ 15 _ _ _ _)
      | (refine go 60 (by decide) ?_; simp only [KX, KY, KZ, KW, KV, Nat.reduceAdd, Nat.reduceSub, Nat.reduceLeDiff, true_and, and_true, true_or, or_true, or_self, reduceCtorEq, if_true, if_false, not_false_eq_true, eq_self, c59, H.e49, H.e51, H.e52])
    exact At_le l0 ⟨rfl, rfl, rfl, rfl, rfl, trivial⟩
