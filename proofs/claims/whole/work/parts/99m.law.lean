/-! law: the grammar; the class reads a comparison -/
/-- does it fit, the next token, the steps as the class has them, as the Model has them -/
abbrev PR : Type := Bool × Nat × List Tok × List Tok
def nots (q : Nat → Nat) : Nat → Nat → Nat
  | 0, _ => 0
  | f + 1, k => if q k = 262 then 1 + nots q f (k + 1) else 0
def pCmp (q : Nat → Nat) (k : Nat) : PR := if 3000 ≤ q k then if q (k + 1) = 60 ∨ q (k + 1) = 61 ∨ q (k + 1) = 62 then if 3000 ≤ q (k + 2) then (true, k + 3, [(q (k + 1) - 60, q k - 3000, q (k + 2) - 3000)], [(q (k + 1) - 60, q k - 3000, q (k + 2) - 3000)]) else (false, k + 2, [], []) else (false, k + 1, [], []) else (false, k, [], [])
def tkN : Tok := (3, 0, 0)
def tkA : Tok := (4, 0, 0)
def tkO : Tok := (5, 0, 0)
def pBr (q : Nat → Nat) (r : PR) : PR := if r.1 then if q r.2.1 = 41 then (true, r.2.1 + 1, r.2.2.1, r.2.2.2) else (false, r.2.1, r.2.2.1, r.2.2.2) else r
def pIn (q : Nat → Nat) (cnd : Option (Nat → PR)) (k : Nat) : PR := if q k = 40 then match cnd with
    | none => (false, k, [], [])
    | some c => pBr q (c (k + 1)) else pCmp q k
def pNot (nn : Nat) (r : PR) : PR := (r.1, r.2.1, r.2.2.1 ++ (if nn % 2 = 1 then [tkN] else []), r.2.2.2 ++ List.replicate nn tkN)
def pOne (q : Nat → Nat) (cnd : Option (Nat → PR)) (k : Nat) : PR := pNot (nots q 200 k) (pIn q cnd (k + nots q 200 k))
def pLoop (q : Nat → Nat) (sep : Nat) (op : Tok) (item : Nat → PR) : Nat → PR → PR
  | 0, r => r
  | f + 1, r => if r.1 = true ∧ q r.2.1 = sep then pLoop q sep op item f ((item (r.2.1 + 1)).1, (item (r.2.1 + 1)).2.1, r.2.2.1 ++ (item (r.2.1 + 1)).2.2.1 ++ [op], r.2.2.2 ++ (item (r.2.1 + 1)).2.2.2 ++ [op]) else r
def pAll (q : Nat → Nat) (cnd : Option (Nat → PR)) (k : Nat) : PR := pLoop q 261 tkA (pOne q cnd) 200 (pOne q cnd k)
def pCond (q : Nat → Nat) (cnd : Option (Nat → PR)) (k : Nat) : PR := pLoop q 260 tkO (pAll q cnd) 200 (pAll q cnd k)
/-- how far an item goes, how many steps it makes -/
def PG (q : Nat → Nat) (K : Nat) (pX : Nat → PR) : Prop := ∀ k, k ≤ K → k ≤ (pX k).2.1 ∧ (pX k).2.1 ≤ K ∧ (pX k).2.2.1.length ≤ (pX k).2.1 - k
theorem nots_ok {q : Nat → Nat} {K : Nat} (e : q K = 256) : ∀ f k, k ≤ K → k + nots q f k ≤ K
  | 0, k, h => h
  | f + 1, k, h => by
    show k + (if q k = 262 then 1 + nots q f (k + 1) else 0) ≤ K
    by_cases c : q k = 262
    · rw [if_pos c]
      have hk : k ≠ K := fun z => by rw [z, e] at c; exact absurd c (by decide)
      have := nots_ok e f (k + 1) (by omega)
      omega
    · rw [if_neg c]
      exact h
theorem pCmp_ok {q : Nat → Nat} {K : Nat} (e : q K = 256) : PG q K (pCmp q) := by
  intro k hk
  have ne : ∀ j, j ≤ K → q j ≠ 256 → j + 1 ≤ K := fun j hj z => by
    rcases Nat.lt_or_ge j K with c | c
    · exact c
    · exact absurd (by rw [show j = K by omega]; exact e) z
  unfold pCmp
  by_cases a : 3000 ≤ q k
  · rw [if_pos a]
    have k1 := ne k hk (by omega)
    by_cases b : q (k + 1) = 60 ∨ q (k + 1) = 61 ∨ q (k + 1) = 62
    · rw [if_pos b]
      have k2 := ne (k + 1) k1 (by omega)
      by_cases c : 3000 ≤ q (k + 2)
      · rw [if_pos c]
        have k3 := ne (k + 2) k2 (by omega)
        exact ⟨by show k ≤ k + 3; omega, k3, by show 1 ≤ k + 3 - k; omega⟩
      · rw [if_neg c]
        exact ⟨by show k ≤ k + 2; omega, k2, Nat.zero_le _⟩
    · rw [if_neg b]
      exact ⟨by show k ≤ k + 1; omega, k1, Nat.zero_le _⟩
  · rw [if_neg a]
    exact ⟨Nat.le_refl _, hk, Nat.zero_le _⟩
theorem pIn_ok {q : Nat → Nat} {K : Nat} (e : q K = 256) {cnd : Option (Nat → PR)} (hc : ∀ c, cnd = some c → PG q K c) : PG q K (pIn q cnd) := by
  intro k hk
  unfold pIn
  by_cases a : q k = 40
  · rw [if_pos a]
    have hK : k + 1 ≤ K := by
      rcases Nat.lt_or_ge k K with c | c
      · exact c
      · have z : k = K := by omega
        rw [z, e] at a
        exact absurd a (by decide)
    match cnd, hc with
    | none, _ => exact ⟨Nat.le_refl _, hk, Nat.zero_le _⟩
    | some c, hc =>
      obtain ⟨x1, x2, x3⟩ := hc c rfl (k + 1) hK
      show k ≤ (pBr q (c (k + 1))).2.1 ∧ (pBr q (c (k + 1))).2.1 ≤ K ∧ (pBr q (c (k + 1))).2.2.1.length ≤ (pBr q (c (k + 1))).2.1 - k
      unfold pBr
      generalize c (k + 1) = r at x1 x2 x3 ⊢
      by_cases y : r.1 = true
      · rw [if_pos y]
        by_cases z : q r.2.1 = 41
        · rw [if_pos z]
          have : r.2.1 ≠ K := fun w => by rw [w, e] at z; exact absurd z (by decide)
          exact ⟨by show k ≤ r.2.1 + 1; omega, by show r.2.1 + 1 ≤ K; omega, by show r.2.2.1.length ≤ r.2.1 + 1 - k; omega⟩
        · rw [if_neg z]
          exact ⟨by show k ≤ r.2.1; omega, x2, by show r.2.2.1.length ≤ r.2.1 - k; omega⟩
      · rw [if_neg y]
        exact ⟨by omega, x2, by omega⟩
  · rw [if_neg a]
    exact pCmp_ok e k hk
theorem pOne_ok {q : Nat → Nat} {K : Nat} (e : q K = 256) {cnd : Option (Nat → PR)} (hc : ∀ c, cnd = some c → PG q K c) : PG q K (pOne q cnd) := by
  intro k hk
  have n1 := nots_ok e 200 k hk
  obtain ⟨x1, x2, x3⟩ := pIn_ok e hc _ n1
  unfold pOne pNot
  refine ⟨by show k ≤ (pIn q cnd (k + nots q 200 k)).2.1; omega, x2, ?_⟩
  show (_ ++ _ : List Tok).length ≤ (pIn q cnd (k + nots q 200 k)).2.1 - k
  rw [List.length_append]
  split
  · simp only [List.length_cons, List.length_nil]
    omega
  · simp only [List.length_nil]
    omega
theorem pLoop_ok {q : Nat → Nat} {K sep : Nat} (e : q K = 256) (hs : sep ≠ 256) {op : Tok} {item : Nat → PR} (hi : PG q K item) {k : Nat} : ∀ f (r : PR), k ≤ r.2.1 → r.2.1 ≤ K → r.2.2.1.length ≤ r.2.1 - k → k ≤ (pLoop q sep op item f r).2.1 ∧ (pLoop q sep op item f r).2.1 ≤ K ∧ (pLoop q sep op item f r).2.2.1.length ≤ (pLoop q sep op item f r).2.1 - k
  | 0, r, a, b, c => ⟨a, b, c⟩
  | f + 1, r, a, b, c => by
    show k ≤ (if _ then _ else _ : PR).2.1 ∧ (if _ then _ else _ : PR).2.1 ≤ K ∧ (if _ then _ else _ : PR).2.2.1.length ≤ (if _ then _ else _ : PR).2.1 - k
    by_cases z : r.1 = true ∧ q r.2.1 = sep
    · rw [if_pos z]
      have hK : r.2.1 + 1 ≤ K := by
        rcases Nat.lt_or_ge r.2.1 K with y | y
        · exact y
        · have w : r.2.1 = K := by omega
          exact absurd (by rw [← z.2, w]; exact e) hs
      obtain ⟨x1, x2, x3⟩ := hi _ hK
      refine pLoop_ok e hs hi f _ (by show k ≤ (item (r.2.1 + 1)).2.1; omega) x2 ?_
      show (r.2.2.1 ++ (item (r.2.1 + 1)).2.2.1 ++ [op]).length ≤ (item (r.2.1 + 1)).2.1 - k
      simp only [List.length_append, List.length_cons, List.length_nil]
      omega
    · rw [if_neg z]
      exact ⟨a, b, c⟩
theorem pAll_ok {q : Nat → Nat} {K : Nat} (e : q K = 256) {cnd : Option (Nat → PR)} (hc : ∀ c, cnd = some c → PG q K c) : PG q K (pAll q cnd) := by
  intro k hk
  obtain ⟨a, b, c⟩ := pOne_ok e hc k hk
  exact pLoop_ok e (by decide) (pOne_ok e hc) 200 _ a b c
theorem pCond_ok {q : Nat → Nat} {K : Nat} (e : q K = 256) {cnd : Option (Nat → PR)} (hc : ∀ c, cnd = some c → PG q K c) : PG q K (pCond q cnd) := by
  intro k hk
  obtain ⟨a, b, c⟩ := pAll_ok e hc k hk
  exact pLoop_ok e (by decide) (pAll_ok e hc) 200 _ a b c
theorem seg_snoc {g : Nat → Int32} {C : List Int32} {v : Int32} (h : seg g 0 C) : seg (upd g C.length v) 0 (C ++ [v]) := by
  intro i x e
  rw [Nat.zero_add]
  unfold upd
  rcases Nat.lt_or_ge i C.length with c | c
  · rw [if_neg (by omega)]
    rw [List.getElem?_append_left c] at e
    have := h i x e
    rw [Nat.zero_add] at this
    exact this
  · rw [List.getElem?_append_right c] at e
    rcases Nat.eq_zero_or_pos (i - C.length) with z | z
    · rw [if_pos (by omega)]
      rw [z] at e
      exact Option.some.inj e
    · obtain ⟨m, hm⟩ : ∃ m, i - C.length = m + 1 := ⟨i - C.length - 1, by omega⟩
      rw [hm] at e
      exact absurd e (by simp)
theorem bv_cmp {a b : Nat} (hb : b < 1024) (ha : a < 2 ^ 20) : (BitVec.ofNat 32 a) <<< 10 ||| BitVec.ofNat 32 b = BitVec.ofNat 32 (a * 1024 + b) := by
  apply BitVec.eq_of_toNat_eq
  rw [BitVec.toNat_or, BitVec.toNat_shiftLeft, BitVec.toNat_ofNat, BitVec.toNat_ofNat, BitVec.toNat_ofNat, Nat.mod_eq_of_lt (show a < 2 ^ 32 by omega), Nat.mod_eq_of_lt (show b < 2 ^ 32 by omega), Nat.mod_eq_of_lt (show a * 1024 + b < 2 ^ 32 by omega), Nat.mod_eq_of_lt (by rw [Nat.shiftLeft_eq]; omega), ← Nat.shiftLeft_add_eq_or_of_lt (show b < 2 ^ 10 by omega), Nat.shiftLeft_eq]
theorem i_cmp {a b : Nat} (hb : b < 1024) (ha : a < 2 ^ 20) : nI a <<< ((10 : Int32) &&& 31) ||| nI b = nI (a * 1024 + b) := by
  apply Int32.toBitVec_inj.mp
  rw [Int32.toBitVec_or]
  exact bv_cmp hb ha
theorem s54 {h : ma_H} {Q : ma_Q} {l o r : Nat} (hl : l < 1006) (ho : o < 3) (hr : r < 1006) (k : Q (some (.int (tc (o, l, r)))) h) : ma_X 54 [.int (nI l), .int (nI o), .int (nI r)] h Q := by
  rw [tc_cmp ho] at k
  refine ma_enter (m := 54) (Or.inl (by decide)) (by show 3 ≤ mt_n 54; decide +kernel) ?_
  show At 54 Q 0 (mt_c 54) [some (.int (nI l)), some (.int (nI o)), some (.int (nI r))] [] h
  refine go 60 (by decide) ?_
  simp only [KX, KY, KZ, KW, KV, Nat.reduceAdd, Nat.reduceSub, Nat.reduceLeDiff, true_and, and_true, true_or, or_true, or_self, reduceCtorEq, if_true, if_false, not_false_eq_true, eq_self, c54]
  rw [i_cmp (by omega) (by omega), i_cmp (by omega) (by omega), show (o * 1024 + l) * 1024 + r = o * 1048576 + l * 1024 + r by omega]
  exact k
