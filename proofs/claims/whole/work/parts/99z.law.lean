/-! law: settling -/
/-- what settling x makes of the signs and the pending ones -/
def stl (x : Int32) (r : List Int32 × List Int32) : List Int32 × List Int32 := (r.1 ++ List.replicate (popx x r.2) x, r.2.drop (popx x r.2))
theorem popx_le {x : Int32} : ∀ S, popx x S ≤ S.length
  | [] => Nat.le_refl _
  | y :: r => by
    have := popx_le (x := x) r
    show (if y = x then 1 + popx x r else 0) ≤ r.length + 1
    split <;> omega
theorem stl_len {x : Int32} {r : List Int32 × List Int32} : (stl x r).1.length + (stl x r).2.length = r.1.length + r.2.length := by
  have := popx_le (x := x) r.2
  show (r.1 ++ List.replicate (popx x r.2) x).length + (r.2.drop (popx x r.2)).length = _
  rw [List.length_append, List.length_replicate, List.length_drop]
  omega
theorem popx_rep {x : Int32} {S : List Int32} : ∀ m, popx x (List.replicate m x ++ S) = m + popx x S
  | 0 => (Nat.zero_add _).symm
  | m + 1 => by
    rw [List.replicate_succ, List.cons_append]
    show (if x = x then 1 + popx x (List.replicate m x ++ S) else 0) = _
    rw [if_pos rfl, popx_rep m]
    omega
theorem drop_rep {x : Int32} {S : List Int32} : ∀ m, (List.replicate m x ++ S).drop m = S
  | 0 => rfl
  | m + 1 => by
    rw [List.replicate_succ, List.cons_append, List.drop_succ_cons]
    exact drop_rep m
theorem stl_0 {x : Int32} {F S : List Int32} (h : popx x S = 0) : stl x (F, S) = (F, S) := by
  show (F ++ List.replicate (popx x S) x, S.drop (popx x S)) = _
  rw [h, List.replicate_zero, List.append_nil, List.drop_zero]
theorem stl_1 {x : Int32} {F S : List Int32} (h : popx x S = 0) : stl x (F, x :: S) = (F ++ [x], S) := by
  show (F ++ List.replicate (if x = x then 1 + popx x S else 0) x, (x :: S).drop (if x = x then 1 + popx x S else 0)) = _
  rw [if_pos rfl, h]
  rfl
theorem popx_ne {x y : Int32} {S : List Int32} (h : ¬ y = x) : popx x (y :: S) = 0 := if_neg h
theorem tms_app : ∀ (A B : List Tok), tms (A ++ B) = tms A ++ tms B
  | [], _ => rfl
  | t :: r, B => by
    show tm t ++ tms (r ++ B) = (tm t ++ tms r) ++ tms B
    rw [tms_app r B, List.append_assoc]
theorem tms_rep : ∀ m, tms (List.replicate m tkN) = List.replicate m 40002
  | 0 => rfl
  | m + 1 => by
    rw [List.replicate_succ, List.replicate_succ]
    show [40002] ++ tms (List.replicate m tkN) = _
    rw [tms_rep m]
    rfl
theorem pLoop_ne {q : Nat → Nat} {K sep : Nat} (e : q K = 256) (hs : sep ≠ 256) {op : Tok} {item : Nat → PR} (hi : PG q K item) : ∀ f (r : PR), K ≤ r.2.1 + f → r.2.1 ≤ K → (pLoop q sep op item f r).1 = true → q (pLoop q sep op item f r).2.1 ≠ sep
  | 0, r, a, b, _ => by
    show q r.2.1 ≠ sep
    rw [show r.2.1 = K by omega, e]
    exact fun z => hs z.symm
  | f + 1, r, a, b, ok => by
    by_cases z : r.1 = true ∧ q r.2.1 = sep
    · have hK : r.2.1 + 1 ≤ K := by
        rcases Nat.lt_or_ge r.2.1 K with y | y
        · exact y
        · have w : r.2.1 = K := by omega
          exact absurd (by rw [← z.2, w]; exact e) hs
      obtain ⟨x1, x2, x3⟩ := hi _ hK
      rw [pLoop_go z.1 z.2] at ok ⊢
      exact pLoop_ne e hs hi f _ (by show K ≤ (item (r.2.1 + 1)).2.1 + f; omega) x2 ok
    · have en : pLoop q sep op item (f + 1) r = r := if_neg z
      rw [en] at ok ⊢
      exact fun w => z ⟨ok, w⟩
theorem pLoop_inv {q : Nat → Nat} {K sep : Nat} (e : q K = 256) (hs : sep ≠ 256) {op : Tok} {item : Nat → PR} (hi : PG q K item) {c : Nat → Prop} (hc : ∀ j, j ≤ K → (item j).1 = true → c (item j).2.1) : ∀ f (r : PR), r.2.1 ≤ K → (r.1 = true → c r.2.1) → (pLoop q sep op item f r).1 = true → c (pLoop q sep op item f r).2.1
  | 0, r, b, cr, ok => cr ok
  | f + 1, r, b, cr, ok => by
    by_cases z : r.1 = true ∧ q r.2.1 = sep
    · have hK : r.2.1 + 1 ≤ K := by
        rcases Nat.lt_or_ge r.2.1 K with y | y
        · exact y
        · have w : r.2.1 = K := by omega
          exact absurd (by rw [← z.2, w]; exact e) hs
      obtain ⟨x1, x2, x3⟩ := hi _ hK
      rw [pLoop_go z.1 z.2] at ok ⊢
      exact pLoop_inv e hs hi hc f _ x2 (fun w => hc _ hK w) ok
    · have en : pLoop q sep op item (f + 1) r = r := if_neg z
      rw [en] at ok ⊢
      exact cr ok
theorem pAll_ne {q : Nat → Nat} {K : Nat} (e : q K = 256) (K2 : K ≤ 200) {cnd : Option (Nat → PR)} (hc : ∀ c, cnd = some c → PG q K c) {k : Nat} (hk : k ≤ K) (ok : (pAll q cnd k).1 = true) : q (pAll q cnd k).2.1 ≠ 261 := by
  obtain ⟨a, b, c⟩ := pOne_ok e hc k hk
  exact pLoop_ne e (by decide) (pOne_ok e hc) 200 _ (by omega) b ok
theorem pCond_ne {q : Nat → Nat} {K : Nat} (e : q K = 256) (K2 : K ≤ 200) {cnd : Option (Nat → PR)} (hc : ∀ c, cnd = some c → PG q K c) {k : Nat} (hk : k ≤ K) (ok : (pCond q cnd k).1 = true) : q (pCond q cnd k).2.1 ≠ 261 ∧ q (pCond q cnd k).2.1 ≠ 260 := by
  obtain ⟨a, b, c⟩ := pAll_ok e hc k hk
  exact ⟨pLoop_inv e (by decide) (pAll_ok e hc) (c := fun j => q j ≠ 261) (fun j hj w => pAll_ne e K2 hc hj w) 200 _ b (fun w => pAll_ne e K2 hc hk w) ok, pLoop_ne e (by decide) (pAll_ok e hc) 200 _ (by omega) b ok⟩
