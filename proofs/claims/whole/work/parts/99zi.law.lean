/-! law: the steps are steps -/
def TKo (r : PR) : Prop := (∀ t ∈ r.2.2.1, tok_ok t) ∧ ∀ t ∈ r.2.2.2, tok_ok t
theorem tk_N : tok_ok tkN := ⟨by decide, by decide, by decide⟩
theorem tk_A : tok_ok tkA := ⟨by decide, by decide, by decide⟩
theorem tk_O : tok_ok tkO := ⟨by decide, by decide, by decide⟩
theorem TKo.nil {a : Bool} {k : Nat} : TKo (a, k, [], []) := ⟨fun t h => absurd h List.not_mem_nil, fun t h => absurd h List.not_mem_nil⟩
theorem TKo.cmp {q : Nat → Nat} (hq : ∀ k, q k < 4006) (k : Nat) : TKo (pCmp q k) := by
  unfold pCmp
  by_cases a : 3000 ≤ q k
  · rw [if_pos a]
    by_cases c : q (k + 1) = 60 ∨ q (k + 1) = 61 ∨ q (k + 1) = 62
    · rw [if_pos c]
      by_cases d : 3000 ≤ q (k + 2)
      · rw [if_pos d]
        have h : tok_ok (q (k + 1) - 60, q k - 3000, q (k + 2) - 3000) := ⟨by show q (k + 1) - 60 < 6; omega, by show q k - 3000 < 1006; have := hq k; omega, by show q (k + 2) - 3000 < 1006; have := hq (k + 2); omega⟩
        exact ⟨fun t m => by rw [List.mem_singleton.mp m]; exact h, fun t m => by rw [List.mem_singleton.mp m]; exact h⟩
      · rw [if_neg d]; exact TKo.nil
    · rw [if_neg c]; exact TKo.nil
  · rw [if_neg a]; exact TKo.nil
theorem TKo.not {m : Nat} {r : PR} (h : TKo r) : TKo (pNot m r) := by
  refine ⟨fun t x => ?_, fun t x => ?_⟩
  · rcases List.mem_append.mp x with y | y
    · exact h.1 t y
    · split at y
      · rw [List.mem_singleton.mp y]; exact tk_N
      · exact absurd y List.not_mem_nil
  · rcases List.mem_append.mp x with y | y
    · exact h.2 t y
    · rw [List.eq_of_mem_replicate y]; exact tk_N
theorem TKo.one {q : Nat → Nat} (hq : ∀ k, q k < 4006) {cnd : Option (Nat → PR)} (hc : ∀ c, cnd = some c → ∀ i, TKo (c i)) (k : Nat) : TKo (pOne q cnd k) := by
  refine TKo.not ?_
  unfold pIn
  by_cases y : q (k + nots q 200 k) = 40
  · rw [if_pos y]
    match cnd, hc with
    | none, _ => exact TKo.nil
    | some c, hc =>
      have h := hc c rfl (k + nots q 200 k + 1)
      show TKo (pBr q (c (k + nots q 200 k + 1)))
      unfold pBr
      split
      · split
        · exact h
        · exact h
      · exact h
  · rw [if_neg y]
    exact TKo.cmp hq _
theorem TKo.loop {q : Nat → Nat} {sep : Nat} {op : Tok} {item : Nat → PR} (ho : tok_ok op) (hi : ∀ i, TKo (item i)) : ∀ f (r : PR), TKo r → TKo (pLoop q sep op item f r)
  | 0, r, h => h
  | f + 1, r, h => by
    show TKo (if _ then _ else _)
    split
    · refine TKo.loop ho hi f _ ⟨fun t x => ?_, fun t x => ?_⟩
      · rcases List.mem_append.mp x with y | y
        · rcases List.mem_append.mp y with y | y
          · exact h.1 t y
          · exact (hi _).1 t y
        · rw [List.mem_singleton.mp y]; exact ho
      · rcases List.mem_append.mp x with y | y
        · rcases List.mem_append.mp y with y | y
          · exact h.2 t y
          · exact (hi _).2 t y
        · rw [List.mem_singleton.mp y]; exact ho
    · exact h
theorem TKo.cond {q : Nat → Nat} (hq : ∀ k, q k < 4006) {cnd : Option (Nat → PR)} (hc : ∀ c, cnd = some c → ∀ i, TKo (c i)) (k : Nat) : TKo (pCond q cnd k) := TKo.loop tk_O (fun i => TKo.loop tk_A (fun i => TKo.one hq hc i) 200 _ (TKo.one hq hc i)) 200 _ (TKo.loop tk_A (fun i => TKo.one hq hc i) 200 _ (TKo.one hq hc k))
theorem TK0 {q : Nat → Nat} (hq : ∀ k, q k < 4006) (k : Nat) : TKo (pC0 q k) := TKo.cond hq (fun c z i => by cases z; exact TKo.cond hq (fun c z i => by cases z; exact TKo.cond hq (fun c z i => by cases z; exact TKo.cond hq (fun c z i => by cases z) i) i) i) k
