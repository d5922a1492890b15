/-! law: what a COND comes to, on -/
theorem ev_cmp {F : Nat → Int32} {D o l r : Nat} {st : List Bool} (ho : o = 0 ∨ o = 1 ∨ o = 2) (h : st.length < D) : ev F D [(o, l, r)] st = some ((if o = 0 then decide (tv F l < tv F r) else if o = 1 then decide (tv F l = tv F r) else decide (tv F r < tv F l)) :: st) := by
  obtain rfl | rfl | rfl := ho
  · show (match (if st.length < D then some (decide (tv F l < tv F r) :: st) else none) with
      | some st' => ev F D [] st'
      | none => none) = _
    rw [if_pos h]
    rfl
  · show (match (if st.length < D then some (decide (tv F l = tv F r) :: st) else none) with
      | some st' => ev F D [] st'
      | none => none) = _
    rw [if_pos h]
    rfl
  · show (match (if st.length < D then some (decide (tv F r < tv F l) :: st) else none) with
      | some st' => ev F D [] st'
      | none => none) = _
    rw [if_pos h]
    rfl
theorem EVo.cmp {q : Nat → Nat} {k : Nat} (ok : (pCmp q k).1 = true) : EVo 0 (pCmp q k) := by
  unfold pCmp at ok ⊢
  by_cases a : 3000 ≤ q k
  · rw [if_pos a] at ok ⊢
    by_cases c : q (k + 1) = 60 ∨ q (k + 1) = 61 ∨ q (k + 1) = 62
    · rw [if_pos c] at ok ⊢
      by_cases d : 3000 ≤ q (k + 2)
      · rw [if_pos d]
        exact fun F => ⟨_, fun D st l => ⟨ev_cmp (by omega) (by omega), ev_cmp (by omega) (by omega)⟩⟩
      · rw [if_neg d] at ok
        exact absurd ok (by simp)
    · rw [if_neg c] at ok
      exact absurd ok (by simp)
  · rw [if_neg a] at ok
    exact absurd ok (by simp)
theorem EVo.loop {q : Nat → Nat} {sep j : Nat} {op : Tok} {item : Nat → PR} {g : Bool → Bool → Bool} (ho : ∀ F D a c st, ev F D [op] (c :: a :: st) = some (g a c :: st)) (hi : ∀ i, (item i).1 = true → EVo j (item i)) : ∀ f (r : PR), (r.1 = true → EVo (j + 1) r) → (pLoop q sep op item f r).1 = true → EVo (j + 1) (pLoop q sep op item f r)
  | 0, r, h, ok => h ok
  | f + 1, r, h, ok => by
    by_cases z : r.1 = true ∧ q r.2.1 = sep
    · rw [pLoop_go z.1 z.2] at ok ⊢
      refine EVo.loop ho hi f _ (fun w => ?_) ok
      intro F
      obtain ⟨v, hv⟩ := h z.1 F
      obtain ⟨u, hu⟩ := hi _ w F
      refine ⟨g v u, fun D st l => ?_⟩
      obtain ⟨a1, a2⟩ := hv D st l
      obtain ⟨b1, b2⟩ := hu D (v :: st) (by rw [List.length_cons]; omega)
      exact ⟨(ev_app _ _ _ ((ev_app _ _ _ a1).trans b1)).trans (ho F D v u st), (ev_app _ _ _ ((ev_app _ _ _ a2).trans b2)).trans (ho F D v u st)⟩
    · have en : pLoop q sep op item (f + 1) r = r := if_neg z
      rw [en] at ok ⊢
      exact h ok
theorem EVo.one {q : Nat → Nat} {j : Nat} {cnd : Option (Nat → PR)} (hc : ∀ c, cnd = some c → ∀ i, (c i).1 = true → EVo j (c i)) {k : Nat} (ok : (pOne q cnd k).1 = true) : EVo j (pOne q cnd k) := by
  refine EVo.not ?_
  have ok : (pIn q cnd (k + nots q 200 k)).1 = true := ok
  unfold pIn at ok ⊢
  by_cases y : q (k + nots q 200 k) = 40
  · rw [if_pos y] at ok ⊢
    match cnd, hc with
    | none, _ => exact absurd ok (by simp)
    | some c, hc =>
      have h := hc c rfl (k + nots q 200 k + 1)
      show EVo j (pBr q (c (k + nots q 200 k + 1)))
      have ok : (pBr q (c (k + nots q 200 k + 1))).1 = true := ok
      unfold pBr at ok ⊢
      by_cases w : (c (k + nots q 200 k + 1)).1 = true
      · rw [if_pos w] at ok ⊢
        by_cases x : q (c (k + nots q 200 k + 1)).2.1 = 41
        · rw [if_pos x]
          exact h w
        · rw [if_neg x] at ok
          exact absurd ok (by simp)
      · rw [if_neg w] at ok
        exact absurd ok w
  · rw [if_neg y] at ok ⊢
    exact (EVo.cmp ok).mono (Nat.zero_le _)
theorem EVo.cond {q : Nat → Nat} {j : Nat} {cnd : Option (Nat → PR)} (hc : ∀ c, cnd = some c → ∀ i, (c i).1 = true → EVo j (c i)) {k : Nat} (ok : (pCond q cnd k).1 = true) : EVo (j + 2) (pCond q cnd k) := by
  have A : ∀ i, (pAll q cnd i).1 = true → EVo (j + 1) (pAll q cnd i) := fun i w => EVo.loop (g := and) (fun _ _ _ _ _ => rfl) (fun i w => EVo.one hc w) 200 _ (fun w => (EVo.one hc w).mono (by omega)) w
  exact EVo.loop (g := or) (fun _ _ _ _ _ => rfl) A 200 _ (fun w => (A _ w).mono (by omega)) ok
theorem EV3 {q : Nat → Nat} {k : Nat} (ok : (pC3 q k).1 = true) : EVo 2 (pC3 q k) := EVo.cond (j := 0) (fun c z => by cases z) ok
theorem EV2 {q : Nat → Nat} {k : Nat} (ok : (pC2 q k).1 = true) : EVo 4 (pC2 q k) := EVo.cond (j := 2) (fun c z i w => by cases z; exact EV3 w) ok
theorem EV1 {q : Nat → Nat} {k : Nat} (ok : (pC1 q k).1 = true) : EVo 6 (pC1 q k) := EVo.cond (j := 4) (fun c z i w => by cases z; exact EV2 w) ok
theorem EV0 {q : Nat → Nat} {k : Nat} (ok : (pC0 q k).1 = true) : EVo 8 (pC0 q k) := EVo.cond (j := 6) (fun c z i w => by cases z; exact EV1 w) ok
