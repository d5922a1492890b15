/-! law: what a COND comes to -/
/-- both programs push one value, the same, and need room for j more -/
def EVo (j : Nat) (r : PR) : Prop := ∀ F, ∃ v, ∀ (D : Nat) (st : List Bool), st.length + j < D → ev F D r.2.2.1 st = some (v :: st) ∧ ev F D r.2.2.2 st = some (v :: st)
theorem ev_app {F : Nat → Int32} {D : Nat} {B : List Tok} : ∀ (A : List Tok) (st st2 : List Bool), ev F D A st = some st2 → ev F D (A ++ B) st = ev F D B st2
  | [], st, st2, h => by
    have h : some st = some st2 := h
    injection h with h
    rw [h]
    rfl
  | t :: r, st, st2, h => by
    have h : (match tk F D t st with
      | some st' => ev F D r st'
      | none => none) = some st2 := h
    show (match tk F D t st with
      | some st' => ev F D (r ++ B) st'
      | none => none) = ev F D B st2
    cases e : tk F D t st with
    | none => rw [e] at h; exact absurd h (by simp)
    | some s => rw [e] at h; exact ev_app r s st2 h
theorem ev_nots {F : Nat → Int32} {D : Nat} {st : List Bool} : ∀ (m : Nat) (v : Bool), ev F D (List.replicate m tkN) (v :: st) = some ((if m % 2 = 1 then !v else v) :: st)
  | 0, v => rfl
  | m + 1, v => by
    rw [List.replicate_succ]
    show ev F D (List.replicate m tkN) ((!v) :: st) = _
    rw [ev_nots m (!v)]
    by_cases c : m % 2 = 1
    · rw [if_pos c, if_neg (by omega), Bool.not_not]
    · rw [if_neg c, if_pos (by omega)]
theorem ev_one {F : Nat → Int32} {D : Nat} {st : List Bool} (m : Nat) (v : Bool) : ev F D (if m % 2 = 1 then [tkN] else []) (v :: st) = some ((if m % 2 = 1 then !v else v) :: st) := by
  by_cases c : m % 2 = 1
  · rw [if_pos c, if_pos c]; rfl
  · rw [if_neg c, if_neg c]; rfl
theorem EVo.not {j m : Nat} {r : PR} (h : EVo j r) : EVo j (pNot m r) := by
  intro F
  obtain ⟨v, hv⟩ := h F
  refine ⟨if m % 2 = 1 then !v else v, fun D st l => ?_⟩
  obtain ⟨a, c⟩ := hv D st l
  exact ⟨(ev_app _ _ _ a).trans (ev_one m v), (ev_app _ _ _ c).trans (ev_nots m v)⟩
theorem EVo.mono {j j2 : Nat} {r : PR} (h : EVo j r) (l : j ≤ j2) : EVo j2 r := fun F => by
  obtain ⟨v, hv⟩ := h F
  exact ⟨v, fun D st l2 => hv D st (by omega)⟩
