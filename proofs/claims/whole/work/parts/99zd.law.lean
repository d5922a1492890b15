/-! law: the Model writes a CLAUSE -/
theorem mt99 {hm : ma_H} {b : Nat → Nat} {n k : Nat} {g m p o : Int32} {fr pe : Nat → Int32} {c : ma_C} : ma_set (MT hm b n k g m p o fr pe) 99 c = MT (ma_set hm 99 c) b n k g m p o fr pe := by
  unfold MT MS
  rw [ma_set_swap _ (show 80 ≠ 99 by decide), ma_set_swap _ (show 97 ≠ 99 by decide), ma_set_swap _ (show 96 ≠ 99 by decide)]
  rfl
theorem mt99r {hm : ma_H} {b : Nat → Nat} {n k : Nat} {g m p o : Int32} {fr pe : Nat → Int32} (H : Sh hm) : (MT hm b n k g m p o fr pe).2.1 99 = .inl (.int, 24, .inl (ai hm 99)) := (ms_ne (by decide) (by decide) (by decide)).trans H.e99
theorem MX.s99 {hm : ma_H} {b : Nat → Nat} {n : Nat} (X : MX hm b n) (f : Nat → Int32) : MX (ma_set hm 99 (.inl (.int, 24, .inl f))) b n := by
  obtain ⟨x1, x2, x3, x4, x5⟩ := X
  exact ⟨sh_set x1 rfl, (fi_ne _ _ _ (by decide)).trans x2, x3, fun i hi => by rw [ai_ne _ _ (by decide)]; exact x4 i hi, x5⟩
