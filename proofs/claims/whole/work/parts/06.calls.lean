/-! THE ABSTRACT MACHINE's ROWS: calls -/
theorem ma_good {m : Nat} (hm : m < 285) : GoodIn lw_ok (ma_w m) := by
  intro w hw
  rcases List.mem_cons.mp hw with rfl | h
  · exact ⟨mt_code m hm, good_of_word rfl⟩
  · exact ⟨h, good_of_word (List.mem_filter.mp h).2⟩
