/-! small tests, as they are decided -/
theorem i_of4 {x : Int32} (h1 : ¬ x < 0) (h2 : x ≤ 4) : ∃ n, n ≤ 4 ∧ x = nI n ∧ x = nI n := by
  obtain ⟨j, hj, e⟩ := nI_of2 (M := 4) (n := 4) rfl h1 h2
  exact ⟨j, hj, e, e⟩
theorem icase3 (x : Int32) (m : Nat) (hm : m < 2 ^ 30) : (∃ f, f < m + 1 ∧ x = nI f ∧ ¬ x < 0 ∧ x < nI (m + 1) ∧ x ≤ nI m ∧ vp_in x (m + 1) ∧ x.toNatClampNeg = f) ∨ x < 0 ∨ (¬ x < 0 ∧ ¬ x < nI (m + 1) ∧ ¬ x ≤ nI m) := by
  by_cases a : x < 0
  · exact Or.inr (Or.inl a)
  · by_cases b : x < nI (m + 1)
    · obtain ⟨j, hj, rfl⟩ := nI_of a
      have hl := (nI_ltI hj (by omega)).mp b
      exact Or.inl ⟨j, hl, rfl, a, b, (i_le_lt hm).mpr b, nI_in hl (by omega), nI_clamp hj⟩
    · exact Or.inr (Or.inr ⟨a, b, fun w => b ((i_le_lt hm).mp w)⟩)
theorem icase1 (y : Int32) : (y = 0 ∧ ¬ y < 0 ∧ y ≤ 1 ∧ ¬ y = 1) ∨ (y = 1 ∧ ¬ y < 0 ∧ y ≤ 1 ∧ ¬ y = 0) ∨ y < 0 ∨ (¬ y < 0 ∧ ¬ y ≤ 1 ∧ ¬ y = 0 ∧ ¬ y = 1) := by
  rcases icase3 y 1 (by decide) with ⟨f, l, rfl, -⟩ | a | ⟨a, b, c⟩
  · obtain rfl | rfl : f = 0 ∨ f = 1 := by omega
    · exact Or.inl (⟨rfl, by decide, by decide, by decide⟩)
    · exact Or.inr (Or.inl (⟨rfl, by decide, by decide, by decide⟩))
  · exact Or.inr (Or.inr (Or.inl (a)))
  · exact Or.inr (Or.inr (Or.inr (⟨a, c, fun e => c (by subst e; decide), fun e => c (by subst e; decide)⟩)))
theorem icase2 (y : Int32) : (y = 0 ∧ ¬ y < 0 ∧ y ≤ 2 ∧ ¬ y = 1 ∧ ¬ y = 2) ∨ (y = 1 ∧ ¬ y < 0 ∧ y ≤ 2 ∧ ¬ y = 0 ∧ ¬ y = 2) ∨ (y = 2 ∧ ¬ y < 0 ∧ y ≤ 2 ∧ ¬ y = 0 ∧ ¬ y = 1) ∨ y < 0 ∨ (¬ y < 0 ∧ ¬ y ≤ 2 ∧ ¬ y = 0 ∧ ¬ y = 1 ∧ ¬ y = 2) := by
  rcases icase3 y 2 (by decide) with ⟨f, l, rfl, -⟩ | a | ⟨a, b, c⟩
  · obtain rfl | rfl | rfl : f = 0 ∨ f = 1 ∨ f = 2 := by omega
    · exact Or.inl (⟨rfl, by decide, by decide, by decide, by decide⟩)
    · exact Or.inr (Or.inl (⟨rfl, by decide, by decide, by decide, by decide⟩))
    · exact Or.inr (Or.inr (Or.inl (⟨rfl, by decide, by decide, by decide, by decide⟩)))
  · exact Or.inr (Or.inr (Or.inr (Or.inl (a))))
  · exact Or.inr (Or.inr (Or.inr (Or.inr (⟨a, c, fun e => c (by subst e; decide), fun e => c (by subst e; decide), fun e => c (by subst e; decide)⟩))))
theorem icase4 (y : Int32) : (y = 0 ∧ ¬ y < 0 ∧ y ≤ 4 ∧ ¬ y = 1 ∧ ¬ y = 2 ∧ ¬ y = 3 ∧ ¬ y = 4) ∨ (y = 1 ∧ ¬ y < 0 ∧ y ≤ 4 ∧ ¬ y = 0 ∧ ¬ y = 2 ∧ ¬ y = 3 ∧ ¬ y = 4) ∨ (y = 2 ∧ ¬ y < 0 ∧ y ≤ 4 ∧ ¬ y = 0 ∧ ¬ y = 1 ∧ ¬ y = 3 ∧ ¬ y = 4) ∨ (y = 3 ∧ ¬ y < 0 ∧ y ≤ 4 ∧ ¬ y = 0 ∧ ¬ y = 1 ∧ ¬ y = 2 ∧ ¬ y = 4) ∨ (y = 4 ∧ ¬ y < 0 ∧ y ≤ 4 ∧ ¬ y = 0 ∧ ¬ y = 1 ∧ ¬ y = 2 ∧ ¬ y = 3) ∨ y < 0 ∨ (¬ y < 0 ∧ ¬ y ≤ 4 ∧ ¬ y = 0 ∧ ¬ y = 1 ∧ ¬ y = 2 ∧ ¬ y = 3 ∧ ¬ y = 4) := by
  rcases icase3 y 4 (by decide) with ⟨f, l, rfl, -⟩ | a | ⟨a, b, c⟩
  · obtain rfl | rfl | rfl | rfl | rfl : f = 0 ∨ f = 1 ∨ f = 2 ∨ f = 3 ∨ f = 4 := by omega
    · exact Or.inl (⟨rfl, by decide, by decide, by decide, by decide, by decide, by decide⟩)
    · exact Or.inr (Or.inl (⟨rfl, by decide, by decide, by decide, by decide, by decide, by decide⟩))
    · exact Or.inr (Or.inr (Or.inl (⟨rfl, by decide, by decide, by decide, by decide, by decide, by decide⟩)))
    · exact Or.inr (Or.inr (Or.inr (Or.inl (⟨rfl, by decide, by decide, by decide, by decide, by decide, by decide⟩))))
    · exact Or.inr (Or.inr (Or.inr (Or.inr (Or.inl (⟨rfl, by decide, by decide, by decide, by decide, by decide, by decide⟩)))))
  · exact Or.inr (Or.inr (Or.inr (Or.inr (Or.inr (Or.inl (a))))))
  · exact Or.inr (Or.inr (Or.inr (Or.inr (Or.inr (Or.inr (⟨a, c, fun e => c (by subst e; decide), fun e => c (by subst e; decide), fun e => c (by subst e; decide), fun e => c (by subst e; decide), fun e => c (by subst e; decide)⟩))))))
theorem i_one {y : Int32} (a : ¬ y < 0) (b : y ≤ 1) (c : ¬ y = 0) : y = nI 1 := by
  rcases icase1 y with ⟨e, -⟩ | ⟨e, -⟩ | e | ⟨-, e, -⟩
  · exact absurd e c
  · exact e
  · exact absurd e a
  · exact absurd b e
theorem icasB (x : Int32) (m : Nat) (hm : m < 2 ^ 30) : (∃ f, f < m + 1 ∧ x = nI f ∧ ¬ x < 0 ∧ x < nI (m + 1) ∧ x ≤ nI m ∧ vp_in x (m + 1) ∧ x.toNatClampNeg = f) ∨ ((x < 0 ∨ ¬ x ≤ nI m) ∧ (x < 0 ∨ ¬ x < nI (m + 1))) := by
  rcases icase3 x m hm with a | a | ⟨-, b, c⟩
  · exact Or.inl a
  · exact Or.inr ⟨Or.inl a, Or.inl a⟩
  · exact Or.inr ⟨Or.inr c, Or.inr b⟩
theorem icasN (x : Int32) (n : Nat) (hn : n < 2 ^ 30) : (∃ f, f < n ∧ x = nI f ∧ ¬ x < 0 ∧ x < nI n ∧ x ≤ nI n - 1 ∧ x.toNatClampNeg = f) ∨ ((x < 0 ∨ ¬ x < nI n) ∧ (x < 0 ∨ ¬ x ≤ nI n - 1)) := by
  match n, hn with
  | 0, _ =>
    refine Or.inr ⟨?_, ?_⟩
    · by_cases a : x < 0
      · exact Or.inl a
      · exact Or.inr a
    · by_cases a : x < 0
      · exact Or.inl a
      · refine Or.inr fun b => a ?_
        rw [Int32.lt_iff_toInt_lt]
        rw [Int32.le_iff_toInt_le] at b
        have e : (nI 0 - 1 : Int32).toInt = -1 := rfl
        have e0 : (0 : Int32).toInt = 0 := rfl
        omega
  | m + 1, hm =>
    rw [nI_pred]
    rcases icasB x m (by omega) with ⟨f, l, q, a, b, c, -, t⟩ | ⟨a, b⟩
    · exact Or.inl ⟨f, l, q, a, b, c, t⟩
    · exact Or.inr ⟨b, a⟩
theorem s162c {h : ma_H} {Q : ma_Q} {v a b : Int32} (ky : ¬ v < a → v ≤ b → Q (some (.int 1)) h) (kn : (v < a ∨ ¬ v ≤ b) → Q (some (.int 0)) h) : ma_X 162 [.int v, .int a, .int b] h Q := by
  rcases i_in01 v a b with ⟨e, w⟩ | ⟨e, w1, w2⟩
  · exact s162 (by rw [e]; exact kn w)
  · exact s162 (by rw [e]; exact ky w1 w2)
theorem s171c {h : ma_H} {Q : ma_Q} {v : Int32} (ky : ¬ v < 0 → v ≤ 1 → Q (some (.int 1)) h) (kn : (v < 0 ∨ ¬ v ≤ 1) → Q (some (.int 0)) h) : ma_X 171 [.int v] h Q := by
  rcases i_in01 v 0 1 with ⟨e, w⟩ | ⟨e, w1, w2⟩
  · exact s171 (by rw [e]; exact kn w)
  · exact s171 (by rw [e]; exact ky w1 w2)
theorem s146c {h : ma_H} {Q : ma_Q} {v : Int32} (ky : ¬ v < 0 → v ≤ 5 → Q (some (.int 1)) h) (kn : (v < 0 ∨ ¬ v ≤ 5) → Q (some (.int 0)) h) : ma_X 146 [.int v] h Q := by
  rcases i_in01 v 0 5 with ⟨e, w⟩ | ⟨e, w1, w2⟩
  · exact s146 (by rw [e]; exact kn w)
  · exact s146 (by rw [e]; exact ky w1 w2)
theorem s146y {h : ma_H} {Q : ma_Q} {v : Int32} (h1 : ¬ v < 0) (h2 : v ≤ 5) (k : Q (some (.int 1)) h) : ma_X 146 [.int v] h Q := s146 (by rw [i_in_yes h1 h2]; exact k)
theorem s146n {h : ma_H} {Q : ma_Q} {v : Int32} (h1 : v < 0 ∨ ¬ v ≤ 5) (k : Q (some (.int 0)) h) : ma_X 146 [.int v] h Q := s146 (by rw [i_in_no h1]; exact k)
theorem s170y {h : ma_H} {Q : ma_Q} {v : Int32} (h1 : ¬ v < 0) (h2 : v ≤ 3) (k : Q (some (.int 1)) h) : ma_X 170 [.int v] h Q := s170 (by rw [i_in_yes h1 h2]; exact k)
theorem s170n {h : ma_H} {Q : ma_Q} {v : Int32} (h1 : v < 0 ∨ ¬ v ≤ 3) (k : Q (some (.int 0)) h) : ma_X 170 [.int v] h Q := s170 (by rw [i_in_no h1]; exact k)
theorem s148y {h : ma_H} {Q : ma_Q} {v : Int32} (h1 : ¬ v < 0) (h2 : v < 4) (k : Q (some (.int 1)) h) : ma_X 148 [.int v] h Q := s148 (by rw [if_neg h1, if_pos h2]; exact k)
theorem s148n {h : ma_H} {Q : ma_Q} {v : Int32} (h1 : v < 0 ∨ ¬ v < 4) (k : Q (some (.int 0)) h) : ma_X 148 [.int v] h Q := s148 (by
  by_cases a : v < 0
  · rw [if_pos a]; exact k
  · rw [if_neg a, if_neg (h1.resolve_left a)]; exact k)
theorem s149y {h : ma_H} {Q : ma_Q} {v : Int32} (h1 : ¬ v < 0) (h2 : v < 4) (k : Q (some (.int 1)) h) : ma_X 149 [.int v] h Q := s149 (by rw [if_neg h1, if_pos h2]; exact k)
theorem s149n {h : ma_H} {Q : ma_Q} {v : Int32} (h1 : v < 0 ∨ ¬ v < 4) (k : Q (some (.int 0)) h) : ma_X 149 [.int v] h Q := s149 (by
  by_cases a : v < 0
  · rw [if_pos a]; exact k
  · rw [if_neg a, if_neg (h1.resolve_left a)]; exact k)
theorem s145e {h : ma_H} {Q : ma_Q} {x : Int32} {f : Nat} (H : Sh h) (R : Rr h) (hf : f < 4) (e : x = nI f) (k : Q (some (.ref (36 + 3 * f))) h) : ma_X 145 [.ref 0, .int x] h Q := by
  subst e
  exact s145 H R hf k
theorem s147c {h : ma_H} {Q : ma_Q} {x y : Int32} (ky : ¬ x < 0 → x ≤ 9 → ¬ y < 0 → y ≤ 9 → Q (some (.int 1)) h) (kn : (x < 0 ∨ ¬ x ≤ 9 ∨ y < 0 ∨ ¬ y ≤ 9) → Q (some (.int 0)) h) : ma_X 147 [.int x, .int y] h Q := s147 (by
  by_cases a : x < 0
  · rw [if_pos a]; exact kn (Or.inl a)
  · rw [if_neg a]
    by_cases b : x ≤ 9
    · rw [if_pos b]
      by_cases c : y < 0
      · rw [if_pos c]; exact kn (Or.inr (Or.inr (Or.inl c)))
      · rw [if_neg c]
        by_cases d : y ≤ 9
        · rw [if_pos d]; exact ky a b c d
        · rw [if_neg d]; exact kn (Or.inr (Or.inr (Or.inr d)))
    · rw [if_neg b]; exact kn (Or.inr (Or.inl b)))
theorem s147y {h : ma_H} {Q : ma_Q} {x y : Int32} (h1 : ¬ x < 0) (h2 : x ≤ 9) (h3 : ¬ y < 0) (h4 : y ≤ 9) (k : Q (some (.int 1)) h) : ma_X 147 [.int x, .int y] h Q := s147 (by rw [if_neg h1, if_pos h2, if_neg h3, if_pos h4]; exact k)
theorem s147n {h : ma_H} {Q : ma_Q} {x y : Int32} (h1 : x < 0 ∨ ¬ x ≤ 9 ∨ y < 0 ∨ ¬ y ≤ 9) (k : Q (some (.int 0)) h) : ma_X 147 [.int x, .int y] h Q := s147 (by
  by_cases a : x < 0
  · rw [if_pos a]; exact k
  · rw [if_neg a]
    by_cases b : x ≤ 9
    · rw [if_pos b]
      by_cases c : y < 0
      · rw [if_pos c]; exact k
      · rw [if_neg c, if_neg (by rcases h1 with w | w | w | w <;> first | contradiction | exact w)]; exact k
    · rw [if_neg b]; exact k)
theorem ix2 {x : Int32} {f : Nat} (j N : Nat) (hN : N < 2 ^ 31) (e : x = nI f) (h : 2 * f + j < N) : vp_in (2 * x + nI j) N ∧ (2 * x + nI j).toNatClampNeg = 2 * f + j := by
  subst e
  rw [show (2 : Int32) * nI f = nI (2 * f) from nI_mul 2 f, nI_add]
  exact ⟨nI_in h hN, nI_clamp (by omega)⟩
theorem ix1 {x : Int32} {f : Nat} (N : Nat) (hN : N < 2 ^ 31) (e : x = nI f) (h : 2 * f < N) : vp_in (2 * x) N ∧ (2 * x).toNatClampNeg = 2 * f := by
  subst e
  rw [show (2 : Int32) * nI f = nI (2 * f) from nI_mul 2 f]
  exact ⟨nI_in h hN, nI_clamp (by omega)⟩
theorem s162y {h : ma_H} {Q : ma_Q} {v a b : Int32} (h1 : ¬ v < a) (h2 : v ≤ b) (k : Q (some (.int 1)) h) : ma_X 162 [.int v, .int a, .int b] h Q := s162 (by rw [i_in_yes h1 h2]; exact k)
theorem s162n {h : ma_H} {Q : ma_Q} {v a b : Int32} (h1 : v < a ∨ ¬ v ≤ b) (k : Q (some (.int 0)) h) : ma_X 162 [.int v, .int a, .int b] h Q := s162 (by rw [i_in_no h1]; exact k)
theorem s171y {h : ma_H} {Q : ma_Q} {v : Int32} (h1 : ¬ v < 0) (h2 : v ≤ 1) (k : Q (some (.int 1)) h) : ma_X 171 [.int v] h Q := s171 (by rw [i_in_yes h1 h2]; exact k)
theorem s171n {h : ma_H} {Q : ma_Q} {v : Int32} (h1 : v < 0 ∨ ¬ v ≤ 1) (k : Q (some (.int 0)) h) : ma_X 171 [.int v] h Q := s171 (by rw [i_in_no h1]; exact k)
