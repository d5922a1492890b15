/-! taken answers alike -/
theorem p139 {h : ma_H} {x y : Int32} (I : Inv h) : Pair h 139 257 [.int x, .int y] := by
  intro Q k
  have H := I.sh
  rcases icasS x with ⟨s, hs, qs, x0, x4, x3, vx, tx⟩ | ⟨o1, o2⟩
  · obtain ⟨n, n6, e1, e2, g⟩ := I.ng.at
    -- y is a KIND, a row's sort, or none
    have yc : (∃ y', y' < 6 ∧ y = nI y' ∧ ¬ y < 0 ∧ y ≤ 5 ∧ y < 10) ∨ (∃ t, t < 4 ∧ y = nI (10 + t) ∧ ¬ y < 0 ∧ ¬ y ≤ 5 ∧ ¬ y < 10 ∧ y ≤ 13) ∨ ((y < 0 ∨ ¬ y ≤ 5) ∧ (y < 10 ∨ ¬ y ≤ 13)) := by
      rcases icasB y 13 (by decide) with ⟨j, hj, q, a, -, c, -⟩ | ⟨o, -⟩
      · by_cases j6 : j < 6
        · exact Or.inl ⟨j, j6, q, a, by subst q; exact nI_le (a := j) (b := 5) (by omega) (by decide), by subst q; exact nI_lt (b := 10) (by omega) (by decide)⟩
        · by_cases j10 : j < 10
          · exact Or.inr (Or.inr ⟨Or.inr (by subst q; exact nI_ge (a := 5) (by omega) (by omega)), Or.inl (by subst q; exact nI_lt (b := 10) j10 (by decide))⟩)
          · exact Or.inr (Or.inl ⟨j - 10, by omega, by rw [q]; congr 1; omega, a, by subst q; exact nI_ge (a := 5) (by omega) (by omega), by subst q; exact nI_nlt (b := 10) (by omega) (by omega), c⟩)
      · refine Or.inr (Or.inr ⟨?_, ?_⟩)
        · rcases o with o | o
          · exact Or.inl o
          · refine Or.inr fun w => o ?_
            rw [Int32.le_iff_toInt_le] at w ⊢
            have e5 : (5 : Int32).toInt = 5 := rfl
            have e13 : (nI 13).toInt = 13 := rfl
            omega
        · rcases o with o | o
          · refine Or.inl ?_
            rw [Int32.lt_iff_toInt_lt] at o ⊢
            have e0 : (0 : Int32).toInt = 0 := rfl
            have e10 : (10 : Int32).toInt = 10 := rfl
            omega
          · exact Or.inr o
    rcases yc with ⟨y', hy, qy, y0, y5, y10⟩ | ⟨t', ht', qy, y0, y5, y10, y13⟩ | ⟨o5, o13⟩
    · rcases I.rv s hs with ⟨a1, a2⟩ | ⟨a1, a2, a3⟩ | ⟨t, ht, a1, a2, a3, a4⟩
      · exact s139k_n H hs x0 x4 x3 vx tx y0 y5 y10 (by rw [a1]; decide) (fun Q kq => s152n H hs x0 x4 x3 vx tx (by rw [a1]; decide) kq) (k _ _ (by repeat (first | exact e80_I I | exact e80_S (by assumption) | exact e80_I (by assumption) | exact e80_n I.sh | refine e80_s (by omega) ?_)) fun Q2 k2 => s257k_n H hs x0 x4 x3 vx tx y0 y5 y10 (fun Q kq => s255e H hs vx tx (by rw [a2]; decide) (by rw [a2]; decide) kq) (show (-1 : Int32) < 0 by decide) (k2 _ I))
      · have z10 : ai h 25 s < 10 := by rw [a1]; decide
        rcases icasN (ai h 26 s) n (by omega) with ⟨i, hi, qi, -⟩ | ⟨u1, u2⟩
        · obtain ⟨r, kk, a, er, r115, rlt, hk, ha, eo, f1, f2⟩ := g i hi
          exact s139k_g H hs x0 x4 x3 vx tx y0 y5 y10 qy hy hk eo (fun Q kq => s152 H hs x0 x4 x3 vx tx a1 e1 n6 hi qi er kq) z10 (k _ _ (by repeat (first | exact e80_I I | exact e80_S (by assumption) | exact e80_I (by assumption) | exact e80_n I.sh | refine e80_s (by omega) ?_)) fun Q2 k2 => s257k_g H hs x0 x4 x3 vx tx y0 y5 y10 qy hy hk (by rw [← a3]; exact qi) (fun Q kq => s255 H hs vx tx a2 e2 n6 hi (by rw [← a3]; exact qi) f1 kq) (k2 _ I))
        · exact s139k_n H hs x0 x4 x3 vx tx y0 y5 y10 z10 (fun Q kq => s152o H hs x0 x4 x3 vx tx a1 e1 u1 kq) (k _ _ (by repeat (first | exact e80_I I | exact e80_S (by assumption) | exact e80_I (by assumption) | exact e80_n I.sh | refine e80_s (by omega) ?_)) fun Q2 k2 => s257k_n H hs x0 x4 x3 vx tx y0 y5 y10 (fun Q kq => s255o H hs vx tx a2 e2 (by rw [← a3]; exact u2) kq) (show (-1 : Int32) < 0 by decide) (k2 _ I))
      · exact s139k_o H hs x0 x4 x3 vx tx y0 y5 y10 (by rw [a1]; exact nI_nlt (b := 10) (by omega) (by omega)) (by rw [a1, qy]; exact fun w => absurd ((nI_eq (by omega) (by omega)).mp w) (by omega)) (k _ _ (by repeat (first | exact e80_I I | exact e80_S (by assumption) | exact e80_I (by assumption) | exact e80_n I.sh | refine e80_s (by omega) ?_)) fun Q2 k2 => s257k_o H hs x0 x4 x3 vx tx y0 y5 y10 (fun Q kq => s255r H hs vx tx (by rw [a2]; decide) (by rw [a2]; decide) kq) (by rw [a3, qy]; exact fun w => absurd ((nI_eq (by omega) (by omega)).mp (w.trans (nI_add 10 t))) (by omega)) (k2 _ I))
    · rcases I.rv s hs with ⟨a1, a2⟩ | ⟨a1, a2, a3⟩ | ⟨t, ht, a1, a2, a3, a4⟩
      · exact s139r_n H hs x0 x4 x3 vx tx y0 y5 y10 y13 (by rw [a1]; decide) (fun Q kq => s152n H hs x0 x4 x3 vx tx (by rw [a1]; decide) kq) (k _ _ (by repeat (first | exact e80_I I | exact e80_S (by assumption) | exact e80_I (by assumption) | exact e80_n I.sh | refine e80_s (by omega) ?_)) fun Q2 k2 => s257r_n H hs x0 x4 x3 vx tx y0 y5 y10 y13 (fun Q kq => s255e H hs vx tx (by rw [a2]; decide) (by rw [a2]; decide) kq) (show (-1 : Int32) < 0 by decide) (k2 _ I))
      · have z10 : ai h 25 s < 10 := by rw [a1]; decide
        rcases icasN (ai h 26 s) n (by omega) with ⟨i, hi, qi, -⟩ | ⟨u1, u2⟩
        · obtain ⟨r, kk, a, er, r115, rlt, hk, ha, eo, f1, f2⟩ := g i hi
          exact s139r_g H hs x0 x4 x3 vx tx y0 y5 y10 y13 hk eo (fun Q kq => s152 H hs x0 x4 x3 vx tx a1 e1 n6 hi qi er kq) z10 (k _ _ (by repeat (first | exact e80_I I | exact e80_S (by assumption) | exact e80_I (by assumption) | exact e80_n I.sh | refine e80_s (by omega) ?_)) fun Q2 k2 => s257r_g H hs x0 x4 x3 vx tx y0 y5 y10 y13 hk (by rw [← a3]; exact qi) (fun Q kq => s255 H hs vx tx a2 e2 n6 hi (by rw [← a3]; exact qi) f1 kq) (k2 _ I))
        · exact s139r_n H hs x0 x4 x3 vx tx y0 y5 y10 y13 z10 (fun Q kq => s152o H hs x0 x4 x3 vx tx a1 e1 u1 kq) (k _ _ (by repeat (first | exact e80_I I | exact e80_S (by assumption) | exact e80_I (by assumption) | exact e80_n I.sh | refine e80_s (by omega) ?_)) fun Q2 k2 => s257r_n H hs x0 x4 x3 vx tx y0 y5 y10 y13 (fun Q kq => s255o H hs vx tx a2 e2 (by rw [← a3]; exact u2) kq) (show (-1 : Int32) < 0 by decide) (k2 _ I))
      · have z10 : ¬ ai h 25 s < 10 := by rw [a1]; exact nI_nlt (b := 10) (by omega) (by omega)
        have KR : ∀ Q : ma_Q, Q (some (.int 9)) h → ma_X 255 [.ref 80, .int x] h Q := fun Q kq => s255r H hs vx tx (by rw [a2]; decide) (by rw [a2]; decide) kq
        by_cases c : t = t'
        · subst c
          exact s139r_t H hs x0 x4 x3 vx tx y0 y5 y10 y13 z10 (by rw [a1, qy]) (k _ _ (by repeat (first | exact e80_I I | exact e80_S (by assumption) | exact e80_I (by assumption) | exact e80_n I.sh | refine e80_s (by omega) ?_)) fun Q2 k2 => s257r_t H hs x0 x4 x3 vx tx y0 y5 y10 y13 KR (by rw [a3, qy]; exact (nI_add 10 t).symm) (by rw [← a4]; exact k2 _ I))
        · exact s139r_o H hs x0 x4 x3 vx tx y0 y5 y10 y13 z10 (by rw [a1, qy]; exact fun w => c (by have := (nI_eq (by omega) (by omega)).mp w; omega)) (k _ _ (by repeat (first | exact e80_I I | exact e80_S (by assumption) | exact e80_I (by assumption) | exact e80_n I.sh | refine e80_s (by omega) ?_)) fun Q2 k2 => s257r_o H hs x0 x4 x3 vx tx y0 y5 y10 y13 KR (by rw [a3, qy]; exact fun w => c (by have := (nI_eq (by omega) (by omega)).mp (w.trans (nI_add 10 t)); omega)) (k2 _ I))
    · exact s139y H hs x0 x4 x3 vx tx o5 o13 (k _ _ (by repeat (first | exact e80_I I | exact e80_S (by assumption) | exact e80_I (by assumption) | exact e80_n I.sh | refine e80_s (by omega) ?_)) fun Q2 k2 => s257y H hs x0 x4 x3 vx tx o5 o13 (k2 _ I))
  · exact s139b o2 (k _ _ (by repeat (first | exact e80_I I | exact e80_S (by assumption) | exact e80_I (by assumption) | exact e80_n I.sh | refine e80_s (by omega) ?_)) fun Q2 k2 => s257b o1 (k2 _ I))
