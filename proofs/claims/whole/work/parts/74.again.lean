/-! again answers alike, the end -/
theorem ag_9 (h2 h3 : ma_H) : fi (ma_set h2 80 (.inr (12, [.ref 81, .ref 82, .ref 83, .ref 84, .ref 85, .ref 86, .ref 87, .ref 88, .ref 89, .int (ai h3 113 0), .ref 90, .int (ai h3 113 1), .int (ai h3 113 2), .ref 91, .int (ai h3 113 3), .ref 92, .ref 93, .ref 94, .int (fi h3 80 18), .int (fi h3 80 19), .int (fi h3 80 20), .int (fi h3 80 21), .long (fj h3 80 22), .int (fi h3 80 23), .int (fi h3 80 24), .ref 95, .ref 96, .ref 97, .int (fi h3 80 28), .int (fi h3 80 29), .int (fi h3 80 30), .ref 98, .ref 99, .ref 100, .ref 101, .long (fj h3 80 35), .long (fj h3 80 36), .ref 102, .ref 103, .ref 104, .ref 105, .int (fi h3 80 41), .int (fi h3 80 42), .ref 106, .ref 107, .ref 108, .ref 109, .ref 110, .ref 111, .int (fi h3 80 49), .int (fi h3 80 50), .int (fi h3 80 51), .ref 112, .int (fi h3 80 53), .int (fi h3 80 54), .int (fi h3 80 55), .ref 113, .int (nI (ro 6)), .ref 114]))) 80 9 = ai h3 113 0 := by
  show fiC ((ma_set h2 80 _).2.1 80) 9 = _
  rw [ma_set_at]
  rfl
theorem ag_11 (h2 h3 : ma_H) : fi (ma_set h2 80 (.inr (12, [.ref 81, .ref 82, .ref 83, .ref 84, .ref 85, .ref 86, .ref 87, .ref 88, .ref 89, .int (ai h3 113 0), .ref 90, .int (ai h3 113 1), .int (ai h3 113 2), .ref 91, .int (ai h3 113 3), .ref 92, .ref 93, .ref 94, .int (fi h3 80 18), .int (fi h3 80 19), .int (fi h3 80 20), .int (fi h3 80 21), .long (fj h3 80 22), .int (fi h3 80 23), .int (fi h3 80 24), .ref 95, .ref 96, .ref 97, .int (fi h3 80 28), .int (fi h3 80 29), .int (fi h3 80 30), .ref 98, .ref 99, .ref 100, .ref 101, .long (fj h3 80 35), .long (fj h3 80 36), .ref 102, .ref 103, .ref 104, .ref 105, .int (fi h3 80 41), .int (fi h3 80 42), .ref 106, .ref 107, .ref 108, .ref 109, .ref 110, .ref 111, .int (fi h3 80 49), .int (fi h3 80 50), .int (fi h3 80 51), .ref 112, .int (fi h3 80 53), .int (fi h3 80 54), .int (fi h3 80 55), .ref 113, .int (nI (ro 6)), .ref 114]))) 80 11 = ai h3 113 1 := by
  show fiC ((ma_set h2 80 _).2.1 80) 11 = _
  rw [ma_set_at]
  rfl
theorem ag_12 (h2 h3 : ma_H) : fi (ma_set h2 80 (.inr (12, [.ref 81, .ref 82, .ref 83, .ref 84, .ref 85, .ref 86, .ref 87, .ref 88, .ref 89, .int (ai h3 113 0), .ref 90, .int (ai h3 113 1), .int (ai h3 113 2), .ref 91, .int (ai h3 113 3), .ref 92, .ref 93, .ref 94, .int (fi h3 80 18), .int (fi h3 80 19), .int (fi h3 80 20), .int (fi h3 80 21), .long (fj h3 80 22), .int (fi h3 80 23), .int (fi h3 80 24), .ref 95, .ref 96, .ref 97, .int (fi h3 80 28), .int (fi h3 80 29), .int (fi h3 80 30), .ref 98, .ref 99, .ref 100, .ref 101, .long (fj h3 80 35), .long (fj h3 80 36), .ref 102, .ref 103, .ref 104, .ref 105, .int (fi h3 80 41), .int (fi h3 80 42), .ref 106, .ref 107, .ref 108, .ref 109, .ref 110, .ref 111, .int (fi h3 80 49), .int (fi h3 80 50), .int (fi h3 80 51), .ref 112, .int (fi h3 80 53), .int (fi h3 80 54), .int (fi h3 80 55), .ref 113, .int (nI (ro 6)), .ref 114]))) 80 12 = ai h3 113 2 := by
  show fiC ((ma_set h2 80 _).2.1 80) 12 = _
  rw [ma_set_at]
  rfl
theorem ag_14 (h2 h3 : ma_H) : fi (ma_set h2 80 (.inr (12, [.ref 81, .ref 82, .ref 83, .ref 84, .ref 85, .ref 86, .ref 87, .ref 88, .ref 89, .int (ai h3 113 0), .ref 90, .int (ai h3 113 1), .int (ai h3 113 2), .ref 91, .int (ai h3 113 3), .ref 92, .ref 93, .ref 94, .int (fi h3 80 18), .int (fi h3 80 19), .int (fi h3 80 20), .int (fi h3 80 21), .long (fj h3 80 22), .int (fi h3 80 23), .int (fi h3 80 24), .ref 95, .ref 96, .ref 97, .int (fi h3 80 28), .int (fi h3 80 29), .int (fi h3 80 30), .ref 98, .ref 99, .ref 100, .ref 101, .long (fj h3 80 35), .long (fj h3 80 36), .ref 102, .ref 103, .ref 104, .ref 105, .int (fi h3 80 41), .int (fi h3 80 42), .ref 106, .ref 107, .ref 108, .ref 109, .ref 110, .ref 111, .int (fi h3 80 49), .int (fi h3 80 50), .int (fi h3 80 51), .ref 112, .int (fi h3 80 53), .int (fi h3 80 54), .int (fi h3 80 55), .ref 113, .int (nI (ro 6)), .ref 114]))) 80 14 = ai h3 113 3 := by
  show fiC ((ma_set h2 80 _).2.1 80) 14 = _
  rw [ma_set_at]
  rfl
theorem ag_80 {h2 h3 : ma_H} (P1 : Sh h3) {i : Nat} (i1 : i ≠ 57) (i2 : i ≠ 9) (i3 : i ≠ 11) (i4 : i ≠ 12) (i5 : i ≠ 14) : fi (ma_set h2 80 (.inr (12, [.ref 81, .ref 82, .ref 83, .ref 84, .ref 85, .ref 86, .ref 87, .ref 88, .ref 89, .int (ai h3 113 0), .ref 90, .int (ai h3 113 1), .int (ai h3 113 2), .ref 91, .int (ai h3 113 3), .ref 92, .ref 93, .ref 94, .int (fi h3 80 18), .int (fi h3 80 19), .int (fi h3 80 20), .int (fi h3 80 21), .long (fj h3 80 22), .int (fi h3 80 23), .int (fi h3 80 24), .ref 95, .ref 96, .ref 97, .int (fi h3 80 28), .int (fi h3 80 29), .int (fi h3 80 30), .ref 98, .ref 99, .ref 100, .ref 101, .long (fj h3 80 35), .long (fj h3 80 36), .ref 102, .ref 103, .ref 104, .ref 105, .int (fi h3 80 41), .int (fi h3 80 42), .ref 106, .ref 107, .ref 108, .ref 109, .ref 110, .ref 111, .int (fi h3 80 49), .int (fi h3 80 50), .int (fi h3 80 51), .ref 112, .int (fi h3 80 53), .int (fi h3 80 54), .int (fi h3 80 55), .ref 113, .int (nI (ro 6)), .ref 114]))) 80 i = fi h3 80 i := by
  show fiC ((ma_set h2 80 _).2.1 80) i = _
  rw [ma_set_at]
  exact ag_fi P1 _ _ _ _ _ i1 i2 i3 i4 i5
theorem p144 {h : ma_H} (I : Inv h) : Pair h 144 275 [] := by
  intro Q k
  rcases I.rk with ⟨z1, z2⟩ | ⟨z1, z2, kf, kg, km, ka, kl⟩
  · exact s144n I.sh z1 (k _ _ (by repeat (first | exact e80_I I | exact e80_S (by assumption) | exact e80_I (by assumption) | exact e80_n I.sh | refine e80_s (by omega) ?_)) fun Q2 k2 => s275n I.sh z2 (k2 _ I))
  refine s144 I.sh I.rr kg.2 (by rw [z1]; decide) (fun h3 P => k _ _ (e80_S P.1) fun Q2 k2 => ?_)
  have q3 : ∀ i, fi h3 80 i = fi h 80 i := fun i => by show fiC _ i = fiC _ i; rw [P.2.2.1 80 (by decide) (by decide)]
  have e113 : ai h3 113 = ai h 113 := by show aiC _ = aiC _; rw [P.2.2.1 113 (by decide) (by decide)]
  have ans : fi h3 34 2 = ai h3 113 0 := by
    obtain ⟨⟨n, n6, g1, g2, -⟩, -⟩ := kg
    rw [P.2.2.2.2.2.1.1, e113, g2]
    exact g1
  refine s275 P.1 (by rw [q3, z2]; decide) (fun h2 M => ?_)
  obtain ⟨M1, M2, M3, M4, M5, M6⟩ := M
  have IF := ag_inv (hF := ma_set h2 80 (.inr (12, [.ref 81, .ref 82, .ref 83, .ref 84, .ref 85, .ref 86, .ref 87, .ref 88, .ref 89, .int (ai h3 113 0), .ref 90, .int (ai h3 113 1), .int (ai h3 113 2), .ref 91, .int (ai h3 113 3), .ref 92, .ref 93, .ref 94, .int (fi h3 80 18), .int (fi h3 80 19), .int (fi h3 80 20), .int (fi h3 80 21), .long (fj h3 80 22), .int (fi h3 80 23), .int (fi h3 80 24), .ref 95, .ref 96, .ref 97, .int (fi h3 80 28), .int (fi h3 80 29), .int (fi h3 80 30), .ref 98, .ref 99, .ref 100, .ref 101, .long (fj h3 80 35), .long (fj h3 80 36), .ref 102, .ref 103, .ref 104, .ref 105, .int (fi h3 80 41), .int (fi h3 80 42), .ref 106, .ref 107, .ref 108, .ref 109, .ref 110, .ref 111, .int (fi h3 80 49), .int (fi h3 80 50), .int (fi h3 80 51), .ref 112, .int (fi h3 80 53), .int (fi h3 80 54), .int (fi h3 80 55), .ref 113, .int (nI (ro 6)), .ref 114]))) I kf kg km ka kl P (sh_set M1 rfl) (M2.trans P.2.1) (fun a a1 a2 a3 => (ma_set_ne _ _ a1).trans (M3 a a1 a2 a3)) (fun r hr => by rw [ai_ne _ _ (by omega), M5 r hr, e113]) (fun i i1 i2 i3 i4 i5 => (ag_80 P.1 i1 i2 i3 i4 i5).trans (q3 i)) ((ag_9 h2 h3).trans (congrFun e113 0)) ((ag_11 h2 h3).trans (congrFun e113 1)) ((ag_12 h2 h3).trans (congrFun e113 2)) ((ag_14 h2 h3).trans (congrFun e113 3))
  have fin := k2 _ IF
  rw [ans] at fin
  exact fin
