/-! again: the fields of the Model -/
theorem ag_list (h3 : ma_H) (a b c d e : Int32) : (.inr (12, [.ref 81, .ref 82, .ref 83, .ref 84, .ref 85, .ref 86, .ref 87, .ref 88, .ref 89, .int b, .ref 90, .int c, .int d, .ref 91, .int e, .ref 92, .ref 93, .ref 94, .int (fi h3 80 18), .int (fi h3 80 19), .int (fi h3 80 20), .int (fi h3 80 21), .long (fj h3 80 22), .int (fi h3 80 23), .int (fi h3 80 24), .ref 95, .ref 96, .ref 97, .int (fi h3 80 28), .int (fi h3 80 29), .int (fi h3 80 30), .ref 98, .ref 99, .ref 100, .ref 101, .long (fj h3 80 35), .long (fj h3 80 36), .ref 102, .ref 103, .ref 104, .ref 105, .int (fi h3 80 41), .int (fi h3 80 42), .ref 106, .ref 107, .ref 108, .ref 109, .ref 110, .ref 111, .int (fi h3 80 49), .int (fi h3 80 50), .int (fi h3 80 51), .ref 112, .int (fi h3 80 53), .int (fi h3 80 54), .int (fi h3 80 55), .ref 113, .int a, .ref 114]) : ma_C) = .inr (12, (((((mO h3).set 57 (.int a)).set 9 (.int b)).set 11 (.int c)).set 12 (.int d)).set 14 (.int e)) := by
  unfold mO
  simp only [List.set_cons_succ, List.set_cons_zero]
theorem ag_fi {h3 : ma_H} (P1 : Sh h3) (a b c d e : Int32) {i : Nat} (i1 : i ≠ 57) (i2 : i ≠ 9) (i3 : i ≠ 11) (i4 : i ≠ 12) (i5 : i ≠ 14) : fiC (.inr (12, [.ref 81, .ref 82, .ref 83, .ref 84, .ref 85, .ref 86, .ref 87, .ref 88, .ref 89, .int b, .ref 90, .int c, .int d, .ref 91, .int e, .ref 92, .ref 93, .ref 94, .int (fi h3 80 18), .int (fi h3 80 19), .int (fi h3 80 20), .int (fi h3 80 21), .long (fj h3 80 22), .int (fi h3 80 23), .int (fi h3 80 24), .ref 95, .ref 96, .ref 97, .int (fi h3 80 28), .int (fi h3 80 29), .int (fi h3 80 30), .ref 98, .ref 99, .ref 100, .ref 101, .long (fj h3 80 35), .long (fj h3 80 36), .ref 102, .ref 103, .ref 104, .ref 105, .int (fi h3 80 41), .int (fi h3 80 42), .ref 106, .ref 107, .ref 108, .ref 109, .ref 110, .ref 111, .int (fi h3 80 49), .int (fi h3 80 50), .int (fi h3 80 51), .ref 112, .int (fi h3 80 53), .int (fi h3 80 54), .int (fi h3 80 55), .ref 113, .int a, .ref 114])) i = fi h3 80 i := by
  rw [ag_list, fi_set i5, fi_set i4, fi_set i3, fi_set i2, fi_set i1]
  show _ = fiC (h3.2.1 80) i
  rw [P1.e80]
  rfl
theorem ag_inv {h h3 hF : ma_H} (I : Inv h) (kf : Kf h) (kg : Kg h) (km : Km h) (ka : Ka h) (kl : Kl h) (P : Bn h h3) (hS : Sh hF) (hN : hF.1 = h.1) (hC : ∀ a, a ≠ 80 → a ≠ 114 → ¬ (88 ≤ a ∧ a < 94) → hF.2.1 a = h3.2.1 a) (hR : ∀ r, r < 6 → ai hF (88 + r) = upN (ai h3 (88 + r)) (fun k => k) (fun k => ai h 113 (ro r + k)) (rn r)) (f80 : ∀ i, i ≠ 57 → i ≠ 9 → i ≠ 11 → i ≠ 12 → i ≠ 14 → fi hF 80 i = fi h 80 i) (g9 : fi hF 80 9 = ai h 113 0) (g11 : fi hF 80 11 = ai h 113 1) (g12 : fi hF 80 12 = ai h 113 2) (g14 : fi hF 80 14 = ai h 113 3) : Inv hF := by
  obtain ⟨P1, P2, P3, P4, P5, ⟨P6, P7, P8⟩, ⟨P9, P10, P11, P12⟩, P13, P14⟩ := P
  have c : ∀ a, a ≠ 80 → a ≠ 114 → ¬ (88 ≤ a ∧ a < 94) → a ≠ 34 → ¬ (36 ≤ a ∧ a ≤ 54) → hF.2.1 a = h.2.1 a := fun a a1 a2 a3 a4 a5 => (hC a a1 a2 a3).trans (P3 a a4 a5)
  have ca : ∀ a, a ≠ 80 → a ≠ 114 → ¬ (88 ≤ a ∧ a < 94) → ai hF a = ai h3 a := fun a a1 a2 a3 => by show aiC _ = aiC _; rw [hC a a1 a2 a3]
  have cf : ∀ a, a ≠ 80 → a ≠ 114 → ¬ (88 ≤ a ∧ a < 94) → ∀ i, fi hF a i = fi h3 a i := fun a a1 a2 a3 i => by show fiC _ i = fiC _ i; rw [hC a a1 a2 a3]
  have ch : ∀ a, a ≠ 80 → a ≠ 114 → ¬ (88 ≤ a ∧ a < 94) → a ≠ 34 → ¬ (36 ≤ a ∧ a ≤ 54) → ai hF a = ai h a := fun a a1 a2 a3 a4 a5 => by show aiC _ = aiC _; rw [c a a1 a2 a3 a4 a5]
  have chf : ∀ a, a ≠ 80 → a ≠ 114 → ¬ (88 ≤ a ∧ a < 94) → a ≠ 34 → ¬ (36 ≤ a ∧ a ≤ 54) → ∀ i, fi hF a i = fi h a i := fun a a1 a2 a3 a4 a5 i => by show fiC _ i = fiC _ i; rw [c a a1 a2 a3 a4 a5]
  have row : ∀ r, r < 6 → ∀ i, i < rn r → ai hF (88 + r) i = ai h 113 (ro r + i) := fun r hr i hi => by
    rw [hR r hr, upN_at (p := fun k => k) (rn r) (fun a b _ _ e => e) i hi]
  have r88 := row 0 (by decide)
  have r89 := row 1 (by decide)
  have r90 := row 2 (by decide)
  have r91 := row 3 (by decide)
  have r92 := row 4 (by decide)
  have r93 := row 5 (by decide)
  have cg : ∀ j, j < 6 → ar hF 48 j = ar h 71 j := fun j hj => by
    show arC (hF.2.1 48) j = _
    rw [hC 48 (by decide) (by decide) (by decide)]
    exact P5 j hj
  have o34 : ∀ i, fi hF 34 i = fi h3 34 i := cf 34 (by decide) (by decide) (by decide)
  refine ⟨hS, I.rr.cong fun a x => c a (by omega) (by omega) (by omega) (by omega) (by omega), I.rt.cong fun a x => c a (by omega) (by omega) (by omega) (by omega) (by omega), ⟨?_, ?_, ?_, ?_, ?_⟩, I.rk.cong2 (by omega) (chf 0 (by decide) (by decide) (by decide) (by decide) (by decide) 2) (f80 55 (by decide) (by decide) (by decide) (by decide) (by decide)) fun a x => c a (by omega) (by omega) (by omega) (by omega) (by omega), ?_, I.rw.cong2 (chf 0 (by decide) (by decide) (by decide) (by decide) (by decide) 8) (f80 41 (by decide) (by decide) (by decide) (by decide) (by decide)) fun a x => c a (by omega) (by omega) (by omega) (by omega) (by omega), I.rs.cong fun a x => c a (by omega) (by omega) (by omega) (by omega) (by omega), I.rv.cong fun a x => c a (by omega) (by omega) (by omega) (by omega) (by omega), ?_, I.rc.cong fun a x => c a (by omega) (by omega) (by omega) (by omega) (by omega)⟩
  · intro f hf
    obtain ⟨p1, p2⟩ := P4 f hf
    obtain ⟨w1, w2, w3, w4, w5⟩ := kf f hf
    have cs : ai hF (37 + 3 * f) = va_cpy (ai h (60 + 3 * f)) (ai h (37 + 3 * f)) 0 0 169 := (ca _ (by omega) (by omega) (by omega)).trans p1
    have cm : fi hF (36 + 3 * f) 0 = fi h (59 + 3 * f) 0 := (cf _ (by omega) (by omega) (by omega) 0).trans p2
    show fl_ok (ai hF (37 + 3 * f)) ∧ (∀ i, i < 91 → ai hF (37 + 3 * f) (ma_cell i) = ai hF 88 (91 * f + i)) ∧ (∀ i, i < 91 → ai hF 88 (91 * f + i) = -1 ∨ ¬ ai hF 88 (91 * f + i) < 0) ∧ fi hF (36 + 3 * f) 0 = ai hF 89 f ∧ ∃ n, n ≤ 60 ∧ ai hF 89 f = nI n
    rw [cs, cm, show ai hF 89 f = ai h 113 (368 + f) from r89 f hf]
    refine ⟨fl_cpy_ok w1, fun i hi => ?_, fun i hi => ?_, w4, w5⟩
    · rw [show ai hF 88 (91 * f + i) = ai h 113 (4 + (91 * f + i)) from r88 _ (show 91 * f + i < 364 by omega), cpy_at (cell_lt i hi).1]
      exact w2 i hi
    · rw [show ai hF 88 (91 * f + i) = ai h 113 (4 + (91 * f + i)) from r88 _ (show 91 * f + i < 364 by omega)]
      exact w3 i hi
  · obtain ⟨⟨n, n6, g1, g2, g3⟩, g4⟩ := kg
    refine ⟨⟨n, n6, ?_, ?_, fun i hi => ?_⟩, fun i hi => ?_⟩
    · rw [o34, P6]
      exact g1
    · rw [g9]
      exact g2
    · obtain ⟨r, kk, a, x1, x2, x3, x4, x5, x6, x7, x8⟩ := g3 i hi
      refine ⟨r, kk, a, (cg i (by omega)).trans x1, x2, by rw [hN]; exact x3, x4, x5, (c r (by omega) (by omega) (by omega) (by omega) (by omega)).trans x6, ?_, ?_⟩
      · rw [show ai hF 90 (2 * i) = ai h 113 (372 + 2 * i) from r90 _ (show 2 * i < 12 by omega)]
        exact x7
      · rw [show ai hF 90 (2 * i + 1) = ai h 113 (372 + (2 * i + 1)) from r90 _ (show 2 * i + 1 < 12 by omega)]
        exact x8
    · rcases g4 i hi with x | ⟨r, kk, j, a, x1, x2, x3, x4, x5⟩
      · exact Or.inl ((cg i hi).trans x)
      · exact Or.inr ⟨r, kk, j, a, (cg i hi).trans x1, x2, by rw [hN]; exact x3, x4, (c r (by omega) (by omega) (by omega) (by omega) (by omega)).trans x5⟩
  · unfold Nm
    rw [o34, o34, P7, P8, g11, g12]
    exact km
  · intro m hm
    obtain ⟨w1, w2⟩ := ka m hm
    rw [ca 53 (by decide) (by decide) (by decide), ca 54 (by decide) (by decide) (by decide), P13, P14, sb_cpy0 hm, sb_cpy0 hm, show ai hF 91 (2 * m) = ai h 113 (384 + 2 * m) from r91 _ (show 2 * m < 48 by omega), show ai hF 91 (2 * m + 1) = ai h 113 (384 + (2 * m + 1)) from r91 _ (show 2 * m + 1 < 48 by omega)]
    exact ⟨w1, w2⟩
  · refine Wl_congr kl ((cf 49 (by decide) (by decide) (by decide) 0).trans P9) g14 (fun i hi => ⟨?_, ?_⟩) (fun i hi => ⟨?_, ?_⟩) (fun i hi => ?_)
    · rw [ca 50 (by decide) (by decide) (by decide), P10, sb_cpy0 hi]
    · rw [ca 51 (by decide) (by decide) (by decide), P11, sb_cpy0 hi]
    · rw [ca 52 (by decide) (by decide) (by decide), P12, sb_cpy0 hi]
    · exact r93 i hi
    · exact r92 i hi
  · have rp := I.rp
    unfold Rp at rp ⊢
    rw [chf 0 (by decide) (by decide) (by decide) (by decide) (by decide), f80 18 (by decide) (by decide) (by decide) (by decide) (by decide), ch 94 (by decide) (by decide) (by decide) (by decide) (by decide), ch 1 (by decide) (by decide) (by decide) (by decide) (by decide)]
    exact rp
  · have ra := I.ra
    unfold Ra at ra ⊢
    rw [chf 27 (by decide) (by decide) (by decide) (by decide) (by decide), f80 53 (by decide) (by decide) (by decide) (by decide) (by decide), ch 28 (by decide) (by decide) (by decide) (by decide) (by decide), ch 112 (by decide) (by decide) (by decide) (by decide) (by decide)]
    exact ra

