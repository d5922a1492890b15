/-! keep answers alike, the end -/
theorem kd_ice (h : ma_H) {i : Nat} (hi : i < 364) : kdat h (4 + i) = ai h 88 i := by
  unfold kdat
  rw [if_neg (show ¬ 4 + i < 4 by omega), if_pos (show 4 + i < 368 by omega), Nat.add_sub_cancel_left]
theorem kd_min (h : ma_H) {i : Nat} (hi : i < 4) : kdat h (368 + i) = ai h 89 i := by
  unfold kdat
  rw [if_neg (show ¬ 368 + i < 4 by omega), if_neg (show ¬ 368 + i < 368 by omega), if_pos (show 368 + i < 372 by omega), Nat.add_sub_cancel_left]
theorem kd_gr (h : ma_H) {i : Nat} (hi : i < 12) : kdat h (372 + i) = ai h 90 i := by
  unfold kdat
  rw [if_neg (show ¬ 372 + i < 4 by omega), if_neg (show ¬ 372 + i < 368 by omega), if_neg (show ¬ 372 + i < 372 by omega), if_pos (show 372 + i < 384 by omega), Nat.add_sub_cancel_left]
theorem kd_air (h : ma_H) {i : Nat} (hi : i < 48) : kdat h (384 + i) = ai h 91 i := by
  unfold kdat
  rw [if_neg (show ¬ 384 + i < 4 by omega), if_neg (show ¬ 384 + i < 368 by omega), if_neg (show ¬ 384 + i < 372 by omega), if_neg (show ¬ 384 + i < 384 by omega), if_pos (show 384 + i < 432 by omega), Nat.add_sub_cancel_left]
theorem kd_cl (h : ma_H) {i : Nat} (hi : i < 24) : kdat h (432 + i) = ai h 92 i := by
  unfold kdat
  rw [if_neg (show ¬ 432 + i < 4 by omega), if_neg (show ¬ 432 + i < 368 by omega), if_neg (show ¬ 432 + i < 372 by omega), if_neg (show ¬ 432 + i < 384 by omega), if_neg (show ¬ 432 + i < 432 by omega), if_pos (show 432 + i < 456 by omega), Nat.add_sub_cancel_left]
theorem kd_sg (h : ma_H) {i : Nat} (hi : i < 200) : kdat h (456 + i) = ai h 93 i := by
  unfold kdat
  rw [if_neg (show ¬ 456 + i < 4 by omega), if_neg (show ¬ 456 + i < 368 by omega), if_neg (show ¬ 456 + i < 372 by omega), if_neg (show ¬ 456 + i < 384 by omega), if_neg (show ¬ 456 + i < 432 by omega), if_neg (show ¬ 456 + i < 456 by omega), Nat.add_sub_cancel_left]
theorem kdat_congr {h h1 : ma_H} (e : ∀ a, a = 80 ∨ (88 ≤ a ∧ a ≤ 93) → h1.2.1 a = h.2.1 a) : kdat h1 = kdat h := by
  funext j
  have e80 := e 80 (by omega)
  have e88 := e 88 (by omega)
  have e89 := e 89 (by omega)
  have e90 := e 90 (by omega)
  have e91 := e 91 (by omega)
  have e92 := e 92 (by omega)
  have e93 := e 93 (by omega)
  unfold kdat
  simp only [fi, ai, e80, e88, e89, e90, e91, e92, e93]
theorem p143 {h : ma_H} (I : Inv h) : Pair h 143 274 [] := by
  intro Q k
  refine s143 I.sh I.rr I.ng.2 (fun h3 P => k _ _ (e80_s (by decide) (e80_S P.1)) fun Q2 k2 => ?_)
  obtain ⟨P1, P2, P3, P4, P5, ⟨P6, P7, P8⟩, ⟨P9, P10, P11, P12⟩, P13, P14⟩ := P
  have H1 := sh_set P1 (a := 0) (c := .inr (11, [.ref 34, .ref 57, .int 1, .ref 1, .int (fi h 0 4), .ref 2, .ref 7, .ref 11, .int (fi h 0 8), .ref 18, .ref 23, .ref 24, .ref 25, .ref 26, .ref 27, .ref 29, .ref 30, .ref 31])) rfl
  refine s274 H1 (fun h2 M => ?_)
  obtain ⟨M1, M2, M3, M4, M5⟩ := M
  have c : ∀ a, a ≠ 0 → a ≠ 57 → ¬ (59 ≤ a ∧ a ≤ 77) → (ma_set h3 0 (.inr (11, [.ref 34, .ref 57, .int 1, .ref 1, .int (fi h 0 4), .ref 2, .ref 7, .ref 11, .int (fi h 0 8), .ref 18, .ref 23, .ref 24, .ref 25, .ref 26, .ref 27, .ref 29, .ref 30, .ref 31]))).2.1 a = h.2.1 a := fun a a1 a2 a3 => (ma_set_ne _ _ a1).trans (P3 a a2 a3)
  rw [kdat_congr (h := h) (fun a ha => c a (by omega) (by omega) (by omega))] at M5
  have d : ∀ a, a ≠ 0 → a ≠ 80 → a ≠ 113 → a ≠ 114 → h2.2.1 a = h3.2.1 a := fun a a1 a2 a3 a4 => (M3 a a2 a3 a4).trans (ma_set_ne _ _ a1)
  have da : ∀ a, a ≠ 0 → a ≠ 80 → a ≠ 113 → a ≠ 114 → ai h2 a = ai h3 a := fun a a1 a2 a3 a4 => by show aiC _ = aiC _; rw [d a a1 a2 a3 a4]
  have df : ∀ a, a ≠ 0 → a ≠ 80 → a ≠ 113 → a ≠ 114 → ∀ i, fi h2 a i = fi h3 a i := fun a a1 a2 a3 a4 i => by show fiC _ i = fiC _ i; rw [d a a1 a2 a3 a4]
  have e80 : ∀ i, fi (ma_set h3 0 (.inr (11, [.ref 34, .ref 57, .int 1, .ref 1, .int (fi h 0 4), .ref 2, .ref 7, .ref 11, .int (fi h 0 8), .ref 18, .ref 23, .ref 24, .ref 25, .ref 26, .ref 27, .ref 29, .ref 30, .ref 31]))) 80 i = fi h 80 i := fun i => by show fiC _ i = fiC _ i; rw [c 80 (by decide) (by decide) (by decide)]
  have dg : ∀ j, j < 6 → ar h2 71 j = ar h 48 j := fun j hj => by
    show arC (h2.2.1 71) j = _
    rw [d 71 (by decide) (by decide) (by decide) (by decide)]
    exact P5 j hj
  have dr : ∀ r, 115 ≤ r → h2.2.1 r = h.2.1 r := fun r hr => (d r (by omega) (by omega) (by omega) (by omega)).trans (P3 r (by omega) (by omega))
  refine k2 _ (I.kp M1 (M2.trans P2) (fun a a0 a1 a2 a3 a4 a5 => (d a a0 a1 a4 a5).trans (P3 a a2 a3)) (fun i hi => ?_) (fun i h1 h2' => ?_) (Or.inr ⟨?_, ?_, ?_, ?_, ?_, ?_, ?_⟩))
  · show fiC (h2.2.1 0) i = fiC (h.2.1 0) i
    rw [M3 0 (by decide) (by decide) (by decide), ma_set_at, I.sh.e0]
    exact fi_set (k := 11) (L := [.ref 34, .ref 57, .int (fi h 0 2), .ref 1, .int (fi h 0 4), .ref 2, .ref 7, .ref 11, .int (fi h 0 8), .ref 18, .ref 23, .ref 24, .ref 25, .ref 26, .ref 27, .ref 29, .ref 30, .ref 31]) (j := 2) hi
  · show fiC (h2.2.1 80) i = _
    rw [M4, ← e80 i]
    show fiC (.inr (12, ((mO (ma_set h3 0 (.inr (11, [.ref 34, .ref 57, .int 1, .ref 1, .int (fi h 0 4), .ref 2, .ref 7, .ref 11, .int (fi h 0 8), .ref 18, .ref 23, .ref 24, .ref 25, .ref 26, .ref 27, .ref 29, .ref 30, .ref 31])))).set 55 _).set 57 _)) i = fiC _ i
    rw [fi_set h2', fi_set h1, H1.e80]
    rfl
  · show fiC (h2.2.1 0) 2 = _
    rw [M3 0 (by decide) (by decide) (by decide), ma_set_at]
    rfl
  · show fiC (h2.2.1 80) 55 = _
    rw [M4]
    rfl
  · intro f hf
    obtain ⟨p1, p2⟩ := P4 f hf
    have ca : ai h2 (60 + 3 * f) = va_cpy (ai h (37 + 3 * f)) (ai h (60 + 3 * f)) 0 0 169 := (da _ (by omega) (by omega) (by omega) (by omega)).trans p1
    have cm : fi h2 (59 + 3 * f) 0 = fi h (36 + 3 * f) 0 := (df _ (by omega) (by omega) (by omega) (by omega) 0).trans p2
    show fl_ok (ai h2 (60 + 3 * f)) ∧ (∀ i, i < 91 → ai h2 (60 + 3 * f) (ma_cell i) = ai h2 113 (4 + (91 * f + i))) ∧ (∀ i, i < 91 → ai h2 113 (4 + (91 * f + i)) = -1 ∨ ¬ ai h2 113 (4 + (91 * f + i)) < 0) ∧ fi h2 (59 + 3 * f) 0 = ai h2 113 (368 + f) ∧ ∃ n, n ≤ 60 ∧ ai h2 113 (368 + f) = nI n
    rw [ca, cm, M5 (368 + f) (by omega), kd_min h hf]
    refine ⟨fl_cpy_ok (I.nf.ok hf), fun i hi => ?_, fun i hi => ?_, I.nf.m hf, I.nf.n hf⟩
    · rw [M5 _ (by omega), kd_ice h (by omega), cpy_at (cell_lt i hi).1]
      exact I.nf.eq hf hi
    · rw [M5 _ (by omega), kd_ice h (by omega)]
      exact I.nf.b hf hi
  · obtain ⟨⟨n, n6, g1, g2, g3⟩, g4⟩ := I.ng
    refine ⟨⟨n, n6, ?_, ?_, fun i hi => ?_⟩, fun i hi => ?_⟩
    · exact (df 57 (by decide) (by decide) (by decide) (by decide) 2).trans (P6.trans g1)
    · rw [M5 0 (by decide)]
      exact g2
    · obtain ⟨r, kk, a, x1, x2, x3, x4, x5, x6, x7, x8⟩ := g3 i hi
      refine ⟨r, kk, a, (dg i (by omega)).trans x1, x2, by rw [M2]; show r < h3.1; rw [P2]; exact x3, x4, x5, (dr r x2).trans x6, ?_, ?_⟩
      · show ai h2 113 (372 + 2 * i) = _
        rw [M5 _ (by omega), kd_gr h (by omega)]
        exact x7
      · show ai h2 113 (372 + (2 * i + 1)) = _
        rw [M5 _ (by omega), kd_gr h (by omega)]
        exact x8
    · rcases g4 i hi with x | ⟨r, kk, j, a, x1, x2, x3, x4, x5⟩
      · exact Or.inl ((dg i hi).trans x)
      · exact Or.inr ⟨r, kk, j, a, (dg i hi).trans x1, x2, by rw [M2]; show r < h3.1; rw [P2]; exact x3, x4, (dr r x2).trans x5⟩
  · obtain ⟨⟨m, m4, s1, s2⟩, sz⟩ := I.nm
    refine ⟨⟨m, m4, ?_, ?_⟩, ?_⟩
    · exact (df 57 (by decide) (by decide) (by decide) (by decide) 6).trans (P7.trans s1)
    · rw [M5 1 (by decide)]
      exact s2
    · rw [M5 2 (by decide)]
      exact (df 57 (by decide) (by decide) (by decide) (by decide) 7).trans (P8.trans sz)
  · intro m hm
    obtain ⟨w1, w2⟩ := I.na m hm
    show ai h2 76 m = ai h2 113 (384 + 2 * m) ∧ ai h2 77 m = ai h2 113 (384 + (2 * m + 1))
    rw [M5 _ (by omega), M5 _ (by omega), kd_air h (by omega), kd_air h (by omega), da 76 (by decide) (by decide) (by decide) (by decide), da 77 (by decide) (by decide) (by decide) (by decide), P13, P14, sb_cpy0 hm, sb_cpy0 hm]
    exact ⟨w1, w2⟩
  · refine Wl_congr I.nl ((df 72 (by decide) (by decide) (by decide) (by decide) 0).trans P9) ?_ (fun i hi => ⟨?_, ?_⟩) (fun i hi => ⟨?_, ?_⟩) (fun i hi => ?_)
    · rw [M5 3 (by decide)]
      rfl
    · rw [da 73 (by decide) (by decide) (by decide) (by decide), P10, sb_cpy0 hi]
    · rw [da 74 (by decide) (by decide) (by decide) (by decide), P11, sb_cpy0 hi]
    · rw [da 75 (by decide) (by decide) (by decide) (by decide), P12, sb_cpy0 hi]
    · show ai h2 113 (456 + i) = _
      rw [M5 _ (by omega), kd_sg h hi]
    · show ai h2 113 (432 + i) = _
      rw [M5 _ (by omega), kd_cl h hi]
