/-! keep answers alike -/
theorem s143 {h : ma_H} {Q : ma_Q} (H : Sh h) (R : Rr h) (W : ∀ i, i < 6 → ar h 48 i = none ∨ ∃ r k j a, ar h 48 i = some r ∧ 115 ≤ r ∧ r < h.1 ∧ k < 6 ∧ h.2.1 r = g_obj k j a) (k : ∀ h3, Bk h h3 → Q (some (.int 1)) (ma_set h3 0 (.inr (11, [.ref 34, .ref 57, .int 1, .ref 1, .int (fi h 0 4), .ref 2, .ref 7, .ref 11, .int (fi h 0 8), .ref 18, .ref 23, .ref 24, .ref 25, .ref 26, .ref 27, .ref 29, .ref 30, .ref 31])))) : ma_X 143 [.ref 0] h Q := by
  refine ma_enter (m := 143) (Or.inl (by decide)) (by show 1 ≤ mt_n 143; decide +kernel) ?_
  show At 143 Q 0 (mt_c 143) [some (.ref 0)] [] h
  refine go 60 (by decide) ?_
  simp only [KX, KY, KZ, KW, KV, Nat.reduceAdd, Nat.reduceSub, Nat.reduceLeDiff, true_and, and_true, true_or, or_true, or_self, reduceCtorEq, if_true, if_false, not_false_eq_true, eq_self, c143, H.e0, H.e57]
  refine s94k H R W (fun h3 P => ?_)
  have e0 : h3.2.1 0 = _ := (P.2.2.1 0 (by decide) (by decide)).trans H.e0
  refine go 60 (by decide) ?_
  simp only [KX, KY, KZ, KW, KV, Nat.reduceAdd, Nat.reduceSub, Nat.reduceLeDiff, true_and, and_true, true_or, or_true, or_self, reduceCtorEq, if_true, if_false, not_false_eq_true, eq_self, c143, e0, List.set_cons_succ, List.set_cons_zero]
  exact ⟨by simp only [List.length_cons, List.length_nil]; omega, Or.inr rfl, k h3 P⟩
theorem seg_congr {g g' : Nat → Int32} {a : Nat} {l : List Int32} (s : seg g a l) (hl : a + l.length ≤ 200) (e : ∀ i, i < 200 → g' i = g i) : seg g' a l := fun i v hv => by
  have hi : i < l.length := (List.getElem?_eq_some_iff.mp hv).1
  rw [e (a + i) (by omega)]
  exact s i v hv
theorem Wl_congr {cl mcl cl' mcl' : Int32} {used ce code clause signs used' ce' code' clause' signs' : Nat → Int32} (w : Wl cl used ce code mcl clause signs) (e1 : cl' = cl) (e2 : mcl' = mcl) (e3 : ∀ i, i < 8 → used' i = used i ∧ ce' i = ce i) (e4 : ∀ i, i < 200 → code' i = code i ∧ signs' i = signs i) (e5 : ∀ i, i < 24 → clause' i = clause i) : Wl cl' used' ce' code' mcl' clause' signs' := by
  obtain ⟨n, n8, a1, a2, A, B, P, M, a0, c⟩ := w
  refine ⟨n, n8, e1.trans a1, e2.trans a2, A, B, P, M, a0, fun i hi => ?_⟩
  obtain ⟨⟨c1, c2, c3, c4, c5, c6, c7, c8, c9, c10, c11, c12⟩, d⟩ := c i hi
  obtain ⟨f1, f2⟩ := e3 i (by omega)
  refine ⟨⟨?_, ?_, ?_, c4, ?_, ?_, ?_, c8, ?_, c10, c11, c12⟩, d⟩
  · rw [f1, e5 _ (by omega)]; exact c1
  · rw [f1]; exact c2
  · rw [f2]; exact c3
  · exact seg_congr c5 (by rw [List.length_map]; exact c4) (fun i hi => (e4 i hi).1)
  · rw [e5 _ (by omega)]; exact c6
  · rw [e5 _ (by omega)]; exact c7
  · exact seg_congr c9 c8 (fun i hi => (e4 i hi).2)
/-- the kept world alone changed -/
theorem Inv.kp {h h' : ma_H} (I : Inv h) (S : Sh h') (n : h'.1 = h.1) (e : ∀ a, a ≠ 0 → a ≠ 80 → a ≠ 57 → ¬ (59 ≤ a ∧ a ≤ 77) → a ≠ 113 → a ≠ 114 → h'.2.1 a = h.2.1 a) (f0 : ∀ i, i ≠ 2 → fi h' 0 i = fi h 0 i) (f80 : ∀ i, i ≠ 55 → i ≠ 57 → fi h' 80 i = fi h 80 i) (w : Rk h') : Inv h' := by
  have E : ∀ a, (a < 57 ∨ a = 58 ∨ 77 < a) → a ≠ 0 → a ≠ 80 → a ≠ 113 → a ≠ 114 → h'.2.1 a = h.2.1 a := fun a a1 a2 a3 a4 a5 => e a a2 a3 (by omega) (by omega) a4 a5
  have c : ∀ a, (a < 57 ∨ a = 58 ∨ 77 < a) → a ≠ 0 → a ≠ 80 → a ≠ 113 → a ≠ 114 → ai h' a = ai h a := fun a a1 a2 a3 a4 a5 => by show aiC _ = aiC _; rw [E a a1 a2 a3 a4 a5]
  have cf : ∀ a, (a < 57 ∨ a = 58 ∨ 77 < a) → a ≠ 0 → a ≠ 80 → a ≠ 113 → a ≠ 114 → ∀ i, fi h' a i = fi h a i := fun a a1 a2 a3 a4 a5 i => by show fiC _ i = fiC _ i; rw [E a a1 a2 a3 a4 a5]
  refine ⟨S, I.rr.cong fun a x => E a (by omega) (by omega) (by omega) (by omega) (by omega), I.rt.cong fun a x => E a (by omega) (by omega) (by omega) (by omega) (by omega), ⟨I.nf.cong fun a x => E a (by omega) (by omega) (by omega) (by omega) (by omega), I.ng.cong2 (by omega) (cf 34 (by decide) (by decide) (by decide) (by decide) (by decide) 2) (f80 9 (by decide) (by decide)) fun a x => E a (by omega) (by omega) (by omega) (by omega) (by omega), ?_, I.na.cong fun a x => E a (by omega) (by omega) (by omega) (by omega) (by omega), ?_⟩, w, ?_, I.rw.cong2 (f0 8 (by decide)) (f80 41 (by decide) (by decide)) fun a x => E a (by omega) (by omega) (by omega) (by omega) (by omega), I.rs.cong fun a x => E a (by omega) (by omega) (by omega) (by omega) (by omega), I.rv.cong fun a x => E a (by omega) (by omega) (by omega) (by omega) (by omega), ?_, I.rc.cong fun a x => E a (by omega) (by omega) (by omega) (by omega) (by omega)⟩
  · have nm := I.nm
    unfold Nm at nm ⊢
    rw [cf 34 (by decide) (by decide) (by decide) (by decide) (by decide), cf 34 (by decide) (by decide) (by decide) (by decide) (by decide), f80 11 (by decide) (by decide), f80 12 (by decide) (by decide)]
    exact nm
  · have nl := I.nl
    unfold Nl at nl ⊢
    rw [cf 49 (by decide) (by decide) (by decide) (by decide) (by decide), f80 14 (by decide) (by decide), c 50 (by decide) (by decide) (by decide) (by decide) (by decide), c 51 (by decide) (by decide) (by decide) (by decide) (by decide), c 52 (by decide) (by decide) (by decide) (by decide) (by decide), c 92 (by decide) (by decide) (by decide) (by decide) (by decide), c 93 (by decide) (by decide) (by decide) (by decide) (by decide)]
    exact nl
  · have rp := I.rp
    unfold Rp at rp ⊢
    rw [f0 4 (by decide), f80 18 (by decide) (by decide), c 94 (by decide) (by decide) (by decide) (by decide) (by decide), c 1 (by decide) (by decide) (by decide) (by decide) (by decide)]
    exact rp
  · have ra := I.ra
    unfold Ra at ra ⊢
    rw [cf 27 (by decide) (by decide) (by decide) (by decide) (by decide), f80 53 (by decide) (by decide), c 28 (by decide) (by decide) (by decide) (by decide) (by decide), c 112 (by decide) (by decide) (by decide) (by decide) (by decide)]
    exact ra
