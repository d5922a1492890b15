/-! fall: the Model, both alike -/
theorem mO_set {h1 h2 : ma_H} {v : Int32} (e : h2.2.1 80 = .inr (12, (mO h1).set 12 (.int v))) (w : Int32) : (mO h2).set 12 (.int w) = (mO h1).set 12 (.int w) := by
  unfold mO fi fj
  rw [e]
  rfl
/-- what the Model has made of h1 -/
def MF (h1 : ma_H) (f : Nat) (h2 : ma_H) (s : St) : Prop := Sh h2 ∧ h2.1 = h1.1 ∧ (∀ a, a ≠ 80 → a ≠ 88 → a ≠ 89 → a ≠ 95 → a ≠ 98 → a ≠ 101 → h2.2.1 a = h1.2.1 a) ∧ h2.2.1 80 = .inr (12, (mO h1).set 12 (.int s.2.2)) ∧ (∀ i, i < 91 → s.1 (ma_cell i) = ai h2 88 (91 * f + i)) ∧ (∀ j, j < 364 → (∀ i, i < 91 → j ≠ 91 * f + i) → ai h2 88 j = ai h1 88 j) ∧ ai h2 89 f = nI s.2.1 ∧ ∀ j, j < 4 → j ≠ f → ai h2 89 j = ai h1 89 j
theorem MF.named {h1 h2 : ma_H} {f : Nat} {s : St} (C : MF h1 f h2 s) (b g : Nat → Int32) : MF h1 f (ma_set (ma_set h2 95 (.inl (.int, 6, .inl b))) 98 (.inl (.boolean, 100, .inl g))) s := by
  obtain ⟨c1, c2, c3, c4, c5, c6, c7, c8⟩ := C
  have n88 : ai (ma_set (ma_set h2 95 (.inl (.int, 6, .inl b))) 98 (.inl (.boolean, 100, .inl g))) 88 = ai h2 88 := (ai_ne _ _ (by decide)).trans (ai_ne _ _ (by decide))
  have n89 : ai (ma_set (ma_set h2 95 (.inl (.int, 6, .inl b))) 98 (.inl (.boolean, 100, .inl g))) 89 = ai h2 89 := (ai_ne _ _ (by decide)).trans (ai_ne _ _ (by decide))
  refine ⟨sh_set (sh_set c1 rfl) rfl, c2, fun a a1 a2 a3 a4 a5 a6 => (ma_set_ne _ _ a5).trans ((ma_set_ne _ _ a4).trans (c3 a a1 a2 a3 a4 a5 a6)), (ma_set_ne _ _ (by decide)).trans ((ma_set_ne _ _ (by decide)).trans c4), ?_, ?_, ?_, ?_⟩
  · rw [n88]
    exact c5
  · rw [n88]
    exact c6
  · rw [n89]
    exact c7
  · rw [n89]
    exact c8
theorem gfl01 (K : Nat → Int32) (ms z : Int32) : ∀ i, gfl K ms z i = 0 ∨ gfl K ms z i = 1 := by
  intro i
  unfold gfl
  split
  · exact Or.inl rfl
  · split
    · exact Or.inr rfl
    · split
      · exact Or.inl rfl
      · exact Or.inr rfl
theorem s227 {h h1 : ma_H} {Q : ma_Q} {x : Int32} {f n gc nn m0 : Nat} {R : (Nat → Int32) → Nat → Bool} (H : Sh h1) (Rh : Rt h1) (l : f < 4) (q : x = nI f) (e : fi h1 80 14 = nI n) (n8 : n ≤ 8) (A : LA h1 n R) (e50 : ai h1 50 = ai h 50) (ea : ∀ m, m < 24 → ai h1 91 (2 * m) = ai h 53 m ∧ ai h1 91 (2 * m + 1) = ai h 54 m) (e90 : ai h1 90 = ai h 90) (em0 : fi h 34 6 = nI m0) (m4 : m0 ≤ 4) (ems : fi h1 80 11 = fi h 34 6) (e9 : fi h1 80 9 = nI gc) (g6 : gc ≤ 6) (hn : nn ≤ 24) (G : ∀ i, i < gc → ∃ r kk a, ar h 48 i = some r ∧ 115 ≤ r ∧ r < h.1 ∧ kk < 6 ∧ a < 64 ∧ h.2.1 r = g_obj kk i a ∧ ai h 90 (2 * i) = nI kk ∧ ai h 90 (2 * i + 1) = nI a) {s : St} (S : Sok s) (C : MF h1 f h1 s) (k : ∀ h2, MF h1 f h2 (fr h n gc R nn s).1 → Q (some (.int (nI (fr h n gc R nn s).2))) h2) : ma_X 227 [.ref 80, .int x, .int (nI nn)] h1 Q := by
  have tx : x.toNatClampNeg = f := by subst q; exact nI_clamp (by omega)
  have vx : vp_in x 4 := by subst q; exact nI_in l (by decide)
  have x1 : ¬ x < 0 := by subst q; exact nI_pos (by omega)
  have x3 : x ≤ 3 := by subst q; exact nI_le (a := f) (b := 3) (by omega) (by decide)
  have e91 := ix91n q
  have lp : ∀ (k gr : Nat) (s : St) (h2 : ma_H), MF h1 f h2 s → Sok s → (∀ h3, MF h1 f h3 (fr h n gc R k s).1 → Q (some (.int (nI (gr + (fr h n gc R k s).2)))) h3) → gr + k = nn → At 227 Q 14 (0, 0) [some (.ref 80), some (.int x), some (.int (nI nn)), some (.int (nI gr)), some (.int 1), none, none, none] [] h2 := by
    intro k
    induction k with
    | zero =>
      intro gr s h2 C S kk0 ek
      obtain rfl : gr = nn := by omega
      refine go 60 (by decide) ?_
      simp only [KX, KY, KZ, KW, KV, Nat.reduceAdd, Nat.reduceSub, Nat.reduceLeDiff, true_and, and_true, true_or, or_true, or_self, reduceCtorEq, if_true, if_false, not_false_eq_true, eq_self, c227]
      rw [if_neg (nI_nlt (Nat.le_refl _) (by omega))]
      exact kk0 h2 C
    | succ k ih =>
      intro gr s h2 C S kk0 ek
      obtain ⟨H2, c2, c3, c4, c5, c6, c7, c8⟩ := C
      have sm := S.1
      have e2q : (2 : Int32) * nI (s.2.1 % 24) = nI (2 * (s.2.1 % 24)) := nI_mul 2 _
      have e14 : fi h2 80 14 = nI n := by
        show fiC (h2.2.1 80) 14 = _
        rw [c4]
        exact e
      have A2 : LA h2 n R := A.cong fun a ha => c3 a (by omega) (by omega) (by omega) (by omega) (by omega) (by omega)
      have R2 : Rt h2 := Rh.cong fun a ha => c3 a (by omega) (by omega) (by omega) (by omega) (by omega) (by omega)
      by_cases m60 : s.2.1 < 60
      · refine go 60 (by decide) ?_
        simp only [KX, KY, KZ, KW, KV, Nat.reduceAdd, Nat.reduceSub, Nat.reduceLeDiff, true_and, and_true, true_or, or_true, or_self, reduceCtorEq, if_true, if_false, not_false_eq_true, eq_self, c227, H2.e80, H2.e89, H2.e91, tx]
        rw [if_pos (nI_lt (show gr < nn by omega) (by omega)), c7]
        refine ⟨vx, ?_⟩
        rw [if_pos (show nI s.2.1 < (60 : Int32) from nI_lt (b := 60) m60 (by decide)), m24 s.2.1 (by omega), e2q]
        skip
        rw [show nI (2 * (s.2.1 % 24)) + 1 = nI (2 * (s.2.1 % 24) + 1) from nI_1 _, nI_clamp (show 2 * (s.2.1 % 24) < 2 ^ 31 by omega), nI_clamp (show 2 * (s.2.1 % 24) + 1 < 2 ^ 31 by omega)]
        refine ⟨vx, by decide, nI_in (show 2 * (s.2.1 % 24) < 48 by omega) (by decide), nI_in (show 2 * (s.2.1 % 24) + 1 < 48 by omega) (by decide), ?_⟩
        refine s224 H2 R2 l q e14 n8 A2 (fun g => ?_)
        have pv : lastU (ai h2 50) (R (nmv (ai h2 95) (ai h2 91 (2 * (s.2.1 % 24))) (ai h2 91 (2 * (s.2.1 % 24) + 1)) (su (ml_ice (ai h2 88) (91 * f)) 91) (ml_span (fun i => ai h2 88 (91 * f + i)) 91) (ml_edge (fun i => ai h2 88 (91 * f + i)) 91) (ai h2 89 f))) n = fpk h n R s := by
          obtain ⟨w1, w2⟩ := ea (s.2.1 % 24) (by omega)
          rw [ai_c (c3 50 (by decide) (by decide) (by decide) (by decide) (by decide) (by decide)), e50, ai_c (c3 91 (by decide) (by decide) (by decide) (by decide) (by decide) (by decide)), w1, w2]
          refine lastU_c n fun i hi => (A i hi).2.2.1 _ _ (nmv_d _ _ rfl rfl ?_ ?_ ?_ c7)
          · refine su_congr 91 fun i hi => ?_
            unfold ml_ice fl_ice fl_has
            rw [c5 i hi]
          · exact (span_eq c5 91 (Nat.le_refl _)).symm
          · exact (edge_eq S.2.1 c5 (fun i hi => by rw [← c5 i hi]; exact S.2.2 i hi)).symm
        rw [pv]
        obtain ⟨u, u5, eu0⟩ := A.in (NF s (ai h 53 (s.2.1 % 24)) (ai h 54 (s.2.1 % 24)))
        have eu : fpk h n R s = nI u := by
          rw [← eu0]
          unfold fpk
          rw [e50]
        rw [eu]
        have C2 := MF.named ⟨H2, c2, c3, c4, c5, c6, c7, c8⟩ (nmv (ai h2 95) (ai h2 91 (2 * (s.2.1 % 24))) (ai h2 91 (2 * (s.2.1 % 24) + 1)) (su (ml_ice (ai h2 88) (91 * f)) 91) (ml_span (fun i => ai h2 88 (91 * f + i)) 91) (ml_edge (fun i => ai h2 88 (91 * f + i)) 91) (ai h2 89 f)) g
        generalize ma_set (ma_set h2 95 _) 98 _ = h3 at C2 ⊢
        obtain ⟨D1, d2, d3, d4, d5, d6, d7, d8⟩ := C2
        have f9 : fi h3 80 9 = nI gc := by
          show fiC (h3.2.1 80) 9 = _
          rw [d4]
          exact e9
        have f11 : fi h3 80 11 = fi h 34 6 := by
          show fiC (h3.2.1 80) 11 = _
          rw [d4]
          exact ems
        have f12 : fi h3 80 12 = s.2.2 := by
          show fiC (h3.2.1 80) 12 = _
          rw [d4]
          rfl
        have a90 : ai h3 90 = ai h 90 := (ai_c (d3 90 (by decide) (by decide) (by decide) (by decide) (by decide) (by decide))).trans e90
        have R3 : Rt h3 := Rh.cong fun a ha => d3 a (by omega) (by omega) (by omega) (by omega) (by omega) (by omega)
        refine go 60 (by decide) ?_
        simp only [KX, KY, KZ, KW, KV, Nat.reduceAdd, Nat.reduceSub, Nat.reduceLeDiff, true_and, and_true, true_or, or_true, or_self, reduceCtorEq, if_true, if_false, not_false_eq_true, eq_self, c227, D1.e80]
        by_cases ug : u < gc
        · obtain ⟨r, kk, a, er, r115, -, hk, ha, eo, f90, f91⟩ := G u ug
          have fre : fr h n gc R (k + 1) s = ((fr h n gc R k (fst h u s)).1, (fr h n gc R k (fst h u s)).2 + 1) := by
            show (if _ then _ else _) = _
            rw [eu, nI_clamp (show u < 2 ^ 31 by omega), if_pos ⟨m60, ug⟩]
          have y2 : nI u ≤ nI gc - 1 := by obtain ⟨m, rfl⟩ : ∃ m, gc = m + 1 := ⟨gc - 1, by omega⟩; rw [nI_pred]; exact nI_le (by omega) (by omega)
          refine s210y D1 f9 (nI_pos (by omega)) y2 ?_
          refine go 60 (by decide) ?_
          simp only [KX, KY, KZ, KW, KV, Nat.reduceAdd, Nat.reduceSub, Nat.reduceLeDiff, true_and, and_true, true_or, or_true, or_self, reduceCtorEq, if_true, if_false, not_false_eq_true, eq_self, c227, D1.e80]
          refine s217 (g := s.1) (m := m0) D1 R3 S.2.1 d5 ha l q rfl (by omega) hk (by rw [a90]; exact f90) (by rw [a90]; exact f91) (by rw [f11]; exact em0) m4 ?_
          have eK : fz s.1 kk (nI a) = fK h u s.1 := by
            unfold fK
            rw [f90, f91, nI_clamp (show kk < 2 ^ 31 by omega)]
          rw [f11, f12, d7, eK]
          obtain ⟨sm2, sm91, esu⟩ := su01 (f := gfl (fK h u s.1) (fi h 34 6) s.2.2) (gfl01 _ _ _) 91
          rw [esu]
          refine go 60 (by decide) ?_
          simp only [KX, KY, KZ, KW, KV, Nat.reduceAdd, Nat.reduceSub, Nat.reduceLeDiff, true_and, and_true, true_or, or_true, or_self, reduceCtorEq, if_true, if_false, not_false_eq_true, eq_self, c227, D1.e80]
          refine go 60 (by decide) ?_
          simp only [KX, KY, KZ, KW, KV, Nat.reduceAdd, Nat.reduceSub, Nat.reduceLeDiff, true_and, and_true, true_or, or_true, or_self, reduceCtorEq, if_true, if_false, not_false_eq_true, eq_self, c227, D1.e80]
          rw [if_neg (nI_pos (show sm2 < 2 ^ 31 by omega))]
          first
            | (with_reducible show At 227 _ 14 _ _ _ _)
            | (refine go 60 (by decide) ?_; simp only [KX, KY, KZ, KW, KV, Nat.reduceAdd, Nat.reduceSub, Nat.reduceLeDiff, true_and, and_true, true_or, or_true, or_self, reduceCtorEq, if_true, if_false, not_false_eq_true, eq_self, c227])
          first
            | (with_reducible show At 227 _ 14 _ _ _ _)
            | (refine go 60 (by decide) ?_; simp only [KX, KY, KZ, KW, KV, Nat.reduceAdd, Nat.reduceSub, Nat.reduceLeDiff, true_and, and_true, true_or, or_true, or_self, reduceCtorEq, if_true, if_false, not_false_eq_true, eq_self, c227])
          first
            | (with_reducible show At 227 _ 14 _ _ _ _)
            | (refine go 60 (by decide) ?_; simp only [KX, KY, KZ, KW, KV, Nat.reduceAdd, Nat.reduceSub, Nat.reduceLeDiff, true_and, and_true, true_or, or_true, or_self, reduceCtorEq, if_true, if_false, not_false_eq_true, eq_self, c227])
          rw [nI_1 gr]
          refine At_le (ih (gr + 1) (fst h u s) _ ⟨sh_set (sh_set (sh_set (sh_set D1 rfl) rfl) rfl) rfl, d2, fun a a1 a2 a3 a4 a5 a6 => ?_, ?_, fun i hi => ?_, fun j hj w => ?_, ?_, fun j hj w => ?_⟩ (S.fst m60) (fun h3 c => ?_) (by omega)) ⟨rfl, rfl, rfl, rfl, rfl, trivial⟩
          · rw [ma_set_ne _ _ a2, ma_set_ne _ _ a1, ma_set_ne _ _ a3, ma_set_ne _ _ a6]
            exact d3 a a1 a2 a3 a4 a5 a6
          · rw [ma_set_ne _ _ (by decide), ma_set_at, mO_set d4]
            rfl
          · rw [ai_at]
            exact garr_eq d5 91 (Nat.le_refl _) i hi
          · rw [ai_at, garr_out w 91 (Nat.le_refl _)]
            exact d6 j hj w
          · rw [ai_ne _ _ (by decide), ai_ne _ _ (by decide), ai_at, show upd (ai h3 89) f (nI s.2.1 + 1) f = nI s.2.1 + 1 from if_pos rfl, nI_1]
            rfl
          · rw [ai_ne _ _ (by decide), ai_ne _ _ (by decide), ai_at, show upd (ai h3 89) f (nI s.2.1 + 1) j = ai h3 89 j from if_neg w]
            exact d8 j hj w
          · have kk2 := kk0 h3 (by rw [fre]; exact c)
            rw [fre] at kk2
            rw [show gr + 1 + (fr h n gc R k (fst h u s)).2 = gr + ((fr h n gc R k (fst h u s)).2 + 1) by omega]
            exact kk2
        · have fre : fr h n gc R (k + 1) s = (s, 0) := by
            show (if _ then _ else _) = _
            rw [eu, nI_clamp (show u < 2 ^ 31 by omega), if_neg (fun w => ug w.2)]
          rw [fre] at kk0
          refine s210n D1 f9 (Or.inr (fun z => ?_)) ?_
          · cases gc with
            | zero => exact absurd z (by rw [show nI 0 - 1 = -1 from by decide]; exact fun z => nI_pos (show u < 2 ^ 31 by omega) (Int32.lt_of_le_of_lt z (by decide)))
            | succ m =>
              rw [nI_pred] at z
              exact nI_ge (show m < u by omega) (by omega) z
          refine go 60 (by decide) ?_
          simp only [KX, KY, KZ, KW, KV, Nat.reduceAdd, Nat.reduceSub, Nat.reduceLeDiff, true_and, and_true, true_or, or_true, or_self, reduceCtorEq, if_true, if_false, not_false_eq_true, eq_self, c227, D1.e80, show ((-1 : Int32) < 0) = True from by decide]
          first
            | (with_reducible show At 227 _ 14 _ _ _ _)
            | (refine go 60 (by decide) ?_; simp only [KX, KY, KZ, KW, KV, Nat.reduceAdd, Nat.reduceSub, Nat.reduceLeDiff, true_and, and_true, true_or, or_true, or_self, reduceCtorEq, if_true, if_false, not_false_eq_true, eq_self, c227, show ((-1 : Int32) < 0) = True from by decide])
          first
            | (with_reducible show At 227 _ 14 _ _ _ _)
            | (refine go 60 (by decide) ?_; simp only [KX, KY, KZ, KW, KV, Nat.reduceAdd, Nat.reduceSub, Nat.reduceLeDiff, true_and, and_true, true_or, or_true, or_self, reduceCtorEq, if_true, if_false, not_false_eq_true, eq_self, c227, show ((-1 : Int32) < 0) = True from by decide])
          first
            | (with_reducible show At 227 _ 14 _ _ _ _)
            | (refine go 60 (by decide) ?_; simp only [KX, KY, KZ, KW, KV, Nat.reduceAdd, Nat.reduceSub, Nat.reduceLeDiff, true_and, and_true, true_or, or_true, or_self, reduceCtorEq, if_true, if_false, not_false_eq_true, eq_self, c227, show ((-1 : Int32) < 0) = True from by decide])
          refine go 60 (by decide) ?_
          simp only [KX, KY, KZ, KW, KV, Nat.reduceAdd, Nat.reduceSub, Nat.reduceLeDiff, true_and, and_true, true_or, or_true, or_self, reduceCtorEq, if_true, if_false, not_false_eq_true, eq_self, c227]
          first
            | exact kk0 h3 ⟨D1, d2, d3, d4, d5, d6, d7, d8⟩
            | (rw [Int32.add_zero]; exact kk0 h3 ⟨D1, d2, d3, d4, d5, d6, d7, d8⟩)
            | (split <;> exact kk0 h3 ⟨D1, d2, d3, d4, d5, d6, d7, d8⟩)
      · have fre : fr h n gc R (k + 1) s = (s, 0) := by
          show (if _ then _ else _) = _
          rw [if_neg (fun w => m60 w.1)]
        rw [fre] at kk0
        refine go 60 (by decide) ?_
        simp only [KX, KY, KZ, KW, KV, Nat.reduceAdd, Nat.reduceSub, Nat.reduceLeDiff, true_and, and_true, true_or, or_true, or_self, reduceCtorEq, if_true, if_false, not_false_eq_true, eq_self, c227, H2.e80, H2.e89, H2.e91, tx]
        rw [if_pos (nI_lt (show gr < nn by omega) (by omega)), c7]
        refine ⟨vx, ?_⟩
        rw [if_neg (show ¬ nI s.2.1 < (60 : Int32) from nI_nlt (b := 60) (by omega) (by omega))]
        exact kk0 h2 ⟨H2, c2, c3, c4, c5, c6, c7, c8⟩
  refine ma_enter (m := 227) (Or.inl (by decide)) (by show 3 ≤ mt_n 227; decide +kernel) ?_
  show At 227 Q 0 (mt_c 227) [some (.ref 80), some (.int x), some (.int (nI nn)), none, none, none, none, none] [] h1
  refine go 60 (by decide) ?_
  simp only [KX, KY, KZ, KW, KV, Nat.reduceAdd, Nat.reduceSub, Nat.reduceLeDiff, true_and, and_true, true_or, or_true, or_self, reduceCtorEq, if_true, if_false, not_false_eq_true, eq_self, c227]
  refine s170y x1 x3 ?_
  refine go 60 (by decide) ?_
  simp only [KX, KY, KZ, KW, KV, Nat.reduceAdd, Nat.reduceSub, Nat.reduceLeDiff, true_and, and_true, true_or, or_true, or_self, reduceCtorEq, if_true, if_false, not_false_eq_true, eq_self, c227]
  refine s162y (nI_pos (by omega)) (nI_le (b := 24) hn (by decide)) ?_
  refine go 60 (by decide) ?_
  simp only [KX, KY, KZ, KW, KV, Nat.reduceAdd, Nat.reduceSub, Nat.reduceLeDiff, true_and, and_true, true_or, or_true, or_self, reduceCtorEq, if_true, if_false, not_false_eq_true, eq_self, c227]
  exact At_le (lp nn 0 s h1 C S (fun h2 c => by rw [Nat.zero_add]; exact k h2 c) (by omega)) ⟨rfl, rfl, rfl, rfl, rfl, trivial⟩
theorem s126n {h : ma_H} {Q : ma_Q} {x y : Int32} (H : Sh h) (Rf : Rr h) (o : (x < 0 ∨ ¬ x < 4) ∨ ((∃ f, f < 4 ∧ x = nI f) ∧ (y < 0 ∨ ¬ y ≤ 24))) (k : Q (some (.int (-1))) h) : ma_X 126 [.ref 0, .int x, .int y] h Q := by
  refine ma_enter (m := 126) (Or.inl (by decide)) (by show 3 ≤ mt_n 126; decide +kernel) ?_
  show At 126 Q 0 (mt_c 126) [some (.ref 0), some (.int x), some (.int y), none] [] h
  refine go 60 (by decide) ?_
  simp only [KX, KY, KZ, KW, KV, Nat.reduceAdd, Nat.reduceSub, Nat.reduceLeDiff, true_and, and_true, true_or, or_true, or_self, reduceCtorEq, if_true, if_false, not_false_eq_true, eq_self, c126, H.e0]
  rcases o with o | ⟨⟨f, l, q⟩, o⟩
  · refine s145n H o ?_
    refine go 60 (by decide) ?_
    simp only [KX, KY, KZ, KW, KV, Nat.reduceAdd, Nat.reduceSub, Nat.reduceLeDiff, true_and, and_true, true_or, or_true, or_self, reduceCtorEq, if_true, if_false, not_false_eq_true, eq_self, c126, H.e0]
    exact k
  · refine s145e H Rf l q ?_
    refine go 60 (by decide) ?_
    simp only [KX, KY, KZ, KW, KV, Nat.reduceAdd, Nat.reduceSub, Nat.reduceLeDiff, true_and, and_true, true_or, or_true, or_self, reduceCtorEq, if_true, if_false, not_false_eq_true, eq_self, c126, H.e0]
    by_cases z : y < 0
    · rw [if_pos z]
      exact k
    · rw [if_neg z, if_neg (o.resolve_left z)]
      exact k
theorem s227n {h : ma_H} {Q : ma_Q} {x y : Int32} (o : (x < 0 ∨ ¬ x ≤ 3) ∨ ((∃ f, f < 4 ∧ x = nI f) ∧ (y < 0 ∨ ¬ y ≤ 24))) (k : Q (some (.int (-1))) h) : ma_X 227 [.ref 80, .int x, .int y] h Q := by
  refine ma_enter (m := 227) (Or.inl (by decide)) (by show 3 ≤ mt_n 227; decide +kernel) ?_
  show At 227 Q 0 (mt_c 227) [some (.ref 80), some (.int x), some (.int y), none, none, none, none, none] [] h
  refine go 60 (by decide) ?_
  simp only [KX, KY, KZ, KW, KV, Nat.reduceAdd, Nat.reduceSub, Nat.reduceLeDiff, true_and, and_true, true_or, or_true, or_self, reduceCtorEq, if_true, if_false, not_false_eq_true, eq_self, c227]
  rcases o with o | ⟨⟨f, l, q⟩, o⟩
  · refine s170n o ?_
    refine go 60 (by decide) ?_
    simp only [KX, KY, KZ, KW, KV, Nat.reduceAdd, Nat.reduceSub, Nat.reduceLeDiff, true_and, and_true, true_or, or_true, or_self, reduceCtorEq, if_true, if_false, not_false_eq_true, eq_self, c227]
    exact k
  · refine s170y (by subst q; exact nI_pos (by omega)) (by subst q; exact nI_le (a := f) (b := 3) (by omega) (by decide)) ?_
    refine go 60 (by decide) ?_
    simp only [KX, KY, KZ, KW, KV, Nat.reduceAdd, Nat.reduceSub, Nat.reduceLeDiff, true_and, and_true, true_or, or_true, or_self, reduceCtorEq, if_true, if_false, not_false_eq_true, eq_self, c227]
    refine s162n o ?_
    refine go 60 (by decide) ?_
    simp only [KX, KY, KZ, KW, KV, Nat.reduceAdd, Nat.reduceSub, Nat.reduceLeDiff, true_and, and_true, true_or, or_true, or_self, reduceCtorEq, if_true, if_false, not_false_eq_true, eq_self, c227]
    exact k
theorem s126 {h : ma_H} {Q : ma_Q} {x y : Int32} {f n gc nn : Nat} {R : (Nat → Int32) → Nat → Bool} (H : Sh h) (Rf : Rr h) (l : f < 4) (q : x = nI f) (qy : y = nI nn) (e : fi h 49 0 = nI n) (n8 : n ≤ 8) (A : LA h n R) (eg : fi h 34 2 = nI gc) (g6 : gc ≤ 6) (hn : nn ≤ 24) (G : ∀ i, i < gc → ∃ r kk a, ar h 48 i = some r ∧ 115 ≤ r ∧ r < h.1 ∧ kk < 6 ∧ a < 64 ∧ h.2.1 r = g_obj kk i a ∧ ai h 90 (2 * i) = nI kk ∧ ai h 90 (2 * i + 1) = nI a) {s : St} (S : Sok s) (C : CF h f h s) (k : ∀ h1, CF h f h1 (fr h n gc R nn s).1 → Q (some (.int (nI (fr h n gc R nn s).2))) h1) : ma_X 126 [.ref 0, .int x, .int y] h Q := by
  subst qy
  refine ma_enter (m := 126) (Or.inl (by decide)) (by show 3 ≤ mt_n 126; decide +kernel) ?_
  show At 126 Q 0 (mt_c 126) [some (.ref 0), some (.int x), some (.int (nI nn)), none] [] h
  refine go 60 (by decide) ?_
  simp only [KX, KY, KZ, KW, KV, Nat.reduceAdd, Nat.reduceSub, Nat.reduceLeDiff, true_and, and_true, true_or, or_true, or_self, reduceCtorEq, if_true, if_false, not_false_eq_true, eq_self, c126, H.e0]
  refine s145e H Rf l q ?_
  refine go 60 (by decide) ?_
  simp only [KX, KY, KZ, KW, KV, Nat.reduceAdd, Nat.reduceSub, Nat.reduceLeDiff, true_and, and_true, true_or, or_true, or_self, reduceCtorEq, if_true, if_false, not_false_eq_true, eq_self, c126, H.e0, H.e34]
  rw [if_neg (nI_pos (show nn < 2 ^ 31 by omega)), if_pos (show nI nn ≤ (24 : Int32) from nI_le (b := 24) hn (by decide))]
  refine s101 H l e n8 A eg g6 hn G S C (fun h1 c => ?_)
  refine go 60 (by decide) ?_
  simp only [KX, KY, KZ, KW, KV, Nat.reduceAdd, Nat.reduceSub, Nat.reduceLeDiff, true_and, and_true, true_or, or_true, or_self, reduceCtorEq, if_true, if_false, not_false_eq_true, eq_self, c126]
  exact k h1 c
theorem fr_ok {h : ma_H} {n gc : Nat} {R : (Nat → Int32) → Nat → Bool} : ∀ (k : Nat) (s : St), Sok s → Sok (fr h n gc R k s).1
  | 0, s, S => S
  | k + 1, s, S => by
    show Sok (if s.2.1 < 60 ∧ (fpk h n R s).toNatClampNeg < gc then ((fr h n gc R k (fst h (fpk h n R s).toNatClampNeg s)).1, (fr h n gc R k (fst h (fpk h n R s).toNatClampNeg s)).2 + 1) else (s, 0)).1
    split
    · rename_i w
      exact fr_ok k _ (S.fst w.1)
    · exact S
theorem p126 {h : ma_H} {x y : Int32} (I : Inv h) : Pair h 126 227 [.int x, .int y] := by
  intro Q k
  obtain ⟨n, n8, e1, e2, R, A⟩ := I.nl.use
  obtain ⟨gc, g6, e3, e4, G⟩ := I.ng.at
  rcases icasB x 3 (by decide) with ⟨f, l, q, -⟩ | ⟨o1, o2⟩
  · rcases icasB y 24 (by decide) with ⟨nn, hn, qy, -⟩ | ⟨o1, o2⟩
    · obtain ⟨m, m6, mm1, mm2⟩ := I.nf.mf l
      obtain ⟨⟨m0, m04, s1, s2⟩, sz⟩ := I.nm
      have S : Sok (ai h (37 + 3 * f), m, fi h 34 7) := ⟨m6, I.nf.ok l, fun i hi => by dsimp only; rw [I.nf.eq l hi]; exact I.nf.b l hi⟩
      refine s126 I.sh I.rr l q qy e1 n8 A e3 g6 (by omega) G S ⟨I.sh, rfl, fun _ _ _ _ _ _ => rfl, I.sh.e34, rfl, mm1⟩ (fun h1 c => k _ _ (e80_S c.1) fun Q2 k2 => ?_)
      obtain ⟨H1, c2, c3, c4, c5, c6⟩ := c
      have fo := fr_ok (h := h) (n := n) (gc := gc) (R := R) nn _ S
      have c80 : h1.2.1 80 = h.2.1 80 := c3 80 (by decide) (by omega) (by omega) (by decide) (by decide)
      have c88 : ai h1 88 = ai h 88 := ai_c (c3 88 (by decide) (by omega) (by omega) (by decide) (by decide))
      have c89 : ai h1 89 = ai h 89 := ai_c (c3 89 (by decide) (by omega) (by omega) (by decide) (by decide))
      have cf : ∀ i, fi h1 80 i = fi h 80 i := fun i => by show fiC _ i = fiC _ i; rw [c80]
      have A1 : LA h1 n R := A.cong fun a ha => c3 a (by omega) (by omega) (by omega) (by omega) (by omega)
      have R1 : Rt h1 := I.rt.cong fun a ha => c3 a (by omega) (by omega) (by omega) (by omega) (by omega)
      have M0 : MF h1 f h1 (ai h (37 + 3 * f), m, fi h 34 7) := ⟨H1, rfl, fun _ _ _ _ _ _ _ => rfl, by
        rw [H1.e80]
        show (.inr (12, mO h1) : ma_C) = .inr (12, (mO h1).set 12 (.int (fi h 34 7)))
        rw [sz, ← cf 12]
        rfl, fun i hi => by rw [c88]; exact I.nf.eq l hi, fun _ _ _ => rfl, by rw [c89]; exact mm2, fun _ _ _ => rfl⟩
      subst qy
      refine s227 (h := h) H1 R1 l q ((cf 14).trans e2) n8 A1 (ai_c (c3 50 (by decide) (by omega) (by omega) (by decide) (by decide))) (fun m hm => ?_) (ai_c (c3 90 (by decide) (by omega) (by omega) (by decide) (by decide))) s1 m04 ((cf 11).trans (s2.trans s1.symm)) ((cf 9).trans e4) g6 (by omega) G S M0 (fun h2 d => ?_)
      · obtain ⟨w1, w2⟩ := I.na m hm
        rw [ai_c (c3 91 (by decide) (by omega) (by omega) (by decide) (by decide)), ← w1, ← w2]
        exact ⟨rfl, rfl⟩
      · obtain ⟨D1, d2, d3, d4, d5, d6, d7, d8⟩ := d
        generalize fr h n gc R nn (ai h (37 + 3 * f), m, fi h 34 7) = z at c4 c5 c6 fo d4 d5 d7 k2 ⊢
        obtain ⟨fo1, fo2, fo3⟩ := fo
        have IA : Inv (ma_set (ma_set h 34 (wO h z.1.2.2)) 80 (.inr (12, (mO h).set 12 (.int z.1.2.2)))) := ⟨(sh_set (sh_set I.sh rfl) rfl), I.rr, I.rt, ⟨(I.nf.cong (fun a ha => by simp (disch := omega) only [ma_set_ne])), (I.ng.cong2 (Nat.le_refl _) rfl rfl (fun a ha => by simp (disch := omega) only [ma_set_ne])), ⟨⟨m0, m04, s1, s2⟩, rfl⟩, I.na, I.nl⟩, (I.rk.cong2 (Nat.le_refl _) rfl rfl (fun a ha => by simp (disch := omega) only [ma_set_ne])), I.rp, (I.rw.cong2 rfl rfl (fun a ha => by simp (disch := omega) only [ma_set_ne])), (I.rs.cong (fun a ha => by simp (disch := omega) only [ma_set_ne])), I.rv, I.ra, I.rc⟩
        refine k2 _ (IA.flk l D1 (d2.trans c2) (fun a a1 a2 a3 a4 => ?_) ?_ (fun i hi => ?_) (fun i hi => ?_) (fun j hj w => ?_) ⟨z.1.2.1, fo1, ?_, d7⟩ (fun j hj w => ?_))
        · unfold exf at a4
          by_cases b2 : a = 80
          · subst b2
            rw [ma_set_at, d4, mO_congr c80]
          · rw [ma_set_ne _ _ b2, d3 a b2 (by omega) (by omega) (by omega) (by omega) (by omega)]
            by_cases b1 : a = 34
            · subst b1
              rw [ma_set_at]
              exact c4
            · rw [ma_set_ne _ _ b1]
              exact c3 a b1 a1 a2 (by omega) (by omega)
        · rw [ai_c (d3 (37 + 3 * f) (by omega) (by omega) (by omega) (by omega) (by omega) (by omega)), c5]
          exact fo2
        · rw [ai_c (d3 (37 + 3 * f) (by omega) (by omega) (by omega) (by omega) (by omega) (by omega)), c5]
          exact d5 i hi
        · rw [← d5 i hi]
          exact fo3 i hi
        · rw [d6 j hj w, c88]
          rfl
        · show fiC (h2.2.1 (36 + 3 * f)) 0 = _
          rw [d3 (36 + 3 * f) (by omega) (by omega) (by omega) (by omega) (by omega) (by omega)]
          exact c6
        · rw [d8 j hj w, c89]
          rfl
    · exact s126n I.sh I.rr (Or.inr ⟨⟨f, l, q⟩, o1⟩) (k _ _ (by repeat (first | exact e80_I I | exact e80_S (by assumption) | exact e80_I (by assumption) | exact e80_n I.sh | refine e80_s (by omega) ?_)) fun Q2 k2 => s227n (Or.inr ⟨⟨f, l, q⟩, o1⟩) (k2 _ I))
  · exact s126n I.sh I.rr (Or.inl o2) (k _ _ (by repeat (first | exact e80_I I | exact e80_S (by assumption) | exact e80_I (by assumption) | exact e80_n I.sh | refine e80_s (by omega) ?_)) fun Q2 k2 => s227n (Or.inl o1) (k2 _ I))
