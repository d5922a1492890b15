/-! fall: the class -/
/-- a FLAKE that falls: its places, its minute, z -/
abbrev St : Type := (Nat → Int32) × Nat × Int32
def NF (s : St) (w wt : Int32) : Nat → Int32 := nmv (fun _ => 0) w wt (su (fl_ice s.1) 91) (fl_span s.1 91) (fl_edge s.1 91) (nI s.2.1)
def fpk (h : ma_H) (n : Nat) (R : (Nat → Int32) → Nat → Bool) (s : St) : Int32 := lastU (ai h 50) (R (NF s (ai h 53 (s.2.1 % 24)) (ai h 54 (s.2.1 % 24)))) n
def fK (h : ma_H) (u : Nat) (g : Nat → Int32) : Nat → Int32 := fz g (ai h 90 (2 * u)).toNatClampNeg (ai h 90 (2 * u + 1))
def fst (h : ma_H) (u : Nat) (s : St) : St := (garr (fK h u s.1) (fi h 34 6) s.2.2 (nI s.2.1 + 1) ma_cell s.1 91, s.2.1 + 1, gzz (fK h u s.1) (fi h 34 6) s.2.2 91)
def fr (h : ma_H) (n gc : Nat) (R : (Nat → Int32) → Nat → Bool) : Nat → St → St × Nat
  | 0, s => (s, 0)
  | k + 1, s => if s.2.1 < 60 ∧ (fpk h n R s).toNatClampNeg < gc then ((fr h n gc R k (fst h (fpk h n R s).toNatClampNeg s)).1, (fr h n gc R k (fst h (fpk h n R s).toNatClampNeg s)).2 + 1) else (s, 0)
def Sok (s : St) : Prop := s.2.1 ≤ 60 ∧ fl_ok s.1 ∧ ∀ i, i < 91 → s.1 (ma_cell i) = -1 ∨ ¬ s.1 (ma_cell i) < 0
theorem garr_bc {K : Nat → Int32} {ms z mn : Int32} {g : Nat → Int32} (hm : ¬ mn < 0) (b : ∀ i, i < 91 → g (ma_cell i) = -1 ∨ ¬ g (ma_cell i) < 0) : ∀ i, i < 91 → garr K ms z mn ma_cell g 91 (ma_cell i) = -1 ∨ ¬ garr K ms z mn ma_cell g 91 (ma_cell i) < 0 := fun i hi => garr_b hm (b i hi) 91
theorem Sok.fst {h : ma_H} {u : Nat} {s : St} (S : Sok s) (m60 : s.2.1 < 60) : Sok (fst h u s) := by
  obtain ⟨a, b, c⟩ := S
  have e : nI s.2.1 + 1 = nI (s.2.1 + 1) := nI_1 _
  have hn : ¬ nI s.2.1 + 1 < 0 := by rw [e]; exact nI_pos (by omega)
  exact ⟨by show s.2.1 + 1 ≤ 60; omega, garr_ok (ne2 (Or.inr hn)) b 91 (Nat.le_refl _), garr_bc hn c⟩
theorem m24 : ∀ m, m < 61 → nI m - nI m / 24 * 24 = nI (m % 24) := by decide +kernel
def wO (h : ma_H) (z : Int32) : ma_C := .inr (10, [.ref 35, .ref 48, .int (fi h 34 2), .ref 49, .ref 53, .ref 54, .int (fi h 34 6), .int z, .ref 55, .ref 56])
/-- what the class has made of h -/
def CF (h : ma_H) (f : Nat) (h1 : ma_H) (s : St) : Prop := Sh h1 ∧ h1.1 = h.1 ∧ (∀ a, a ≠ 34 → a ≠ 36 + 3 * f → a ≠ 37 + 3 * f → a ≠ 55 → a ≠ 56 → h1.2.1 a = h.2.1 a) ∧ h1.2.1 34 = wO h s.2.2 ∧ ai h1 (37 + 3 * f) = s.1 ∧ fi h1 (36 + 3 * f) 0 = nI s.2.1
theorem CF.named {h h1 : ma_H} {f : Nat} {s : St} (C : CF h f h1 s) (l : f < 4) (b : Nat → Int32) : CF h f (ma_set h1 56 (.inl (.int, 6, .inl b))) s := by
  obtain ⟨c1, c2, c3, c4, c5, c6⟩ := C
  exact ⟨sh_set c1 rfl, c2, fun a a1 a2 a3 a4 a5 => (ma_set_ne _ _ a5).trans (c3 a a1 a2 a3 a4 a5), (ma_set_ne _ _ (by decide)).trans c4, (ai_ne _ _ (by omega)).trans c5, (fi_ne _ _ _ (by omega)).trans c6⟩
theorem nmv_d (b b2 : Nat → Int32) {w wt sz sp ed mn w2 wt2 sz2 sp2 ed2 mn2 : Int32} (e1 : w = w2) (e2 : wt = wt2) (e3 : sz = sz2) (e4 : sp = sp2) (e5 : ed = ed2) (e6 : mn = mn2) : ∀ j, j < 6 → nmv b w wt sz sp ed mn j = nmv b2 w2 wt2 sz2 sp2 ed2 mn2 j := by
  subst e1 e2 e3 e4 e5 e6
  exact nmv_c b b2 w wt sz sp ed mn
theorem s101 {h : ma_H} {Q : ma_Q} {f n gc nn : Nat} {R : (Nat → Int32) → Nat → Bool} (H : Sh h) (l : f < 4) (e : fi h 49 0 = nI n) (n8 : n ≤ 8) (A : LA h n R) (eg : fi h 34 2 = nI gc) (g6 : gc ≤ 6) (hn : nn ≤ 24) (G : ∀ i, i < gc → ∃ r kk a, ar h 48 i = some r ∧ 115 ≤ r ∧ r < h.1 ∧ kk < 6 ∧ a < 64 ∧ h.2.1 r = g_obj kk i a ∧ ai h 90 (2 * i) = nI kk ∧ ai h 90 (2 * i + 1) = nI a) {s : St} (S : Sok s) (C : CF h f h s) (k : ∀ h1, CF h f h1 (fr h n gc R nn s).1 → Q (some (.int (nI (fr h n gc R nn s).2))) h1) : ma_X 101 [.ref 34, .ref (36 + 3 * f), .int (nI nn)] h Q := by
  have lp : ∀ (k gr : Nat) (s : St) (h1 : ma_H), CF h f h1 s → Sok s → (∀ h2, CF h f h2 (fr h n gc R k s).1 → Q (some (.int (nI (gr + (fr h n gc R k s).2)))) h2) → gr + k = nn → At 101 Q 4 (0, 0) [some (.ref 34), some (.ref (36 + 3 * f)), some (.int (nI nn)), some (.int (nI gr)), some (.int 1), none, none] [] h1 := by
    intro k
    induction k with
    | zero =>
      intro gr s h1 C S kk0 ek
      obtain rfl : gr = nn := by omega
      obtain ⟨H1, c2, c3, c4, c5, c6⟩ := C
      refine go 60 (by decide) ?_
      simp only [KX, KY, KZ, KW, KV, Nat.reduceAdd, Nat.reduceSub, Nat.reduceLeDiff, true_and, and_true, true_or, or_true, or_self, reduceCtorEq, if_true, if_false, not_false_eq_true, eq_self, c101]
      rw [if_neg (nI_nlt (Nat.le_refl _) (by omega))]
      exact kk0 h1 ⟨H1, c2, c3, c4, c5, c6⟩
    | succ k ih =>
      intro gr s h1 C S kk0 ek
      obtain ⟨H1, c2, c3, c4, c5, c6⟩ := C
      have sm := S.1
      have e34 : h1.2.1 34 = .inr (10, [.ref 35, .ref 48, .int (fi h 34 2), .ref 49, .ref 53, .ref 54, .int (fi h 34 6), .int s.2.2, .ref 55, .ref 56]) := c4
      have e0 : fi h1 49 0 = nI n := by
        show fiC (h1.2.1 49) 0 = _
        rw [c3 49 (by decide) (by omega) (by omega) (by decide) (by decide)]
        exact e
      have A1 : LA h1 n R := A.cong fun a ha => c3 a (by omega) (by omega) (by omega) (by omega) (by omega)
      by_cases m60 : s.2.1 < 60
      · refine go 60 (by decide) ?_
        simp only [KX, KY, KZ, KW, KV, Nat.reduceAdd, Nat.reduceSub, Nat.reduceLeDiff, true_and, and_true, true_or, or_true, or_self, reduceCtorEq, if_true, if_false, not_false_eq_true, eq_self, c101, e34, (H1.fn l).1, c6, H1.e53, H1.e54]
        rw [if_pos (nI_lt (show gr < nn by omega) (by omega))]
        rw [if_neg (nI_pos (show s.2.1 < 2 ^ 31 by omega)), if_pos (show nI s.2.1 < (60 : Int32) from nI_lt (b := 60) m60 (by decide))]
        rw [m24 s.2.1 (by omega), nI_clamp (show s.2.1 % 24 < 2 ^ 31 by omega)]
        refine ⟨by decide, nI_in (show s.2.1 % 24 < 24 by omega) (by decide), nI_in (show s.2.1 % 24 < 24 by omega) (by decide), ?_⟩
        refine s98 H1 l e0 n8 A1 ?_
        have pv : lastU (ai h1 50) (R (nmv (ai h1 56) (ai h1 53 (s.2.1 % 24)) (ai h1 54 (s.2.1 % 24)) (su (fl_ice (ai h1 (37 + 3 * f))) 91) (fl_span (ai h1 (37 + 3 * f)) 91) (fl_edge (ai h1 (37 + 3 * f)) 91) (fi h1 (36 + 3 * f) 0))) n = fpk h n R s := by
          rw [ai_c (c3 50 (by decide) (by omega) (by omega) (by decide) (by decide)), ai_c (c3 53 (by decide) (by omega) (by omega) (by decide) (by decide)), ai_c (c3 54 (by decide) (by omega) (by omega) (by decide) (by decide))]
          refine lastU_c n fun i hi => (A i hi).2.2.1 _ _ (nmv_d _ _ rfl rfl ?_ ?_ ?_ c6)
          · rw [c5]
          · rw [c5]
          · rw [c5]
        rw [pv]
        obtain ⟨u, u5, eu⟩ := A.in (NF s (ai h 53 (s.2.1 % 24)) (ai h 54 (s.2.1 % 24)))
        have eu : fpk h n R s = nI u := eu
        rw [eu]
        have C2 := CF.named (b := (nmv (ai h1 56) (ai h1 53 (s.2.1 % 24)) (ai h1 54 (s.2.1 % 24)) (su (fl_ice (ai h1 (37 + 3 * f))) 91) (fl_span (ai h1 (37 + 3 * f)) 91) (fl_edge (ai h1 (37 + 3 * f)) 91) (fi h1 (36 + 3 * f) 0))) ⟨H1, c2, c3, c4, c5, c6⟩ l
        generalize ma_set h1 56 _ = h2 at C2 ⊢
        obtain ⟨D1, d2, d3, d4, d5, d6⟩ := C2
        have e34 : h2.2.1 34 = .inr (10, [.ref 35, .ref 48, .int (fi h 34 2), .ref 49, .ref 53, .ref 54, .int (fi h 34 6), .int s.2.2, .ref 55, .ref 56]) := d4
        have f2 : fi h2 34 2 = nI gc := by
          show fiC (h2.2.1 34) 2 = _
          rw [e34]
          exact eg
        have a48 : ar h2 48 = ar h 48 := by
          show arC (h2.2.1 48) = arC (h.2.1 48)
          rw [d3 48 (by decide) (by omega) (by omega) (by decide) (by decide)]
        refine go 60 (by decide) ?_
        simp only [KX, KY, KZ, KW, KV, Nat.reduceAdd, Nat.reduceSub, Nat.reduceLeDiff, true_and, and_true, true_or, or_true, or_self, reduceCtorEq, if_true, if_false, not_false_eq_true, eq_self, c101, e34, (D1.fn l).1]
        by_cases ug : u < gc
        · obtain ⟨r, kk, a, er, r115, -, hk, ha, eo, f90, f91⟩ := G u ug
          have fre : fr h n gc R (k + 1) s = ((fr h n gc R k (fst h u s)).1, (fr h n gc R k (fst h u s)).2 + 1) := by
            show (if _ then _ else _) = _
            rw [eu, nI_clamp (show u < 2 ^ 31 by omega), if_pos ⟨m60, ug⟩]
          refine s95 D1 f2 g6 ug rfl (by rw [a48]; exact er) ?_
          refine go 60 (by decide) ?_
          simp only [KX, KY, KZ, KW, KV, Nat.reduceAdd, Nat.reduceSub, Nat.reduceLeDiff, true_and, and_true, true_or, or_true, or_self, reduceCtorEq, if_true, if_false, not_false_eq_true, eq_self, c101, e34, (D1.fn l).1]
          refine go 60 (by decide) ?_
          simp only [KX, KY, KZ, KW, KV, Nat.reduceAdd, Nat.reduceSub, Nat.reduceLeDiff, true_and, and_true, true_or, or_true, or_self, reduceCtorEq, if_true, if_false, not_false_eq_true, eq_self, c101, e34, (D1.fn l).1]
          have hne : nI s.2.1 + 1 ≠ -2 := by rw [nI_1]; exact ne2 (Or.inr (nI_pos (by omega)))
          refine s96 (f := f) (r := r) (kk := kk) (a := a) (gi := u) D1 l (by rw [d5]; exact S.2.1) (by rw [d6]; exact hne) r115 hk ((d3 r (by omega) (by omega) (by omega) (by omega) (by omega)).trans eo) ?_
          have f6 : fi h2 34 6 = fi h 34 6 := by
            show fiC (h2.2.1 34) 6 = _
            rw [e34]
            rfl
          have f7 : fi h2 34 7 = s.2.2 := by
            show fiC (h2.2.1 34) 7 = _
            rw [e34]
            rfl
          have f22 : fi h2 34 2 = fi h 34 2 := f2.trans eg.symm
          have eK : fz s.1 kk (nI a) = fK h u s.1 := by
            unfold fK
            rw [f90, f91, nI_clamp (show kk < 2 ^ 31 by omega)]
          rw [d5, d6, f6, f7, f22, eK]
          first
            | (with_reducible show At 101 _ 4 _ _ _ _)
            | (refine go 60 (by decide) ?_; simp only [KX, KY, KZ, KW, KV, Nat.reduceAdd, Nat.reduceSub, Nat.reduceLeDiff, true_and, and_true, true_or, or_true, or_self, reduceCtorEq, if_true, if_false, not_false_eq_true, eq_self, c101, e34])
          first
            | (with_reducible show At 101 _ 4 _ _ _ _)
            | (refine go 60 (by decide) ?_; simp only [KX, KY, KZ, KW, KV, Nat.reduceAdd, Nat.reduceSub, Nat.reduceLeDiff, true_and, and_true, true_or, or_true, or_self, reduceCtorEq, if_true, if_false, not_false_eq_true, eq_self, c101, e34])
          first
            | (with_reducible show At 101 _ 4 _ _ _ _)
            | (refine go 60 (by decide) ?_; simp only [KX, KY, KZ, KW, KV, Nat.reduceAdd, Nat.reduceSub, Nat.reduceLeDiff, true_and, and_true, true_or, or_true, or_self, reduceCtorEq, if_true, if_false, not_false_eq_true, eq_self, c101, e34])
          rw [nI_1 gr]
          refine At_le (ih (gr + 1) (fst h u s) _ ⟨sh_set (sh_set (sh_set (sh_set D1 rfl) (nf_o l _)) rfl) (nf_s l _), d2, fun a a1 a2 a3 a4 a5 => ?_, ?_, ?_, ?_⟩ (S.fst m60) (fun h3 c => ?_) (by omega)) ⟨rfl, rfl, rfl, rfl, rfl, trivial⟩
          · rw [ma_set_ne _ _ a3, ma_set_ne _ _ a1, ma_set_ne _ _ a2, ma_set_ne _ _ a4]
            exact d3 a a1 a2 a3 a4 a5
          · rw [ma_set_ne _ _ (by omega), ma_set_at]
            rfl
          · rw [ai_at]
            rfl
          · rw [fi_ne _ _ _ (by omega), fi_ne _ _ _ (by omega), fi_at0, nI_1]
            rfl
          · have kk2 := kk0 h3 (by rw [fre]; exact c)
            rw [fre] at kk2
            rw [show gr + 1 + (fr h n gc R k (fst h u s)).2 = gr + ((fr h n gc R k (fst h u s)).2 + 1) by omega]
            exact kk2
        · have fre : fr h n gc R (k + 1) s = (s, 0) := by
            show (if _ then _ else _) = _
            rw [eu, nI_clamp (show u < 2 ^ 31 by omega), if_neg (fun w => ug w.2)]
          rw [fre] at kk0
          refine s95n D1 f2 (Or.inr (nI_nlt (by omega) (by omega))) ?_
          refine go 60 (by decide) ?_
          simp only [KX, KY, KZ, KW, KV, Nat.reduceAdd, Nat.reduceSub, Nat.reduceLeDiff, true_and, and_true, true_or, or_true, or_self, reduceCtorEq, if_true, if_false, not_false_eq_true, eq_self, c101, e34, (D1.fn l).1, d6]
          first
            | (with_reducible show At 101 _ 4 _ _ _ _)
            | (refine go 60 (by decide) ?_; simp only [KX, KY, KZ, KW, KV, Nat.reduceAdd, Nat.reduceSub, Nat.reduceLeDiff, true_and, and_true, true_or, or_true, or_self, reduceCtorEq, if_true, if_false, not_false_eq_true, eq_self, c101, e34])
          first
            | (with_reducible show At 101 _ 4 _ _ _ _)
            | (refine go 60 (by decide) ?_; simp only [KX, KY, KZ, KW, KV, Nat.reduceAdd, Nat.reduceSub, Nat.reduceLeDiff, true_and, and_true, true_or, or_true, or_self, reduceCtorEq, if_true, if_false, not_false_eq_true, eq_self, c101, e34])
          first
            | (with_reducible show At 101 _ 4 _ _ _ _)
            | (refine go 60 (by decide) ?_; simp only [KX, KY, KZ, KW, KV, Nat.reduceAdd, Nat.reduceSub, Nat.reduceLeDiff, true_and, and_true, true_or, or_true, or_self, reduceCtorEq, if_true, if_false, not_false_eq_true, eq_self, c101, e34])
          refine go 60 (by decide) ?_
          simp only [KX, KY, KZ, KW, KV, Nat.reduceAdd, Nat.reduceSub, Nat.reduceLeDiff, true_and, and_true, true_or, or_true, or_self, reduceCtorEq, if_true, if_false, not_false_eq_true, eq_self, c101, e34, (D1.fn l).1, d6]
          first
            | exact kk0 h2 ⟨D1, d2, d3, d4, d5, d6⟩
            | (split <;> exact kk0 h2 ⟨D1, d2, d3, d4, d5, d6⟩)
      · have fre : fr h n gc R (k + 1) s = (s, 0) := by
          show (if _ then _ else _) = _
          rw [if_neg (fun w => m60 w.1)]
        rw [fre] at kk0
        refine go 60 (by decide) ?_
        simp only [KX, KY, KZ, KW, KV, Nat.reduceAdd, Nat.reduceSub, Nat.reduceLeDiff, true_and, and_true, true_or, or_true, or_self, reduceCtorEq, if_true, if_false, not_false_eq_true, eq_self, c101, e34, (H1.fn l).1, c6, H1.e53, H1.e54]
        rw [if_pos (nI_lt (show gr < nn by omega) (by omega))]
        rw [if_neg (nI_pos (show s.2.1 < 2 ^ 31 by omega)), if_neg (show ¬ nI s.2.1 < (60 : Int32) from nI_nlt (b := 60) (by omega) (by omega))]
        exact kk0 h1 ⟨H1, c2, c3, c4, c5, c6⟩
  refine ma_enter (m := 101) (Or.inl (by decide)) (by show 3 ≤ mt_n 101; decide +kernel) ?_
  show At 101 Q 0 (mt_c 101) [some (.ref 34), some (.ref (36 + 3 * f)), some (.int (nI nn)), none, none, none, none] [] h
  refine go 60 (by decide) ?_
  simp only [KX, KY, KZ, KW, KV, Nat.reduceAdd, Nat.reduceSub, Nat.reduceLeDiff, true_and, and_true, true_or, or_true, or_self, reduceCtorEq, if_true, if_false, not_false_eq_true, eq_self, c101]
  exact At_le (lp nn 0 s h C S (fun h2 c => by rw [Nat.zero_add]; exact k h2 c) (by omega)) ⟨rfl, rfl, rfl, rfl, rfl, trivial⟩
