/-! a FLAKE changes; begin -/
theorem i_in_yes {x a b : Int32} (h1 : ¬ x < a) (h2 : x ≤ b) : i_in x a b = 1 := by
  unfold i_in
  rw [if_neg h1, if_pos h2]
theorem i_in_no {x a b : Int32} (h : x < a ∨ ¬ x ≤ b) : i_in x a b = 0 := by
  unfold i_in
  by_cases q : x < a
  · rw [if_pos q]
  · rw [if_neg q, if_neg (h.resolve_left q)]
theorem i_le_lt {x : Int32} {n : Nat} (hn : n < 2 ^ 30) : x ≤ nI n ↔ x < nI (n + 1) := by
  rw [Int32.le_iff_toInt_le, Int32.lt_iff_toInt_lt, nI_toInt (by omega), nI_toInt (by omega)]
  omega
theorem i_inN {f n : Nat} (hf : f ≤ n) (hn : n < 2 ^ 30) : i_in (nI f) 0 (nI n) = 1 := i_in_yes (nI_pos (by omega)) (nI_le hf (by omega))
theorem i_inB {x : Int32} {n : Nat} (hn : n < 2 ^ 30) (h : x < 0 ∨ ¬ x < nI (n + 1)) : i_in x 0 (nI n) = 0 := i_in_no (h.imp id fun w q => w ((i_le_lt hn).mp q))
/-- cells of which nothing is asked between two calls, and those of FLAKES in the Model -/
def exf (a : Nat) : Prop := a = 88 ∨ a = 89 ∨ a = 55 ∨ a = 56 ∨ (95 ≤ a ∧ a ≤ 103) ∨ a = 105 ∨ (29 ≤ a ∧ a ≤ 31) ∨ a = 33
theorem Inv.flk {h h1 : ma_H} (I : Inv h) {f : Nat} (hf : f < 4) (S : Sh h1) (n : h1.1 = h.1) (e : ∀ a, a ≠ 36 + 3 * f → a ≠ 37 + 3 * f → a ≠ 38 + 3 * f → ¬ exf a → h1.2.1 a = h.2.1 a) (ok : fl_ok (ai h1 (37 + 3 * f))) (hi : ∀ i, i < 91 → ai h1 (37 + 3 * f) (ma_cell i) = ai h1 88 (91 * f + i)) (hb : ∀ i, i < 91 → ai h1 88 (91 * f + i) = -1 ∨ ¬ ai h1 88 (91 * f + i) < 0) (ho : ∀ j, j < 364 → (∀ i, i < 91 → j ≠ 91 * f + i) → ai h1 88 j = ai h 88 j) (hm : ∃ n, n ≤ 60 ∧ fi h1 (36 + 3 * f) 0 = nI n ∧ ai h1 89 f = nI n) (hmo : ∀ j, j < 4 → j ≠ f → ai h1 89 j = ai h 89 j) : Inv h1 := by
  have E : ∀ a, (a < 36 ∨ 47 < a) → ¬ exf a → h1.2.1 a = h.2.1 a := fun a x y => e a (by omega) (by omega) (by omega) y
  have nf : Nf h1 := by
    intro j hj
    by_cases c : j = f
    · subst c
      obtain ⟨n, n6, m1, m2⟩ := hm
      exact ⟨ok, hi, hb, m1.trans m2.symm, n, n6, m2⟩
    · obtain ⟨a1, a2, a3, a4, a5⟩ := I.nf j hj
      have e1 : h1.2.1 (37 + 3 * j) = h.2.1 (37 + 3 * j) := e _ (by omega) (by omega) (by omega) (by unfold exf; omega)
      have e2 : h1.2.1 (36 + 3 * j) = h.2.1 (36 + 3 * j) := e _ (by omega) (by omega) (by omega) (by unfold exf; omega)
      have e3 : ∀ i, i < 91 → ai h1 88 (91 * j + i) = ai h 88 (91 * j + i) := fun i hi => ho _ (by omega) (fun i' hi' => by omega)
      simp only [ai, fi, e1, e2] at a1 a2 a4 ⊢
      refine ⟨a1, fun i hi => (a2 i hi).trans (e3 i hi).symm, fun i hi => ?_, a4.trans (hmo j hj c).symm, ?_⟩
      · have := a3 i hi
        rw [← e3 i hi] at this
        exact this
      · obtain ⟨n, n6, m⟩ := a5
        exact ⟨n, n6, (hmo j hj c).trans m⟩
  refine ⟨S, I.rr.cong fun a x => E a (by omega) (by unfold exf; omega), I.rt.cong fun a x => E a (by omega) (by unfold exf; omega), ⟨nf, I.ng.cong (by omega) fun a x => E a (by omega) (by unfold exf; omega), I.nm.cong fun a x => E a (by omega) (by unfold exf; omega), I.na.cong fun a x => E a (by omega) (by unfold exf; omega), I.nl.cong fun a x => E a (by omega) (by unfold exf; omega)⟩, I.rk.cong (by omega) fun a x => E a (by omega) (by unfold exf; omega), I.rp.cong fun a x => E a (by omega) (by unfold exf; omega), I.rw.cong fun a x => E a (by omega) (by unfold exf; omega), I.rs.cong fun a x => E a (by omega) (by unfold exf; omega), I.rv.cong fun a x => E a (by omega) (by unfold exf; omega), I.ra.cong fun a x => E a (by omega) (by unfold exf; omega), I.rc.cong fun a x => E a (by omega) (by unfold exf; omega)⟩
theorem nf_s {f : Nat} (hf : f < 4) (g : Nat → Int32) : (.inl (.int, 169, .inl g) : ma_C) = nf (sd (37 + 3 * f)) (.inl (.int, 169, .inl g)) := by
  match f, hf with
  | 0, _ => rfl
  | 1, _ => rfl
  | 2, _ => rfl
  | 3, _ => rfl
theorem nf_r {f : Nat} (hf : f < 4) (g : Nat → Int32) : (.inl (.byte, 169, .inl g) : ma_C) = nf (sd (38 + 3 * f)) (.inl (.byte, 169, .inl g)) := by
  match f, hf with
  | 0, _ => rfl
  | 1, _ => rfl
  | 2, _ => rfl
  | 3, _ => rfl
theorem nf_o {f : Nat} (hf : f < 4) (m : Int32) : (.inr (2, [.int m, .ref (37 + 3 * f), .ref (38 + 3 * f)]) : ma_C) = nf (sd (36 + 3 * f)) (.inr (2, [.int m, .ref (37 + 3 * f), .ref (38 + 3 * f)])) := by
  match f, hf with
  | 0, _ => rfl
  | 1, _ => rfl
  | 2, _ => rfl
  | 3, _ => rfl
theorem ai_at (h : ma_H) (a : Nat) (t : FieldType) (n : Nat) (g : Nat → Int32) : ai (ma_set h a (.inl (t, n, .inl g))) a = g := by
  show aiC ((ma_set h a _).2.1 a) = g
  rw [ma_set_at]
  rfl
theorem ai_ne (h : ma_H) {a b : Nat} (c : ma_C) (e : b ≠ a) : ai (ma_set h a c) b = ai h b := by
  show aiC ((ma_set h a _).2.1 b) = _
  rw [ma_set_ne _ _ e]
theorem fi_ne (h : ma_H) {a b : Nat} (c : ma_C) (i : Nat) (e : b ≠ a) : fi (ma_set h a c) b i = fi h b i := by
  show fiC ((ma_set h a _).2.1 b) i = _
  rw [ma_set_ne _ _ e]
theorem fi_at (h : ma_H) (a k i : Nat) (v : Int32) (L : List Value) (e : L[i]? = some (.int v)) : fi (ma_set h a (.inr (k, L))) a i = v := by
  show fiC ((ma_set h a _).2.1 a) i = v
  rw [ma_set_at]
  show (match L.getD i .null with | .int v => v | _ => 0) = v
  rw [List.getD_eq_getElem?_getD, e]
  rfl
theorem fi_at0 (h : ma_H) (a k : Nat) (v : Int32) (L : List Value) : fi (ma_set h a (.inr (k, .int v :: L))) a 0 = v := fi_at h a k 0 v _ rfl
theorem Nf.ok {h : ma_H} (N : Nf h) {f : Nat} (hf : f < 4) : fl_ok (ai h (37 + 3 * f)) := (N f hf).1
theorem Nf.eq {h : ma_H} (N : Nf h) {f i : Nat} (hf : f < 4) (hi : i < 91) : ai h (37 + 3 * f) (ma_cell i) = ai h 88 (91 * f + i) := (N f hf).2.1 i hi
theorem Nf.b {h : ma_H} (N : Nf h) {f i : Nat} (hf : f < 4) (hi : i < 91) : ai h 88 (91 * f + i) = -1 ∨ ¬ ai h 88 (91 * f + i) < 0 := (N f hf).2.2.1 i hi
theorem Nf.m {h : ma_H} (N : Nf h) {f : Nat} (hf : f < 4) : fi h (36 + 3 * f) 0 = ai h 89 f := (N f hf).2.2.2.1
theorem Nf.n {h : ma_H} (N : Nf h) {f : Nat} (hf : f < 4) : ∃ n, n ≤ 60 ∧ ai h 89 f = nI n := (N f hf).2.2.2.2
/-- as many CELLS with ICE -/
theorem su_ice {h : ma_H} (N : Nf h) {f : Nat} (hf : f < 4) : su (fl_ice (ai h (37 + 3 * f))) 91 = su (ml_ice (ai h 88) (91 * f)) 91 := su_congr 91 fun i hi => by
  show (if ai h (37 + 3 * f) (ma_cell i) < 0 then (0 : Int32) else 1) = if ai h 88 (91 * f + i) < 0 then 0 else 1
  rw [N.eq hf hi]
theorem s192 {h : ma_H} {Q : ma_Q} {f : Nat} (H : Sh h) (R : Rt h) (hf : f < 4) (k : Q (some (.int (su (ml_ice (ai h 88) (91 * f)) 91))) (ma_set (ma_set h 88 (.inl (.int, 910, .inl (ml_beg (ai h 88) (91 * f) 91)))) 89 (.inl (.int, 4, .inl (upd (ai h 89) f 0))))) : ma_X 192 [.ref 80, .int (nI f)] h Q := by
  have e91 : (91 : Int32) * nI f = nI (91 * f) := nI_mul 91 f
  have hs : ∀ g, Sh (ma_set h 88 (.inl (.int, 910, .inl g))) := fun g => sh_set H rfl
  refine ma_enter (m := 192) (Or.inl (by decide)) (by show 2 ≤ mt_n 192; decide +kernel) ?_
  show At 192 Q 0 (mt_c 192) [some (.ref 80), some (.int (nI f)), none] [] h
  refine go 60 (by decide) ?_
  simp only [KX, KY, KZ, KW, KV, Nat.reduceAdd, Nat.reduceSub, Nat.reduceLeDiff, true_and, and_true, true_or, or_true, or_self, reduceCtorEq, if_true, if_false, not_false_eq_true, eq_self, c192]
  refine s170 ?_
  rw [show i_in (nI f) 0 3 = 1 from i_inN (n := 3) (by omega) (by omega)]
  refine go 60 (by decide) ?_
  simp only [KX, KY, KZ, KW, KV, Nat.reduceAdd, Nat.reduceSub, Nat.reduceLeDiff, true_and, and_true, true_or, or_true, or_self, reduceCtorEq, if_true, if_false, not_false_eq_true, eq_self, c192, H.e80]
  rw [e91]
  refine s173 (A := 91 * f) H.e80 rfl H.e88 (by omega) ?_
  refine go 60 (by decide) ?_
  simp only [KX, KY, KZ, KW, KV, Nat.reduceAdd, Nat.reduceSub, Nat.reduceLeDiff, true_and, and_true, true_or, or_true, or_self, reduceCtorEq, if_true, if_false, not_false_eq_true, eq_self, c192, H.e80]
  rw [e91]
  refine s169 H R (by omega) ?_
  refine go 60 (by decide) ?_
  simp only [KX, KY, KZ, KW, KV, Nat.reduceAdd, Nat.reduceSub, Nat.reduceLeDiff, true_and, and_true, true_or, or_true, or_self, reduceCtorEq, if_true, if_false, not_false_eq_true, eq_self, c192, (hs _).e80, (hs _).e89]
  rw [nI_clamp (by omega)]
  exact ⟨nI_in (show f < 4 by omega) (by decide), k⟩
theorem s192n {h : ma_H} {Q : ma_Q} {x : Int32} (hx : x < 0 ∨ ¬ x < nI 4) (k : Q (some (.int (-1))) h) : ma_X 192 [.ref 80, .int x] h Q := by
  refine ma_enter (m := 192) (Or.inl (by decide)) (by show 2 ≤ mt_n 192; decide +kernel) ?_
  show At 192 Q 0 (mt_c 192) [some (.ref 80), some (.int x), none] [] h
  refine go 60 (by decide) ?_
  simp only [KX, KY, KZ, KW, KV, Nat.reduceAdd, Nat.reduceSub, Nat.reduceLeDiff, true_and, and_true, true_or, or_true, or_self, reduceCtorEq, if_true, if_false, not_false_eq_true, eq_self, c192]
  refine s170 ?_
  rw [show i_in x 0 3 = 0 from i_inB (n := 3) (by omega) hx]
  refine go 60 (by decide) ?_
  simp only [KX, KY, KZ, KW, KV, Nat.reduceAdd, Nat.reduceSub, Nat.reduceLeDiff, true_and, and_true, true_or, or_true, or_self, reduceCtorEq, if_true, if_false, not_false_eq_true, eq_self, c192]
  exact k
theorem ml_beg_at (g : Nat → Int32) (A : Nat) {i : Nat} (hi : i < 91) : ml_beg g A 91 (A + i) = ml_bg i := upN_at 91 (fun i j _ _ e => by omega) i hi
theorem ml_beg_ne (g : Nat → Int32) (A : Nat) {j : Nat} (hj : ∀ i, i < 91 → j ≠ A + i) : ml_beg g A 91 j = g j := upN_ne 91 hj
/-- a FLAKE at its start -/
def fl_st (g : Nat → Int32) : Nat → Int32 := upd (fl_set g (-1) 91) 84 0
theorem bg_eq : ∀ i, i < 91 → ml_bg i = (if ma_cell i = 84 then 0 else -1) ∧ (ml_bg i = -1 ∨ ¬ ml_bg i < 0) := by decide +kernel
theorem fl_st_at (g : Nat → Int32) {i : Nat} (hi : i < 91) : fl_st g (ma_cell i) = ml_bg i := by
  unfold fl_st upd
  rw [(bg_eq i hi).1]
  split
  · rfl
  · rw [fl_set_upN, upN_at 91 (fun i j a b => cell_inj i a j b) i hi]
theorem fl_st_ok {g : Nat → Int32} (ok : fl_ok g) : fl_ok (fl_st g) := by
  refine ⟨fun i hi => ?_, fun q hq w => ?_⟩
  · rw [fl_st_at g hi]
    exact (by decide +kernel : ∀ i, i < 91 → ml_bg i ≠ -2) i hi
  · unfold fl_st upd
    rw [if_neg (fun e => w 45 (by decide) (by rw [e]; decide +kernel)), fl_set_upN, upN_ne 91 (fun i hi => w i hi)]
    exact ok.2 q hq w
theorem p105 {h : ma_H} {x : Int32} (I : Inv h) : Pair h 105 192 [.int x] := by
  intro Q k
  rcases icase x 4 (by decide) with ⟨f, hf, rfl⟩ | hx
  · refine s105 I.sh I.rr hf (I.nf f hf).1 (k _ _ (by repeat (first | exact e80_I I | exact e80_S (by assumption) | exact e80_I (by assumption) | exact e80_n I.sh | refine e80_s (by omega) ?_)) fun Q2 k2 => ?_)
    have H1 := sh_set (sh_set I.sh (nf_s hf (upd (fl_set (ai h (37 + 3 * f)) (-1) 91) 84 0))) (nf_o hf 0)
    have R1 : Rt (ma_set (ma_set h (37 + 3 * f) (.inl (.int, 169, .inl (upd (fl_set (ai h (37 + 3 * f)) (-1) 91) 84 0)))) (36 + 3 * f) (.inr (2, [.int 0, .ref (37 + 3 * f), .ref (38 + 3 * f)]))) := I.rt.cong fun a ha => by rw [ma_set_ne _ _ (by omega), ma_set_ne _ _ (by omega)]
    refine s192 H1 R1 hf ?_
    simp (disch := omega) only [ai_ne]
    rw [← su_ice I.nf hf]
    refine k2 _ (I.flk hf (sh_set (sh_set H1 rfl) rfl) rfl (fun a a1 a2 a3 a4 => ?_) ?_ (fun i hi => ?_) (fun i hi => ?_) (fun j hj w => ?_) ⟨0, by decide, ?_, ?_⟩ (fun j hj w => ?_)) <;> (try simp (disch := omega) only [ai_ne, ai_at, fi_ne, fi_at0])
    · unfold exf at a4
      rw [ma_set_ne _ _ (by omega), ma_set_ne _ _ (by omega), ma_set_ne _ _ (by omega), ma_set_ne _ _ (by omega)]
    · exact fl_st_ok (I.nf.ok hf)
    · rw [ml_beg_at _ _ hi]
      exact fl_st_at _ hi
    · rw [ml_beg_at _ _ hi]
      exact (bg_eq i hi).2
    · exact ml_beg_ne _ _ w
    · rfl
    · exact if_pos rfl
    · exact if_neg w
  · refine s105n I.sh hx (k _ _ (by repeat (first | exact e80_I I | exact e80_S (by assumption) | exact e80_I (by assumption) | exact e80_n I.sh | refine e80_s (by omega) ?_)) fun Q2 k2 => ?_)
    exact s192n hx (k2 _ I)
