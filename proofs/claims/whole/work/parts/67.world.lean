/-! a WORLD becomes another -/
theorem aastN {m k : Nat} {Q : ma_Q} {p : Nat} {c : Bool} {b : Nat × Nat} {L : ma_L} {r : List Value} {h : ma_H} {a n : Nat} {f : Nat → Option Nat} {j : Int32} (hm : m < 286) (e : (me_cd m)[k]? = some (p, c, .aastore)) (ha : h.2.1 a = .inl (.object "FlakeArms$Growth", n, .inr (.inr (.inr (.inr f))))) (hin : vp_in j n) (kk : At m Q (k + 1) b L r (ma_set h a (.inl (.object "FlakeArms$Growth", n, .inr (.inr (.inr (.inr (va_up f j.toNatClampNeg none)))))))) : At m Q k b L (.null :: .int j :: .ref a :: r) h := by
  have hk := wk_mk hm e
  obtain ⟨d, e2⟩ := mk_d_ok hk
  exact mr_aastN ha hin d (by rw [← e2]; exact kk)
theorem nf_sk {f : Nat} (hf : f < 4) (g : Nat → Int32) : (.inl (.int, 169, .inl g) : ma_C) = nf (sd (60 + 3 * f)) (.inl (.int, 169, .inl g)) := by
  match f, hf with
  | 0, _ => rfl
  | 1, _ => rfl
  | 2, _ => rfl
  | 3, _ => rfl
theorem nf_ok {f : Nat} (hf : f < 4) (m : Int32) : (.inr (2, [.int m, .ref (60 + 3 * f), .ref (61 + 3 * f)]) : ma_C) = nf (sd (59 + 3 * f)) (.inr (2, [.int m, .ref (60 + 3 * f), .ref (61 + 3 * f)])) := by
  match f, hf with
  | 0, _ => rfl
  | 1, _ => rfl
  | 2, _ => rfl
  | 3, _ => rfl
def Fk (h : ma_H) (i : Nat) (h1 : ma_H) : Prop := Sh h1 ∧ h1.1 = h.1 ∧ (∀ a, ¬ (59 ≤ a ∧ a ≤ 70) → h1.2.1 a = h.2.1 a) ∧ (∀ f, f < i → ai h1 (60 + 3 * f) = va_cpy (ai h (37 + 3 * f)) (ai h (60 + 3 * f)) 0 0 169 ∧ fi h1 (59 + 3 * f) 0 = fi h (36 + 3 * f) 0) ∧ ∀ f, i ≤ f → f < 4 → ai h1 (60 + 3 * f) = ai h (60 + 3 * f)
theorem l94fk {h h1 : ma_H} {Q : ma_Q} {i : Nat} (H : Sh h) (R : Rr h) (hi : i < 4) (P : Fk h i h1) (k : ∀ h2, Fk h (i + 1) h2 → At 94 Q 2 (0, 0) [some (.ref 57), some (.ref 34), some (.int (nI (i + 1)))] [] h2) : At 94 Q 2 (0, 0) [some (.ref 57), some (.ref 34), some (.int (nI i))] [] h1 := by
  obtain ⟨P1, P2, P3, P4, P5⟩ := id P
  have oA : h1.2.1 57 = _ := P1.e57
  have oB : h1.2.1 34 = _ := P1.e34
  have eA : ar h1 58 i = some (59 + 3 * i) := by show arC (h1.2.1 58) i = _; rw [P3 58 (by decide)]; exact R.2.1 i hi
  have eB : ar h1 35 i = some (36 + 3 * i) := by show arC (h1.2.1 35) i = _; rw [P3 35 (by decide)]; exact R.1 i hi
  have ti : (nI i).toNatClampNeg = i := nI_clamp (by omega)
  refine go 60 (by decide) ?_
  simp only [KX, KY, KZ, KW, KV, Nat.reduceAdd, Nat.reduceSub, Nat.reduceLeDiff, true_and, and_true, true_or, or_true, or_self, reduceCtorEq, if_true, if_false, not_false_eq_true, eq_self, c94, oA, oB, P1.e58, P1.e35, ti, eA, eB, rf_some, (P1.fk hi).1]
  rw [if_pos (nI_lt hi (by decide))]
  refine ⟨nI_in hi (by decide), nI_in hi (by decide), ?_⟩
  refine s16 (P1.fk hi).1 (P1.fk hi).2.1 (P1.fn hi).1 (P1.fn hi).2.1 (by omega) (by omega) ?_
  refine go 60 (by decide) ?_
  simp only [KX, KY, KZ, KW, KV, Nat.reduceAdd, Nat.reduceSub, Nat.reduceLeDiff, true_and, and_true, true_or, or_true, or_self, reduceCtorEq, if_true, if_false, not_false_eq_true, eq_self, c94]
  rw [nI_1]
  refine k _ ⟨sh_set (sh_set P1 (nf_sk hi _)) (nf_ok hi _), P2, fun a ha => ?_, fun f hf => ?_, fun f h1f h2f => ?_⟩
  · rw [ma_set_ne _ _ (by omega), ma_set_ne _ _ (by omega)]
    exact P3 a ha
  · have cB : ai h1 (37 + 3 * i) = ai h (37 + 3 * i) := by show aiC _ = aiC _; rw [P3 _ (by omega)]
    have cB2 : fi h1 (36 + 3 * i) 0 = fi h (36 + 3 * i) 0 := by show fiC _ 0 = fiC _ 0; rw [P3 _ (by omega)]
    by_cases c : f = i
    · subst c
      rw [ai_ne _ _ (by omega), ai_at, fi_at0, cB, cB2, P5 f (Nat.le_refl _) hi]
      exact ⟨rfl, rfl⟩
    · rw [ai_ne _ _ (by omega), ai_ne _ _ (by omega), fi_ne _ _ _ (by omega), fi_ne _ _ _ (by omega)]
      exact P4 f (by omega)
  · rw [ai_ne _ _ (by omega), ai_ne _ _ (by omega)]
    exact P5 f (by omega) h2f
def Gk (h h0 : ma_H) (i : Nat) (h1 : ma_H) : Prop := Sh h1 ∧ h1.1 = h0.1 ∧ (∀ a, a ≠ 71 → h1.2.1 a = h0.2.1 a) ∧ ∀ j, j < i → ar h1 71 j = ar h 48 j
theorem l94gk {h h0 h1 : ma_H} {Q : ma_Q} {i : Nat} (hi : i < 6) (eg : ar h0 48 = ar h 48) (W : ar h 48 i = none ∨ ∃ r k j a, ar h 48 i = some r ∧ 115 ≤ r ∧ r < h.1 ∧ k < 6 ∧ h0.2.1 r = g_obj k j a) (P : Gk h h0 i h1) (k : ∀ h2, Gk h h0 (i + 1) h2 → At 94 Q 20 (0, 0) [some (.ref 57), some (.ref 34), some (.int (nI (i + 1)))] [] h2) : At 94 Q 20 (0, 0) [some (.ref 57), some (.ref 34), some (.int (nI i))] [] h1 := by
  obtain ⟨P1, P2, P3, P4⟩ := id P
  have oA : h1.2.1 57 = _ := P1.e57
  have oB : h1.2.1 34 = _ := P1.e34
  have eB : ar h1 48 i = ar h 48 i := by show arC (h1.2.1 48) i = _; rw [P3 48 (by decide)]; exact congrFun eg i
  have ti : (nI i).toNatClampNeg = i := nI_clamp (by omega)
  have nx : ∀ v, (v = ar h 48 i) → Gk h h0 (i + 1) (ma_set h1 71 (.inl (.object "FlakeArms$Growth", 6, .inr (.inr (.inr (.inr (va_up (ar h1 71) i v))))))) := fun v hv => ⟨sh_set P1 rfl, P2, fun a ha => (ma_set_ne _ _ ha).trans (P3 a ha), fun j hj => by
    show arC ((ma_set h1 71 _).2.1 71) j = _
    rw [ma_set_at]
    show va_up (ar h1 71) i v j = _
    by_cases c : j = i
    · subst c
      exact (if_pos rfl).trans hv
    · exact (if_neg c).trans (P4 j (by omega))⟩
  rcases W with w | ⟨r, k0, j0, a0, w, r115, rlt, hk, eo⟩
  · refine go 11 (by decide) ?_
    simp only [KX, KY, KZ, KW, KV, Nat.reduceAdd, Nat.reduceSub, Nat.reduceLeDiff, true_and, and_true, true_or, or_true, or_self, reduceCtorEq, if_true, if_false, not_false_eq_true, eq_self, c94, oA, oB, P1.e71, P1.e48, ti, eB, w, rf_none]
    rw [if_pos (nI_lt hi (by decide))]
    refine ⟨nI_in hi (by decide), ?_⟩
    refine aastN (by decide) (show (me_cd 94)[32]? = some (_, _, .aastore) from rfl) P1.e71 (nI_in hi (by decide)) ?_
    rw [ti]
    refine go 60 (by decide) ?_
    simp only [KX, KY, KZ, KW, KV, Nat.reduceAdd, Nat.reduceSub, Nat.reduceLeDiff, true_and, and_true, true_or, or_true, or_self, reduceCtorEq, if_true, if_false, not_false_eq_true, eq_self, c94]
    rw [nI_1]
    exact k _ (nx none w.symm)
  · have er : h1.2.1 r = _ := (P3 r (by omega)).trans eo
    refine go 60 (by decide) ?_
    simp only [KX, KY, KZ, KW, KV, Nat.reduceAdd, Nat.reduceSub, Nat.reduceLeDiff, true_and, and_true, true_or, or_true, or_self, reduceCtorEq, if_true, if_false, not_false_eq_true, eq_self, c94, oA, oB, P1.e71, P1.e48, ti, eB, w, rf_some, er, g_obj]
    rw [if_pos (nI_lt hi (by decide))]
    refine ⟨nI_in hi (by decide), Or.inr (g_gk k0 hk), nI_in hi (by decide), ?_⟩
    rw [nI_1]
    exact k _ (nx (some r) w.symm)
def Fn (h : ma_H) (i : Nat) (h1 : ma_H) : Prop := Sh h1 ∧ h1.1 = h.1 ∧ (∀ a, ¬ (36 ≤ a ∧ a ≤ 47) → h1.2.1 a = h.2.1 a) ∧ (∀ f, f < i → ai h1 (37 + 3 * f) = va_cpy (ai h (60 + 3 * f)) (ai h (37 + 3 * f)) 0 0 169 ∧ fi h1 (36 + 3 * f) 0 = fi h (59 + 3 * f) 0) ∧ ∀ f, i ≤ f → f < 4 → ai h1 (37 + 3 * f) = ai h (37 + 3 * f)
theorem l94fn {h h1 : ma_H} {Q : ma_Q} {i : Nat} (H : Sh h) (R : Rr h) (hi : i < 4) (P : Fn h i h1) (k : ∀ h2, Fn h (i + 1) h2 → At 94 Q 2 (0, 0) [some (.ref 34), some (.ref 57), some (.int (nI (i + 1)))] [] h2) : At 94 Q 2 (0, 0) [some (.ref 34), some (.ref 57), some (.int (nI i))] [] h1 := by
  obtain ⟨P1, P2, P3, P4, P5⟩ := id P
  have oA : h1.2.1 34 = _ := P1.e34
  have oB : h1.2.1 57 = _ := P1.e57
  have eA : ar h1 35 i = some (36 + 3 * i) := by show arC (h1.2.1 35) i = _; rw [P3 35 (by decide)]; exact R.1 i hi
  have eB : ar h1 58 i = some (59 + 3 * i) := by show arC (h1.2.1 58) i = _; rw [P3 58 (by decide)]; exact R.2.1 i hi
  have ti : (nI i).toNatClampNeg = i := nI_clamp (by omega)
  refine go 60 (by decide) ?_
  simp only [KX, KY, KZ, KW, KV, Nat.reduceAdd, Nat.reduceSub, Nat.reduceLeDiff, true_and, and_true, true_or, or_true, or_self, reduceCtorEq, if_true, if_false, not_false_eq_true, eq_self, c94, oA, oB, P1.e35, P1.e58, ti, eA, eB, rf_some, (P1.fn hi).1]
  rw [if_pos (nI_lt hi (by decide))]
  refine ⟨nI_in hi (by decide), nI_in hi (by decide), ?_⟩
  refine s16 (P1.fn hi).1 (P1.fn hi).2.1 (P1.fk hi).1 (P1.fk hi).2.1 (by omega) (by omega) ?_
  refine go 60 (by decide) ?_
  simp only [KX, KY, KZ, KW, KV, Nat.reduceAdd, Nat.reduceSub, Nat.reduceLeDiff, true_and, and_true, true_or, or_true, or_self, reduceCtorEq, if_true, if_false, not_false_eq_true, eq_self, c94]
  rw [nI_1]
  refine k _ ⟨sh_set (sh_set P1 (nf_s hi _)) (nf_o hi _), P2, fun a ha => ?_, fun f hf => ?_, fun f h1f h2f => ?_⟩
  · rw [ma_set_ne _ _ (by omega), ma_set_ne _ _ (by omega)]
    exact P3 a ha
  · have cB : ai h1 (60 + 3 * i) = ai h (60 + 3 * i) := by show aiC _ = aiC _; rw [P3 _ (by omega)]
    have cB2 : fi h1 (59 + 3 * i) 0 = fi h (59 + 3 * i) 0 := by show fiC _ 0 = fiC _ 0; rw [P3 _ (by omega)]
    by_cases c : f = i
    · subst c
      rw [ai_ne _ _ (by omega), ai_at, fi_at0, cB, cB2, P5 f (Nat.le_refl _) hi]
      exact ⟨rfl, rfl⟩
    · rw [ai_ne _ _ (by omega), ai_ne _ _ (by omega), fi_ne _ _ _ (by omega), fi_ne _ _ _ (by omega)]
      exact P4 f (by omega)
  · rw [ai_ne _ _ (by omega), ai_ne _ _ (by omega)]
    exact P5 f (by omega) h2f
def Gn (h h0 : ma_H) (i : Nat) (h1 : ma_H) : Prop := Sh h1 ∧ h1.1 = h0.1 ∧ (∀ a, a ≠ 48 → h1.2.1 a = h0.2.1 a) ∧ ∀ j, j < i → ar h1 48 j = ar h 71 j
theorem l94gn {h h0 h1 : ma_H} {Q : ma_Q} {i : Nat} (hi : i < 6) (eg : ar h0 71 = ar h 71) (W : ar h 71 i = none ∨ ∃ r k j a, ar h 71 i = some r ∧ 115 ≤ r ∧ r < h.1 ∧ k < 6 ∧ h0.2.1 r = g_obj k j a) (P : Gn h h0 i h1) (k : ∀ h2, Gn h h0 (i + 1) h2 → At 94 Q 20 (0, 0) [some (.ref 34), some (.ref 57), some (.int (nI (i + 1)))] [] h2) : At 94 Q 20 (0, 0) [some (.ref 34), some (.ref 57), some (.int (nI i))] [] h1 := by
  obtain ⟨P1, P2, P3, P4⟩ := id P
  have oA : h1.2.1 34 = _ := P1.e34
  have oB : h1.2.1 57 = _ := P1.e57
  have eB : ar h1 71 i = ar h 71 i := by show arC (h1.2.1 71) i = _; rw [P3 71 (by decide)]; exact congrFun eg i
  have ti : (nI i).toNatClampNeg = i := nI_clamp (by omega)
  have nx : ∀ v, (v = ar h 71 i) → Gn h h0 (i + 1) (ma_set h1 48 (.inl (.object "FlakeArms$Growth", 6, .inr (.inr (.inr (.inr (va_up (ar h1 48) i v))))))) := fun v hv => ⟨sh_set P1 rfl, P2, fun a ha => (ma_set_ne _ _ ha).trans (P3 a ha), fun j hj => by
    show arC ((ma_set h1 48 _).2.1 48) j = _
    rw [ma_set_at]
    show va_up (ar h1 48) i v j = _
    by_cases c : j = i
    · subst c
      exact (if_pos rfl).trans hv
    · exact (if_neg c).trans (P4 j (by omega))⟩
  rcases W with w | ⟨r, k0, j0, a0, w, r115, rlt, hk, eo⟩
  · refine go 11 (by decide) ?_
    simp only [KX, KY, KZ, KW, KV, Nat.reduceAdd, Nat.reduceSub, Nat.reduceLeDiff, true_and, and_true, true_or, or_true, or_self, reduceCtorEq, if_true, if_false, not_false_eq_true, eq_self, c94, oA, oB, P1.e48, P1.e71, ti, eB, w, rf_none]
    rw [if_pos (nI_lt hi (by decide))]
    refine ⟨nI_in hi (by decide), ?_⟩
    refine aastN (by decide) (show (me_cd 94)[32]? = some (_, _, .aastore) from rfl) P1.e48 (nI_in hi (by decide)) ?_
    rw [ti]
    refine go 60 (by decide) ?_
    simp only [KX, KY, KZ, KW, KV, Nat.reduceAdd, Nat.reduceSub, Nat.reduceLeDiff, true_and, and_true, true_or, or_true, or_self, reduceCtorEq, if_true, if_false, not_false_eq_true, eq_self, c94]
    rw [nI_1]
    exact k _ (nx none w.symm)
  · have er : h1.2.1 r = _ := (P3 r (by omega)).trans eo
    refine go 60 (by decide) ?_
    simp only [KX, KY, KZ, KW, KV, Nat.reduceAdd, Nat.reduceSub, Nat.reduceLeDiff, true_and, and_true, true_or, or_true, or_self, reduceCtorEq, if_true, if_false, not_false_eq_true, eq_self, c94, oA, oB, P1.e48, P1.e71, ti, eB, w, rf_some, er, g_obj]
    rw [if_pos (nI_lt hi (by decide))]
    refine ⟨nI_in hi (by decide), Or.inr (g_gk k0 hk), nI_in hi (by decide), ?_⟩
    rw [nI_1]
    exact k _ (nx (some r) w.symm)
