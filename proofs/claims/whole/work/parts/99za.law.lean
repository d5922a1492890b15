/-! law: the Model reads ONE -/
/-- the loop of the Model's reader of a COND -/
def WA (Q : ma_Q) (w : Int32) (hh : ma_H) : Prop := At 188 Q 10 (0, 0) [some (.ref 80), some (.long (lN 10631)), none, some (.long (lN 1111)), none, some (.long (lN 423)), none, some (.int w), some (.int 1), none] [] hh
def MONE (hm : ma_H) (b : Nat → Nat) (n K : Nat) (o : Int32) (pX : Nat → PR) : Prop := ∀ (Q : ma_Q) (hh : ma_H) (k : Nat) (F S : List Int32), MY hm b n k 1 o F S hh → popx 40002 S = 0 → F.length + S.length ≤ k → k ≤ K → ((pX k).1 = true → ∀ h2, MY hm b n (pX k).2.1 1 o (F ++ tms (pX k).2.2.2) S h2 → (F ++ tms (pX k).2.2.2).length + S.length ≤ (pX k).2.1 → WA Q 0 h2) → ((pX k).1 = false → ∀ h2 o2 F2 S2, MY hm b n (pX k).2.1 0 o2 F2 S2 h2 → Q none h2) → WA Q 1 hh
def MCND (hm : ma_H) (b : Nat → Nat) (n K : Nat) (o : Int32) (pX : Nat → PR) : Prop := ∀ (Q : ma_Q) (hh : ma_H) (k : Nat) (F S : List Int32), MY hm b n k 1 o F S hh → popx 40002 S = 0 → popx 40000 S = 0 → popx 40001 S = 0 → F.length + S.length ≤ k → k ≤ K → ((pX k).1 = true → ∀ h2 F2 S2, MY hm b n (pX k).2.1 1 o F2 S2 h2 → stl 40001 (stl 40000 (F2, S2)) = (F ++ tms (pX k).2.2.2, S) → F2.length + S2.length ≤ (pX k).2.1 → WA Q 0 h2) → ((pX k).1 = false → ∀ h2 o2 F2 S2, MY hm b n (pX k).2.1 0 o2 F2 S2 h2 → Q none h2) → WA Q 1 hh
theorem MY.at {hm : ma_H} {b : Nat → Nat} {n k : Nat} {g o : Int32} {F S : List Int32} {hh : ma_H} (Y : MY hm b n k g o F S hh) : ∃ fr pe, hh = MT hm b n k g (nI F.length) (nI S.length) o fr pe ∧ ∀ g2 o2, MY hm b n k g2 o2 F S (MT hm b n k g2 (nI F.length) (nI S.length) o2 fr pe) := by
  obtain ⟨fr, pe, e, s1, s2, f2, p2⟩ := Y
  exact ⟨fr, pe, e, fun g2 o2 => ⟨fr, pe, rfl, s1, s2, f2, p2⟩⟩
theorem MY.pop {hm : ma_H} {b : Nat → Nat} {n k : Nat} {g o y : Int32} {F S : List Int32} {hh : ma_H} (Y : MY hm b n k g o F (y :: S) hh) : ∃ fr pe, hh = MT hm b n k g (nI F.length) (nI (S.length + 1)) o fr pe ∧ ∀ g2 o2, MY hm b n k g2 o2 F S (MT hm b n k g2 (nI F.length) (nI (S.length + 1) - 1) o2 fr pe) ∧ MY hm b n k g2 o2 F (y :: S) (MT hm b n k g2 (nI F.length) (nI (S.length + 1)) o2 fr pe) := by
  obtain ⟨fr, pe, e, s1, s2, f2, p2⟩ := Y
  exact ⟨fr, pe, e, fun g2 o2 => ⟨⟨fr, pe, by rw [nI_pred], s1, seg_pre (by rw [List.reverse_cons] at s2; exact s2), f2, by rw [List.length_cons] at p2; omega⟩, ⟨fr, pe, rfl, s1, s2, f2, p2⟩⟩⟩
theorem pCmp_3 {q : Nat → Nat} {k : Nat} (ok : (pCmp q k).1 = true) : (pCmp q k).2.1 = k + 3 ∧ (tms (pCmp q k).2.2.2).length = 3 := by
  unfold pCmp at ok ⊢
  by_cases a : 3000 ≤ q k
  · rw [if_pos a] at ok ⊢
    by_cases c : q (k + 1) = 60 ∨ q (k + 1) = 61 ∨ q (k + 1) = 62
    · rw [if_pos c] at ok ⊢
      by_cases d : 3000 ≤ q (k + 2)
      · rw [if_pos d]
        refine ⟨rfl, ?_⟩
        obtain z | z | z := c
        · rw [z]; rfl
        · rw [z]; rfl
        · rw [z]; rfl
      · rw [if_neg d] at ok
        exact absurd ok (by simp)
    · rw [if_neg c] at ok
      exact absurd ok (by simp)
  · rw [if_neg a] at ok
    exact absurd ok (by simp)
theorem mOne3 {hm : ma_H} {b : Nat → Nat} {n K : Nat} (X : MX hm b n) (N : TN b n K) : MONE hm b n K 3 (pOne (tq b n) none) := by
  intro Q hh k F S Y0 pS l hk kT kF
  have K2 := N.1
  have R : ∀ i hh, nots (tq b n) 200 k = i → k + i ≤ K → ¬ tq b n (k + i) = 262 → MY hm b n (k + i) 1 3 F (List.replicate i 40002 ++ S) hh → WA Q 1 hh := by
    intro i hh en ik y Y
    have pe : (pOne (tq b n) none k) = pNot i (pIn (tq b n) none (k + i)) := by show pNot _ _ = _; rw [en]
    have Yk := Y
    obtain ⟨fr, pe1, rfl, W0⟩ := Y.at
    have Y := Yk
    unfold WA
    refine go 60 (by decide) ?_
    simp only [KX, KY, KZ, KW, KV, Nat.reduceAdd, Nat.reduceSub, Nat.reduceLeDiff, true_and, and_true, true_or, or_true, or_self, reduceCtorEq, if_true, if_false, not_false_eq_true, eq_self, c188, mt80, mt96, mt97, mtw, mtf, mtp, List.set_cons_succ, List.set_cons_zero, MFT, List.length_cons, List.length_nil, Nat.reduceLT, Nat.zero_add]
    refine y179 Y X (a := 5) (by decide) ?_
    rw [if_neg (show ¬ tq b n (k + i) = 257 + 5 from y)]
    refine go 60 (by decide) ?_
    simp only [KX, KY, KZ, KW, KV, Nat.reduceAdd, Nat.reduceSub, Nat.reduceLeDiff, true_and, and_true, true_or, or_true, or_self, reduceCtorEq, if_true, if_false, not_false_eq_true, eq_self, c188, mt80, mt96, mt97, mtw, mtf, mtp, List.set_cons_succ, List.set_cons_zero, MFT, List.length_cons, List.length_nil, Nat.reduceLT, Nat.zero_add]
    refine y180 Y X (c := 40) (by decide) ?_
    by_cases y4 : tq b n (k + i) = 40
    · have pin : (pIn (tq b n) none (k + i)) = (false, k + i, [], []) := if_pos y4
      rw [if_pos y4]
      refine go 60 (by decide) ?_
      simp only [KX, KY, KZ, KW, KV, Nat.reduceAdd, Nat.reduceSub, Nat.reduceLeDiff, true_and, and_true, true_or, or_true, or_self, reduceCtorEq, if_true, if_false, not_false_eq_true, eq_self, c188, mt80, mt96, mt97, mtw, mtf, mtp, List.set_cons_succ, List.set_cons_zero, MFT, List.length_cons, List.length_nil, Nat.reduceLT, Nat.zero_add]
      rw [if_neg (show ¬ (3 : Int32) < 3 by decide)]
      refine go 60 (by decide) ?_
      simp only [KX, KY, KZ, KW, KV, Nat.reduceAdd, Nat.reduceSub, Nat.reduceLeDiff, true_and, and_true, true_or, or_true, or_self, reduceCtorEq, if_true, if_false, not_false_eq_true, eq_self, c188, mt80, mt96, mt97, mtw, mtf, mtp, List.set_cons_succ, List.set_cons_zero, MFT, List.length_cons, List.length_nil, Nat.reduceLT, Nat.zero_add]
      refine go 60 (by decide) ?_
      simp only [KX, KY, KZ, KW, KV, Nat.reduceAdd, Nat.reduceSub, Nat.reduceLeDiff, true_and, and_true, true_or, or_true, or_self, reduceCtorEq, if_true, if_false, not_false_eq_true, eq_self, c188, mt80, mt96, mt97, mtw, mtf, mtp, List.set_cons_succ, List.set_cons_zero, MFT, List.length_cons, List.length_nil, Nat.reduceLT, Nat.zero_add]
      exact kF (by rw [pe, pNot, pin]) _ _ _ _ (by rw [pe]; show MY hm b n (pIn (tq b n) none (k + i)).2.1 _ _ _ _ _; rw [pin]; exact W0 0 3)
    · have pin : (pIn (tq b n) none (k + i)) = pCmp (tq b n) (k + i) := if_neg y4
      rw [if_neg y4]
      refine go 60 (by decide) ?_
      simp only [KX, KY, KZ, KW, KV, Nat.reduceAdd, Nat.reduceSub, Nat.reduceLeDiff, true_and, and_true, true_or, or_true, or_self, reduceCtorEq, if_true, if_false, not_false_eq_true, eq_self, c188, mt80, mt96, mt97, mtw, mtf, mtp, List.set_cons_succ, List.set_cons_zero, MFT, List.length_cons, List.length_nil, Nat.reduceLT, Nat.zero_add]
      refine y187 X Y N ik (by rw [List.length_append, List.length_replicate]; omega) (fun ok h2 Y2 => ?_) (fun ok h2 F2 S2 Y2 => ?_)
      · obtain ⟨m3, l3⟩ := pCmp_3 ok
        rw [popx_rep, pS, Nat.add_zero, drop_rep] at Y2
        have eM : tms (pOne (tq b n) none k).2.2.2 = tms (pCmp (tq b n) (k + i)).2.2.2 ++ List.replicate i 40002 := by rw [pe]; show tms (_ ++ _) = _; rw [tms_app, tms_rep, pin]
        have Y3 := Y2
        obtain ⟨fr2, pe2, rfl, W2⟩ := Y2.at
        try (refine go 60 (by decide) ?_; simp only [KX, KY, KZ, KW, KV, Nat.reduceAdd, Nat.reduceSub, Nat.reduceLeDiff, true_and, and_true, true_or, or_true, or_self, reduceCtorEq, if_true, if_false, not_false_eq_true, eq_self, c188, mt80, mt96, mt97, mtw, mtf, mtp, List.set_cons_succ, List.set_cons_zero, MFT, List.length_cons, List.length_nil, Nat.reduceLT, Nat.zero_add])
        refine kT (by rw [pe, pNot, pin]; exact ok) _ (by rw [eM, ← List.append_assoc, pe]; show MY hm b n (pIn (tq b n) none (k + i)).2.1 _ _ _ _ _; rw [pin]; exact Y3) ?_
        rw [eM, pe]
        show _ ≤ (pIn (tq b n) none (k + i)).2.1
        rw [pin, m3, List.length_append, List.length_append, List.length_replicate, l3]
        omega
      · have Y3 := Y2
        obtain ⟨fr2, pe2, rfl, W2⟩ := Y2.at
        refine go 60 (by decide) ?_
        simp only [KX, KY, KZ, KW, KV, Nat.reduceAdd, Nat.reduceSub, Nat.reduceLeDiff, true_and, and_true, true_or, or_true, or_self, reduceCtorEq, if_true, if_false, not_false_eq_true, eq_self, c188, mt80, mt96, mt97, mtw, mtf, mtp, List.set_cons_succ, List.set_cons_zero, MFT, List.length_cons, List.length_nil, Nat.reduceLT, Nat.zero_add]
        refine go 60 (by decide) ?_
        simp only [KX, KY, KZ, KW, KV, Nat.reduceAdd, Nat.reduceSub, Nat.reduceLeDiff, true_and, and_true, true_or, or_true, or_self, reduceCtorEq, if_true, if_false, not_false_eq_true, eq_self, c188, mt80, mt96, mt97, mtw, mtf, mtp, List.set_cons_succ, List.set_cons_zero, MFT, List.length_cons, List.length_nil, Nat.reduceLT, Nat.zero_add]
        exact kF (by rw [pe, pNot, pin]; exact ok) _ _ _ _ (by rw [pe]; show MY hm b n (pIn (tq b n) none (k + i)).2.1 _ _ _ _ _; rw [pin]; exact Y3)
  have lp : ∀ f i hh, i + f = 200 → nots (tq b n) 200 k = i + nots (tq b n) f (k + i) → k + i ≤ K → MY hm b n (k + i) 1 3 F (List.replicate i 40002 ++ S) hh → WA Q 1 hh := by
    intro f
    induction f with
    | zero =>
      intro i hh ei en ik Y
      exact R i hh en ik (by rw [show k + i = K by omega, N.end_]; decide) Y
    | succ f ih =>
      intro i hh ei en ik Y
      have en : nots (tq b n) 200 k = i + if tq b n (k + i) = 262 then 1 + nots (tq b n) f (k + i + 1) else 0 := en
      by_cases y : tq b n (k + i) = 262
      · rw [if_pos y] at en
        have Yk := Y
        obtain ⟨fr, pe1, rfl, W0⟩ := Y.at
        have Y := Yk
        unfold WA
        refine go 60 (by decide) ?_
        simp only [KX, KY, KZ, KW, KV, Nat.reduceAdd, Nat.reduceSub, Nat.reduceLeDiff, true_and, and_true, true_or, or_true, or_self, reduceCtorEq, if_true, if_false, not_false_eq_true, eq_self, c188, mt80, mt96, mt97, mtw, mtf, mtp, List.set_cons_succ, List.set_cons_zero, MFT, List.length_cons, List.length_nil, Nat.reduceLT, Nat.zero_add]
        refine y179 Y X (a := 5) (by decide) ?_
        rw [if_pos (show tq b n (k + i) = 257 + 5 from y)]
        refine go 60 (by decide) ?_
        simp only [KX, KY, KZ, KW, KV, Nat.reduceAdd, Nat.reduceSub, Nat.reduceLeDiff, true_and, and_true, true_or, or_true, or_self, reduceCtorEq, if_true, if_false, not_false_eq_true, eq_self, c188, mt80, mt96, mt97, mtw, mtf, mtp, List.set_cons_succ, List.set_cons_zero, MFT, List.length_cons, List.length_nil, Nat.reduceLT, Nat.zero_add]
        have k1 := N.lt ik (by omega)
        refine y183 Y (by rw [List.length_append, List.length_replicate]; omega) (fun h2 Y2 => ?_)
        have Y3 := Y2
        obtain ⟨fr2, pe2, rfl, W2⟩ := Y2.at
        refine go 60 (by decide) ?_
        simp only [KX, KY, KZ, KW, KV, Nat.reduceAdd, Nat.reduceSub, Nat.reduceLeDiff, true_and, and_true, true_or, or_true, or_self, reduceCtorEq, if_true, if_false, not_false_eq_true, eq_self, c188, mt80, mt96, mt97, mtw, mtf, mtp, List.set_cons_succ, List.set_cons_zero, MFT, List.length_cons, List.length_nil, Nat.reduceLT, Nat.zero_add]
        refine y178 Y3 X (fun h4 Y4 => ?_)
        have Y5 := Y4
        obtain ⟨fr4, pe4, rfl, W4⟩ := Y4.at
        first
          | (with_reducible show At 188 _ 10 _ _ _ _)
          | (refine go 60 (by decide) ?_; simp only [KX, KY, KZ, KW, KV, Nat.reduceAdd, Nat.reduceSub, Nat.reduceLeDiff, true_and, and_true, true_or, or_true, or_self, reduceCtorEq, if_true, if_false, not_false_eq_true, eq_self, c188, mt80, mt96, mt97, mtw, mtf, mtp, List.set_cons_succ, List.set_cons_zero, MFT, List.length_cons, List.length_nil, Nat.reduceLT, Nat.zero_add])
        first
          | (with_reducible show At 188 _ 10 _ _ _ _)
          | (refine go 60 (by decide) ?_; simp only [KX, KY, KZ, KW, KV, Nat.reduceAdd, Nat.reduceSub, Nat.reduceLeDiff, true_and, and_true, true_or, or_true, or_self, reduceCtorEq, if_true, if_false, not_false_eq_true, eq_self, c188, mt80, mt96, mt97, mtw, mtf, mtp, List.set_cons_succ, List.set_cons_zero, MFT, List.length_cons, List.length_nil, Nat.reduceLT, Nat.zero_add])
        first
          | (with_reducible show At 188 _ 10 _ _ _ _)
          | (refine go 60 (by decide) ?_; simp only [KX, KY, KZ, KW, KV, Nat.reduceAdd, Nat.reduceSub, Nat.reduceLeDiff, true_and, and_true, true_or, or_true, or_self, reduceCtorEq, if_true, if_false, not_false_eq_true, eq_self, c188, mt80, mt96, mt97, mtw, mtf, mtp, List.set_cons_succ, List.set_cons_zero, MFT, List.length_cons, List.length_nil, Nat.reduceLT, Nat.zero_add])
        exact ih (i + 1) _ (by omega) (by rw [en, show k + (i + 1) = k + i + 1 by omega]; omega) k1 (by rw [List.replicate_succ, List.cons_append]; exact Y5)
      · rw [if_neg y, Nat.add_zero] at en
        exact R i hh en ik y Y
  exact lp 200 0 hh rfl (by rw [Nat.zero_add]; rfl) hk Y0
theorem mOne2 {hm : ma_H} {b : Nat → Nat} {n K : Nat} (X : MX hm b n) (N : TN b n K) {c : Nat → PR} (gc : PG (tq b n) K c) (nc : ∀ j, j ≤ K → (c j).1 = true → tq b n (c j).2.1 ≠ 261 ∧ tq b n (c j).2.1 ≠ 260) (mc : MCND hm b n K 3 c) : MONE hm b n K 2 (pOne (tq b n) (some c)) := by
  intro Q hh k F S Y0 pS l hk kT kF
  have K2 := N.1
  have R : ∀ i hh, nots (tq b n) 200 k = i → k + i ≤ K → ¬ tq b n (k + i) = 262 → MY hm b n (k + i) 1 2 F (List.replicate i 40002 ++ S) hh → WA Q 1 hh := by
    intro i hh en ik y Y
    have pe : (pOne (tq b n) (some c) k) = pNot i (pIn (tq b n) (some c) (k + i)) := by show pNot _ _ = _; rw [en]
    have Yk := Y
    obtain ⟨fr, pe1, rfl, W0⟩ := Y.at
    have Y := Yk
    unfold WA
    refine go 60 (by decide) ?_
    simp only [KX, KY, KZ, KW, KV, Nat.reduceAdd, Nat.reduceSub, Nat.reduceLeDiff, true_and, and_true, true_or, or_true, or_self, reduceCtorEq, if_true, if_false, not_false_eq_true, eq_self, c188, mt80, mt96, mt97, mtw, mtf, mtp, List.set_cons_succ, List.set_cons_zero, MFT, List.length_cons, List.length_nil, Nat.reduceLT, Nat.zero_add]
    refine y179 Y X (a := 5) (by decide) ?_
    rw [if_neg (show ¬ tq b n (k + i) = 257 + 5 from y)]
    refine go 60 (by decide) ?_
    simp only [KX, KY, KZ, KW, KV, Nat.reduceAdd, Nat.reduceSub, Nat.reduceLeDiff, true_and, and_true, true_or, or_true, or_self, reduceCtorEq, if_true, if_false, not_false_eq_true, eq_self, c188, mt80, mt96, mt97, mtw, mtf, mtp, List.set_cons_succ, List.set_cons_zero, MFT, List.length_cons, List.length_nil, Nat.reduceLT, Nat.zero_add]
    refine y180 Y X (c := 40) (by decide) ?_
    by_cases y4 : tq b n (k + i) = 40
    · have pin : (pIn (tq b n) (some c) (k + i)) = pBr (tq b n) (c (k + i + 1)) := if_pos y4
      rw [if_pos y4]
      refine go 60 (by decide) ?_
      simp only [KX, KY, KZ, KW, KV, Nat.reduceAdd, Nat.reduceSub, Nat.reduceLeDiff, true_and, and_true, true_or, or_true, or_self, reduceCtorEq, if_true, if_false, not_false_eq_true, eq_self, c188, mt80, mt96, mt97, mtw, mtf, mtp, List.set_cons_succ, List.set_cons_zero, MFT, List.length_cons, List.length_nil, Nat.reduceLT, Nat.zero_add]
      rw [if_pos (show (2 : Int32) < 3 by decide)]
      refine go 60 (by decide) ?_
      simp only [KX, KY, KZ, KW, KV, Nat.reduceAdd, Nat.reduceSub, Nat.reduceLeDiff, true_and, and_true, true_or, or_true, or_self, reduceCtorEq, if_true, if_false, not_false_eq_true, eq_self, c188, mt80, mt96, mt97, mtw, mtf, mtp, List.set_cons_succ, List.set_cons_zero, MFT, List.length_cons, List.length_nil, Nat.reduceLT, Nat.zero_add]
      have k1 := N.lt ik (by omega)
      refine y183 (W0 1 3) (by rw [List.length_append, List.length_replicate]; omega) (fun h2 Y2 => ?_)
      have Y3 := Y2
      obtain ⟨fr2, pe2, rfl, W2⟩ := Y2.at
      refine go 60 (by decide) ?_
      simp only [KX, KY, KZ, KW, KV, Nat.reduceAdd, Nat.reduceSub, Nat.reduceLeDiff, true_and, and_true, true_or, or_true, or_self, reduceCtorEq, if_true, if_false, not_false_eq_true, eq_self, c188, mt80, mt96, mt97, mtw, mtf, mtp, List.set_cons_succ, List.set_cons_zero, MFT, List.length_cons, List.length_nil, Nat.reduceLT, Nat.zero_add]
      refine y178 Y3 X (fun h4 Y4 => ?_)
      have Y5 := Y4
      obtain ⟨fr4, pe4, rfl, W4⟩ := Y4.at
      first
        | (with_reducible show At 188 _ 10 _ _ _ _)
        | (refine go 60 (by decide) ?_; simp only [KX, KY, KZ, KW, KV, Nat.reduceAdd, Nat.reduceSub, Nat.reduceLeDiff, true_and, and_true, true_or, or_true, or_self, reduceCtorEq, if_true, if_false, not_false_eq_true, eq_self, c188, mt80, mt96, mt97, mtw, mtf, mtp, List.set_cons_succ, List.set_cons_zero, MFT, List.length_cons, List.length_nil, Nat.reduceLT, Nat.zero_add])
      first
        | (with_reducible show At 188 _ 10 _ _ _ _)
        | (refine go 60 (by decide) ?_; simp only [KX, KY, KZ, KW, KV, Nat.reduceAdd, Nat.reduceSub, Nat.reduceLeDiff, true_and, and_true, true_or, or_true, or_self, reduceCtorEq, if_true, if_false, not_false_eq_true, eq_self, c188, mt80, mt96, mt97, mtw, mtf, mtp, List.set_cons_succ, List.set_cons_zero, MFT, List.length_cons, List.length_nil, Nat.reduceLT, Nat.zero_add])
      first
        | (with_reducible show At 188 _ 10 _ _ _ _)
        | (refine go 60 (by decide) ?_; simp only [KX, KY, KZ, KW, KV, Nat.reduceAdd, Nat.reduceSub, Nat.reduceLeDiff, true_and, and_true, true_or, or_true, or_self, reduceCtorEq, if_true, if_false, not_false_eq_true, eq_self, c188, mt80, mt96, mt97, mtw, mtf, mtp, List.set_cons_succ, List.set_cons_zero, MFT, List.length_cons, List.length_nil, Nat.reduceLT, Nat.zero_add])
      refine mc Q _ (k + i + 1) F (40003 :: (List.replicate i 40002 ++ S)) Y5 (popx_ne (by decide)) (popx_ne (by decide)) (popx_ne (by decide)) (by rw [List.length_cons, List.length_append, List.length_replicate]; omega) k1 (fun ok h6 F2 S2 Y6 es l6 => ?_) (fun ok h6 o6 F2 S2 Y6 => ?_)
      · obtain ⟨n1, n2⟩ := nc _ k1 ok
        obtain ⟨g1, g2, g3⟩ := gc _ k1
        have Y7 := Y6
        obtain ⟨fr6, pe6, rfl, W6⟩ := Y6.at
        unfold WA
        refine go 60 (by decide) ?_
        simp only [KX, KY, KZ, KW, KV, Nat.reduceAdd, Nat.reduceSub, Nat.reduceLeDiff, true_and, and_true, true_or, or_true, or_self, reduceCtorEq, if_true, if_false, not_false_eq_true, eq_self, c188, mt80, mt96, mt97, mtw, mtf, mtp, List.set_cons_succ, List.set_cons_zero, MFT, List.length_cons, List.length_nil, Nat.reduceLT, Nat.zero_add]
        refine y179 Y7 X (a := 4) (by decide) ?_
        rw [if_neg n1]
        refine go 60 (by decide) ?_
        simp only [KX, KY, KZ, KW, KV, Nat.reduceAdd, Nat.reduceSub, Nat.reduceLeDiff, true_and, and_true, true_or, or_true, or_self, reduceCtorEq, if_true, if_false, not_false_eq_true, eq_self, c188, mt80, mt96, mt97, mtw, mtf, mtp, List.set_cons_succ, List.set_cons_zero, MFT, List.length_cons, List.length_nil, Nat.reduceLT, Nat.zero_add]
        refine y179 Y7 X (a := 3) (by decide) ?_
        rw [if_neg n2]
        refine go 60 (by decide) ?_
        simp only [KX, KY, KZ, KW, KV, Nat.reduceAdd, Nat.reduceSub, Nat.reduceLeDiff, true_and, and_true, true_or, or_true, or_self, reduceCtorEq, if_true, if_false, not_false_eq_true, eq_self, c188, mt80, mt96, mt97, mtw, mtf, mtp, List.set_cons_succ, List.set_cons_zero, MFT, List.length_cons, List.length_nil, Nat.reduceLT, Nat.zero_add]
        refine y185 Y7 (by omega) (fun h7 Y8 => ?_)
        have Y9 := Y8
        obtain ⟨fr8, pe8, rfl, W8⟩ := Y8.at
        refine go 60 (by decide) ?_
        simp only [KX, KY, KZ, KW, KV, Nat.reduceAdd, Nat.reduceSub, Nat.reduceLeDiff, true_and, and_true, true_or, or_true, or_self, reduceCtorEq, if_true, if_false, not_false_eq_true, eq_self, c188, mt80, mt96, mt97, mtw, mtf, mtp, List.set_cons_succ, List.set_cons_zero, MFT, List.length_cons, List.length_nil, Nat.reduceLT, Nat.zero_add]
        have h185 : (F2 ++ List.replicate (popx 40000 S2) 40000).length + (S2.drop (popx 40000 S2)).length = F2.length + S2.length := stl_len (x := 40000) (r := (F2, S2))
        refine y185 Y9 (by omega) (fun h10 Y10 => ?_)
        have Y10 : MY hm b n (c (k + i + 1)).2.1 1 3 (F ++ tms (c (k + i + 1)).2.2.2) (40003 :: (List.replicate i 40002 ++ S)) h10 := by
          have e1 := congrArg (fun r : List Int32 × List Int32 => r.1) es
          have e2 := congrArg (fun r : List Int32 × List Int32 => r.2) es
          unfold stl at e1 e2
          dsimp only at e1 e2
          rw [← e1, ← e2]
          exact Y10
        obtain ⟨fr9, pe9, rfl, W9⟩ := Y10.pop
        have Y10b := Y10
        have l10 : (F ++ tms (c (k + i + 1)).2.2.2).length + (i + S.length + 1) ≤ (c (k + i + 1)).2.1 := by
          have a1 := stl_len (x := 40001) (r := stl 40000 (F2, S2))
          have a2 := stl_len (x := 40000) (r := (F2, S2))
          rw [es, a2] at a1
          dsimp only at a1
          rw [List.length_cons, List.length_append (bs := S), List.length_replicate] at a1
          omega
        refine go 60 (by decide) ?_
        simp only [KX, KY, KZ, KW, KV, Nat.reduceAdd, Nat.reduceSub, Nat.reduceLeDiff, true_and, and_true, true_or, or_true, or_self, reduceCtorEq, if_true, if_false, not_false_eq_true, eq_self, c188, mt80, mt96, mt97, mtw, mtf, mtp, List.set_cons_succ, List.set_cons_zero, MFT, List.length_cons, List.length_nil, Nat.reduceLT, Nat.zero_add]
        refine y184 Y10b ?_
        rw [show topx 40003 (40003 :: (List.replicate i 40002 ++ S)) = 1 by show (if (40003 : Int32) = 40003 then (1 : Int32) else 0) = 1; rw [if_pos rfl]]
        refine go 60 (by decide) ?_
        simp only [KX, KY, KZ, KW, KV, Nat.reduceAdd, Nat.reduceSub, Nat.reduceLeDiff, true_and, and_true, true_or, or_true, or_self, reduceCtorEq, if_true, if_false, not_false_eq_true, eq_self, c188, mt80, mt96, mt97, mtw, mtf, mtp, List.set_cons_succ, List.set_cons_zero, MFT, List.length_cons, List.length_nil, Nat.reduceLT, Nat.zero_add]
        refine y180 Y10b X (c := 41) (by decide) ?_
        by_cases y5 : tq b n (c (k + i + 1)).2.1 = 41
        · have pb : pIn (tq b n) (some c) (k + i) = (true, (c (k + i + 1)).2.1 + 1, (c (k + i + 1)).2.2.1, (c (k + i + 1)).2.2.2) := by rw [pin]; unfold pBr; rw [if_pos ok, if_pos y5]
          rw [if_pos y5]
          refine go 60 (by decide) ?_
          simp only [KX, KY, KZ, KW, KV, Nat.reduceAdd, Nat.reduceSub, Nat.reduceLeDiff, true_and, and_true, true_or, or_true, or_self, reduceCtorEq, if_true, if_false, not_false_eq_true, eq_self, c188, mt80, mt96, mt97, mtw, mtf, mtp, List.set_cons_succ, List.set_cons_zero, MFT, List.length_cons, List.length_nil, Nat.reduceLT, Nat.zero_add]
          refine go 60 (by decide) ?_
          simp only [KX, KY, KZ, KW, KV, Nat.reduceAdd, Nat.reduceSub, Nat.reduceLeDiff, true_and, and_true, true_or, or_true, or_self, reduceCtorEq, if_true, if_false, not_false_eq_true, eq_self, c188, mt80, mt96, mt97, mtw, mtf, mtp, List.set_cons_succ, List.set_cons_zero, MFT, List.length_cons, List.length_nil, Nat.reduceLT, Nat.zero_add]
          refine go 60 (by decide) ?_
          simp only [KX, KY, KZ, KW, KV, Nat.reduceAdd, Nat.reduceSub, Nat.reduceLeDiff, true_and, and_true, true_or, or_true, or_self, reduceCtorEq, if_true, if_false, not_false_eq_true, eq_self, c188, mt80, mt96, mt97, mtw, mtf, mtp, List.set_cons_succ, List.set_cons_zero, MFT, List.length_cons, List.length_nil, Nat.reduceLT, Nat.zero_add]
          refine y178 (W9 1 _).1 X (fun h11 Y11 => ?_)
          rw [show (3 : Int32) - 1 = 2 by decide] at Y11
          have Y12 := Y11
          obtain ⟨fr11, pe11, rfl, W11⟩ := Y11.at
          refine go 60 (by decide) ?_
          simp only [KX, KY, KZ, KW, KV, Nat.reduceAdd, Nat.reduceSub, Nat.reduceLeDiff, true_and, and_true, true_or, or_true, or_self, reduceCtorEq, if_true, if_false, not_false_eq_true, eq_self, c188, mt80, mt96, mt97, mtw, mtf, mtp, List.set_cons_succ, List.set_cons_zero, MFT, List.length_cons, List.length_nil, Nat.reduceLT, Nat.zero_add]
          refine y185 Y12 (by rw [List.length_append (bs := S), List.length_replicate]; have k2 := N.lt g2 (by omega); omega) (fun h13 Y13 => ?_)
          rw [popx_rep, pS, show i + 0 = i from rfl, drop_rep] at Y13
          have eM : tms (pOne (tq b n) (some c) k).2.2.2 = tms (c (k + i + 1)).2.2.2 ++ List.replicate i 40002 := by rw [pe]; show tms (_ ++ _) = _; rw [tms_app, tms_rep, pb]
          have Y14 := Y13
          obtain ⟨fr13, pe13, rfl, W13⟩ := Y13.at
          try (refine go 60 (by decide) ?_; simp only [KX, KY, KZ, KW, KV, Nat.reduceAdd, Nat.reduceSub, Nat.reduceLeDiff, true_and, and_true, true_or, or_true, or_self, reduceCtorEq, if_true, if_false, not_false_eq_true, eq_self, c188, mt80, mt96, mt97, mtw, mtf, mtp, List.set_cons_succ, List.set_cons_zero, MFT, List.length_cons, List.length_nil, Nat.reduceLT, Nat.zero_add])
          refine kT (by rw [pe]; show (pIn (tq b n) (some c) (k + i)).1 = true; rw [pb]) _ (by rw [eM, ← List.append_assoc, pe]; show MY hm b n (pIn (tq b n) (some c) (k + i)).2.1 _ _ _ _ _; rw [pb]; exact Y14) ?_
          rw [eM, pe]
          show _ ≤ (pIn (tq b n) (some c) (k + i)).2.1
          rw [pb, ← List.append_assoc, List.length_append, List.length_replicate]
          show _ ≤ (c (k + i + 1)).2.1 + 1
          omega
        · have pb : pIn (tq b n) (some c) (k + i) = (false, (c (k + i + 1)).2.1, (c (k + i + 1)).2.2.1, (c (k + i + 1)).2.2.2) := by rw [pin]; unfold pBr; rw [if_pos ok, if_neg y5]
          rw [if_neg y5]
          refine go 60 (by decide) ?_
          simp only [KX, KY, KZ, KW, KV, Nat.reduceAdd, Nat.reduceSub, Nat.reduceLeDiff, true_and, and_true, true_or, or_true, or_self, reduceCtorEq, if_true, if_false, not_false_eq_true, eq_self, c188, mt80, mt96, mt97, mtw, mtf, mtp, List.set_cons_succ, List.set_cons_zero, MFT, List.length_cons, List.length_nil, Nat.reduceLT, Nat.zero_add]
          refine go 60 (by decide) ?_
          simp only [KX, KY, KZ, KW, KV, Nat.reduceAdd, Nat.reduceSub, Nat.reduceLeDiff, true_and, and_true, true_or, or_true, or_self, reduceCtorEq, if_true, if_false, not_false_eq_true, eq_self, c188, mt80, mt96, mt97, mtw, mtf, mtp, List.set_cons_succ, List.set_cons_zero, MFT, List.length_cons, List.length_nil, Nat.reduceLT, Nat.zero_add]
          refine go 60 (by decide) ?_
          simp only [KX, KY, KZ, KW, KV, Nat.reduceAdd, Nat.reduceSub, Nat.reduceLeDiff, true_and, and_true, true_or, or_true, or_self, reduceCtorEq, if_true, if_false, not_false_eq_true, eq_self, c188, mt80, mt96, mt97, mtw, mtf, mtp, List.set_cons_succ, List.set_cons_zero, MFT, List.length_cons, List.length_nil, Nat.reduceLT, Nat.zero_add]
          exact kF (by rw [pe]; show (pIn (tq b n) (some c) (k + i)).1 = false; rw [pb]) _ _ _ _ (by rw [pe]; show MY hm b n (pIn (tq b n) (some c) (k + i)).2.1 _ _ _ _ _; rw [pb]; exact (W9 0 _).2)
      · have pb : pIn (tq b n) (some c) (k + i) = (c (k + i + 1)) := by rw [pin]; unfold pBr; rw [if_neg (by rw [ok]; exact Bool.false_ne_true)]
        exact kF (by rw [pe]; show (pIn (tq b n) (some c) (k + i)).1 = false; rw [pb]; exact ok) h6 o6 F2 S2 (by rw [pe]; show MY hm b n (pIn (tq b n) (some c) (k + i)).2.1 _ _ _ _ _; rw [pb]; exact Y6)
    · have pin : (pIn (tq b n) (some c) (k + i)) = pCmp (tq b n) (k + i) := if_neg y4
      rw [if_neg y4]
      refine go 60 (by decide) ?_
      simp only [KX, KY, KZ, KW, KV, Nat.reduceAdd, Nat.reduceSub, Nat.reduceLeDiff, true_and, and_true, true_or, or_true, or_self, reduceCtorEq, if_true, if_false, not_false_eq_true, eq_self, c188, mt80, mt96, mt97, mtw, mtf, mtp, List.set_cons_succ, List.set_cons_zero, MFT, List.length_cons, List.length_nil, Nat.reduceLT, Nat.zero_add]
      refine y187 X Y N ik (by rw [List.length_append, List.length_replicate]; omega) (fun ok h2 Y2 => ?_) (fun ok h2 F2 S2 Y2 => ?_)
      · obtain ⟨m3, l3⟩ := pCmp_3 ok
        rw [popx_rep, pS, Nat.add_zero, drop_rep] at Y2
        have eM : tms (pOne (tq b n) (some c) k).2.2.2 = tms (pCmp (tq b n) (k + i)).2.2.2 ++ List.replicate i 40002 := by rw [pe]; show tms (_ ++ _) = _; rw [tms_app, tms_rep, pin]
        have Y3 := Y2
        obtain ⟨fr2, pe2, rfl, W2⟩ := Y2.at
        try (refine go 60 (by decide) ?_; simp only [KX, KY, KZ, KW, KV, Nat.reduceAdd, Nat.reduceSub, Nat.reduceLeDiff, true_and, and_true, true_or, or_true, or_self, reduceCtorEq, if_true, if_false, not_false_eq_true, eq_self, c188, mt80, mt96, mt97, mtw, mtf, mtp, List.set_cons_succ, List.set_cons_zero, MFT, List.length_cons, List.length_nil, Nat.reduceLT, Nat.zero_add])
        refine kT (by rw [pe, pNot, pin]; exact ok) _ (by rw [eM, ← List.append_assoc, pe]; show MY hm b n (pIn (tq b n) (some c) (k + i)).2.1 _ _ _ _ _; rw [pin]; exact Y3) ?_
        rw [eM, pe]
        show _ ≤ (pIn (tq b n) (some c) (k + i)).2.1
        rw [pin, m3, List.length_append, List.length_append, List.length_replicate, l3]
        omega
      · have Y3 := Y2
        obtain ⟨fr2, pe2, rfl, W2⟩ := Y2.at
        refine go 60 (by decide) ?_
        simp only [KX, KY, KZ, KW, KV, Nat.reduceAdd, Nat.reduceSub, Nat.reduceLeDiff, true_and, and_true, true_or, or_true, or_self, reduceCtorEq, if_true, if_false, not_false_eq_true, eq_self, c188, mt80, mt96, mt97, mtw, mtf, mtp, List.set_cons_succ, List.set_cons_zero, MFT, List.length_cons, List.length_nil, Nat.reduceLT, Nat.zero_add]
        refine go 60 (by decide) ?_
        simp only [KX, KY, KZ, KW, KV, Nat.reduceAdd, Nat.reduceSub, Nat.reduceLeDiff, true_and, and_true, true_or, or_true, or_self, reduceCtorEq, if_true, if_false, not_false_eq_true, eq_self, c188, mt80, mt96, mt97, mtw, mtf, mtp, List.set_cons_succ, List.set_cons_zero, MFT, List.length_cons, List.length_nil, Nat.reduceLT, Nat.zero_add]
        exact kF (by rw [pe, pNot, pin]; exact ok) _ _ _ _ (by rw [pe]; show MY hm b n (pIn (tq b n) (some c) (k + i)).2.1 _ _ _ _ _; rw [pin]; exact Y3)
  have lp : ∀ f i hh, i + f = 200 → nots (tq b n) 200 k = i + nots (tq b n) f (k + i) → k + i ≤ K → MY hm b n (k + i) 1 2 F (List.replicate i 40002 ++ S) hh → WA Q 1 hh := by
    intro f
    induction f with
    | zero =>
      intro i hh ei en ik Y
      exact R i hh en ik (by rw [show k + i = K by omega, N.end_]; decide) Y
    | succ f ih =>
      intro i hh ei en ik Y
      have en : nots (tq b n) 200 k = i + if tq b n (k + i) = 262 then 1 + nots (tq b n) f (k + i + 1) else 0 := en
      by_cases y : tq b n (k + i) = 262
      · rw [if_pos y] at en
        have Yk := Y
        obtain ⟨fr, pe1, rfl, W0⟩ := Y.at
        have Y := Yk
        unfold WA
        refine go 60 (by decide) ?_
        simp only [KX, KY, KZ, KW, KV, Nat.reduceAdd, Nat.reduceSub, Nat.reduceLeDiff, true_and, and_true, true_or, or_true, or_self, reduceCtorEq, if_true, if_false, not_false_eq_true, eq_self, c188, mt80, mt96, mt97, mtw, mtf, mtp, List.set_cons_succ, List.set_cons_zero, MFT, List.length_cons, List.length_nil, Nat.reduceLT, Nat.zero_add]
        refine y179 Y X (a := 5) (by decide) ?_
        rw [if_pos (show tq b n (k + i) = 257 + 5 from y)]
        refine go 60 (by decide) ?_
        simp only [KX, KY, KZ, KW, KV, Nat.reduceAdd, Nat.reduceSub, Nat.reduceLeDiff, true_and, and_true, true_or, or_true, or_self, reduceCtorEq, if_true, if_false, not_false_eq_true, eq_self, c188, mt80, mt96, mt97, mtw, mtf, mtp, List.set_cons_succ, List.set_cons_zero, MFT, List.length_cons, List.length_nil, Nat.reduceLT, Nat.zero_add]
        have k1 := N.lt ik (by omega)
        refine y183 Y (by rw [List.length_append, List.length_replicate]; omega) (fun h2 Y2 => ?_)
        have Y3 := Y2
        obtain ⟨fr2, pe2, rfl, W2⟩ := Y2.at
        refine go 60 (by decide) ?_
        simp only [KX, KY, KZ, KW, KV, Nat.reduceAdd, Nat.reduceSub, Nat.reduceLeDiff, true_and, and_true, true_or, or_true, or_self, reduceCtorEq, if_true, if_false, not_false_eq_true, eq_self, c188, mt80, mt96, mt97, mtw, mtf, mtp, List.set_cons_succ, List.set_cons_zero, MFT, List.length_cons, List.length_nil, Nat.reduceLT, Nat.zero_add]
        refine y178 Y3 X (fun h4 Y4 => ?_)
        have Y5 := Y4
        obtain ⟨fr4, pe4, rfl, W4⟩ := Y4.at
        first
          | (with_reducible show At 188 _ 10 _ _ _ _)
          | (refine go 60 (by decide) ?_; simp only [KX, KY, KZ, KW, KV, Nat.reduceAdd, Nat.reduceSub, Nat.reduceLeDiff, true_and, and_true, true_or, or_true, or_self, reduceCtorEq, if_true, if_false, not_false_eq_true, eq_self, c188, mt80, mt96, mt97, mtw, mtf, mtp, List.set_cons_succ, List.set_cons_zero, MFT, List.length_cons, List.length_nil, Nat.reduceLT, Nat.zero_add])
        first
          | (with_reducible show At 188 _ 10 _ _ _ _)
          | (refine go 60 (by decide) ?_; simp only [KX, KY, KZ, KW, KV, Nat.reduceAdd, Nat.reduceSub, Nat.reduceLeDiff, true_and, and_true, true_or, or_true, or_self, reduceCtorEq, if_true, if_false, not_false_eq_true, eq_self, c188, mt80, mt96, mt97, mtw, mtf, mtp, List.set_cons_succ, List.set_cons_zero, MFT, List.length_cons, List.length_nil, Nat.reduceLT, Nat.zero_add])
        first
          | (with_reducible show At 188 _ 10 _ _ _ _)
          | (refine go 60 (by decide) ?_; simp only [KX, KY, KZ, KW, KV, Nat.reduceAdd, Nat.reduceSub, Nat.reduceLeDiff, true_and, and_true, true_or, or_true, or_self, reduceCtorEq, if_true, if_false, not_false_eq_true, eq_self, c188, mt80, mt96, mt97, mtw, mtf, mtp, List.set_cons_succ, List.set_cons_zero, MFT, List.length_cons, List.length_nil, Nat.reduceLT, Nat.zero_add])
        exact ih (i + 1) _ (by omega) (by rw [en, show k + (i + 1) = k + i + 1 by omega]; omega) k1 (by rw [List.replicate_succ, List.cons_append]; exact Y5)
      · rw [if_neg y, Nat.add_zero] at en
        exact R i hh en ik y Y
  exact lp 200 0 hh rfl (by rw [Nat.zero_add]; rfl) hk Y0
theorem mOne1 {hm : ma_H} {b : Nat → Nat} {n K : Nat} (X : MX hm b n) (N : TN b n K) {c : Nat → PR} (gc : PG (tq b n) K c) (nc : ∀ j, j ≤ K → (c j).1 = true → tq b n (c j).2.1 ≠ 261 ∧ tq b n (c j).2.1 ≠ 260) (mc : MCND hm b n K 2 c) : MONE hm b n K 1 (pOne (tq b n) (some c)) := by
  intro Q hh k F S Y0 pS l hk kT kF
  have K2 := N.1
  have R : ∀ i hh, nots (tq b n) 200 k = i → k + i ≤ K → ¬ tq b n (k + i) = 262 → MY hm b n (k + i) 1 1 F (List.replicate i 40002 ++ S) hh → WA Q 1 hh := by
    intro i hh en ik y Y
    have pe : (pOne (tq b n) (some c) k) = pNot i (pIn (tq b n) (some c) (k + i)) := by show pNot _ _ = _; rw [en]
    have Yk := Y
    obtain ⟨fr, pe1, rfl, W0⟩ := Y.at
    have Y := Yk
    unfold WA
    refine go 60 (by decide) ?_
    simp only [KX, KY, KZ, KW, KV, Nat.reduceAdd, Nat.reduceSub, Nat.reduceLeDiff, true_and, and_true, true_or, or_true, or_self, reduceCtorEq, if_true, if_false, not_false_eq_true, eq_self, c188, mt80, mt96, mt97, mtw, mtf, mtp, List.set_cons_succ, List.set_cons_zero, MFT, List.length_cons, List.length_nil, Nat.reduceLT, Nat.zero_add]
    refine y179 Y X (a := 5) (by decide) ?_
    rw [if_neg (show ¬ tq b n (k + i) = 257 + 5 from y)]
    refine go 60 (by decide) ?_
    simp only [KX, KY, KZ, KW, KV, Nat.reduceAdd, Nat.reduceSub, Nat.reduceLeDiff, true_and, and_true, true_or, or_true, or_self, reduceCtorEq, if_true, if_false, not_false_eq_true, eq_self, c188, mt80, mt96, mt97, mtw, mtf, mtp, List.set_cons_succ, List.set_cons_zero, MFT, List.length_cons, List.length_nil, Nat.reduceLT, Nat.zero_add]
    refine y180 Y X (c := 40) (by decide) ?_
    by_cases y4 : tq b n (k + i) = 40
    · have pin : (pIn (tq b n) (some c) (k + i)) = pBr (tq b n) (c (k + i + 1)) := if_pos y4
      rw [if_pos y4]
      refine go 60 (by decide) ?_
      simp only [KX, KY, KZ, KW, KV, Nat.reduceAdd, Nat.reduceSub, Nat.reduceLeDiff, true_and, and_true, true_or, or_true, or_self, reduceCtorEq, if_true, if_false, not_false_eq_true, eq_self, c188, mt80, mt96, mt97, mtw, mtf, mtp, List.set_cons_succ, List.set_cons_zero, MFT, List.length_cons, List.length_nil, Nat.reduceLT, Nat.zero_add]
      rw [if_pos (show (1 : Int32) < 3 by decide)]
      refine go 60 (by decide) ?_
      simp only [KX, KY, KZ, KW, KV, Nat.reduceAdd, Nat.reduceSub, Nat.reduceLeDiff, true_and, and_true, true_or, or_true, or_self, reduceCtorEq, if_true, if_false, not_false_eq_true, eq_self, c188, mt80, mt96, mt97, mtw, mtf, mtp, List.set_cons_succ, List.set_cons_zero, MFT, List.length_cons, List.length_nil, Nat.reduceLT, Nat.zero_add]
      have k1 := N.lt ik (by omega)
      refine y183 (W0 1 2) (by rw [List.length_append, List.length_replicate]; omega) (fun h2 Y2 => ?_)
      have Y3 := Y2
      obtain ⟨fr2, pe2, rfl, W2⟩ := Y2.at
      refine go 60 (by decide) ?_
      simp only [KX, KY, KZ, KW, KV, Nat.reduceAdd, Nat.reduceSub, Nat.reduceLeDiff, true_and, and_true, true_or, or_true, or_self, reduceCtorEq, if_true, if_false, not_false_eq_true, eq_self, c188, mt80, mt96, mt97, mtw, mtf, mtp, List.set_cons_succ, List.set_cons_zero, MFT, List.length_cons, List.length_nil, Nat.reduceLT, Nat.zero_add]
      refine y178 Y3 X (fun h4 Y4 => ?_)
      have Y5 := Y4
      obtain ⟨fr4, pe4, rfl, W4⟩ := Y4.at
      first
        | (with_reducible show At 188 _ 10 _ _ _ _)
        | (refine go 60 (by decide) ?_; simp only [KX, KY, KZ, KW, KV, Nat.reduceAdd, Nat.reduceSub, Nat.reduceLeDiff, true_and, and_true, true_or, or_true, or_self, reduceCtorEq, if_true, if_false, not_false_eq_true, eq_self, c188, mt80, mt96, mt97, mtw, mtf, mtp, List.set_cons_succ, List.set_cons_zero, MFT, List.length_cons, List.length_nil, Nat.reduceLT, Nat.zero_add])
      first
        | (with_reducible show At 188 _ 10 _ _ _ _)
        | (refine go 60 (by decide) ?_; simp only [KX, KY, KZ, KW, KV, Nat.reduceAdd, Nat.reduceSub, Nat.reduceLeDiff, true_and, and_true, true_or, or_true, or_self, reduceCtorEq, if_true, if_false, not_false_eq_true, eq_self, c188, mt80, mt96, mt97, mtw, mtf, mtp, List.set_cons_succ, List.set_cons_zero, MFT, List.length_cons, List.length_nil, Nat.reduceLT, Nat.zero_add])
      first
        | (with_reducible show At 188 _ 10 _ _ _ _)
        | (refine go 60 (by decide) ?_; simp only [KX, KY, KZ, KW, KV, Nat.reduceAdd, Nat.reduceSub, Nat.reduceLeDiff, true_and, and_true, true_or, or_true, or_self, reduceCtorEq, if_true, if_false, not_false_eq_true, eq_self, c188, mt80, mt96, mt97, mtw, mtf, mtp, List.set_cons_succ, List.set_cons_zero, MFT, List.length_cons, List.length_nil, Nat.reduceLT, Nat.zero_add])
      refine mc Q _ (k + i + 1) F (40003 :: (List.replicate i 40002 ++ S)) Y5 (popx_ne (by decide)) (popx_ne (by decide)) (popx_ne (by decide)) (by rw [List.length_cons, List.length_append, List.length_replicate]; omega) k1 (fun ok h6 F2 S2 Y6 es l6 => ?_) (fun ok h6 o6 F2 S2 Y6 => ?_)
      · obtain ⟨n1, n2⟩ := nc _ k1 ok
        obtain ⟨g1, g2, g3⟩ := gc _ k1
        have Y7 := Y6
        obtain ⟨fr6, pe6, rfl, W6⟩ := Y6.at
        unfold WA
        refine go 60 (by decide) ?_
        simp only [KX, KY, KZ, KW, KV, Nat.reduceAdd, Nat.reduceSub, Nat.reduceLeDiff, true_and, and_true, true_or, or_true, or_self, reduceCtorEq, if_true, if_false, not_false_eq_true, eq_self, c188, mt80, mt96, mt97, mtw, mtf, mtp, List.set_cons_succ, List.set_cons_zero, MFT, List.length_cons, List.length_nil, Nat.reduceLT, Nat.zero_add]
        refine y179 Y7 X (a := 4) (by decide) ?_
        rw [if_neg n1]
        refine go 60 (by decide) ?_
        simp only [KX, KY, KZ, KW, KV, Nat.reduceAdd, Nat.reduceSub, Nat.reduceLeDiff, true_and, and_true, true_or, or_true, or_self, reduceCtorEq, if_true, if_false, not_false_eq_true, eq_self, c188, mt80, mt96, mt97, mtw, mtf, mtp, List.set_cons_succ, List.set_cons_zero, MFT, List.length_cons, List.length_nil, Nat.reduceLT, Nat.zero_add]
        refine y179 Y7 X (a := 3) (by decide) ?_
        rw [if_neg n2]
        refine go 60 (by decide) ?_
        simp only [KX, KY, KZ, KW, KV, Nat.reduceAdd, Nat.reduceSub, Nat.reduceLeDiff, true_and, and_true, true_or, or_true, or_self, reduceCtorEq, if_true, if_false, not_false_eq_true, eq_self, c188, mt80, mt96, mt97, mtw, mtf, mtp, List.set_cons_succ, List.set_cons_zero, MFT, List.length_cons, List.length_nil, Nat.reduceLT, Nat.zero_add]
        refine y185 Y7 (by omega) (fun h7 Y8 => ?_)
        have Y9 := Y8
        obtain ⟨fr8, pe8, rfl, W8⟩ := Y8.at
        refine go 60 (by decide) ?_
        simp only [KX, KY, KZ, KW, KV, Nat.reduceAdd, Nat.reduceSub, Nat.reduceLeDiff, true_and, and_true, true_or, or_true, or_self, reduceCtorEq, if_true, if_false, not_false_eq_true, eq_self, c188, mt80, mt96, mt97, mtw, mtf, mtp, List.set_cons_succ, List.set_cons_zero, MFT, List.length_cons, List.length_nil, Nat.reduceLT, Nat.zero_add]
        have h185 : (F2 ++ List.replicate (popx 40000 S2) 40000).length + (S2.drop (popx 40000 S2)).length = F2.length + S2.length := stl_len (x := 40000) (r := (F2, S2))
        refine y185 Y9 (by omega) (fun h10 Y10 => ?_)
        have Y10 : MY hm b n (c (k + i + 1)).2.1 1 2 (F ++ tms (c (k + i + 1)).2.2.2) (40003 :: (List.replicate i 40002 ++ S)) h10 := by
          have e1 := congrArg (fun r : List Int32 × List Int32 => r.1) es
          have e2 := congrArg (fun r : List Int32 × List Int32 => r.2) es
          unfold stl at e1 e2
          dsimp only at e1 e2
          rw [← e1, ← e2]
          exact Y10
        obtain ⟨fr9, pe9, rfl, W9⟩ := Y10.pop
        have Y10b := Y10
        have l10 : (F ++ tms (c (k + i + 1)).2.2.2).length + (i + S.length + 1) ≤ (c (k + i + 1)).2.1 := by
          have a1 := stl_len (x := 40001) (r := stl 40000 (F2, S2))
          have a2 := stl_len (x := 40000) (r := (F2, S2))
          rw [es, a2] at a1
          dsimp only at a1
          rw [List.length_cons, List.length_append (bs := S), List.length_replicate] at a1
          omega
        refine go 60 (by decide) ?_
        simp only [KX, KY, KZ, KW, KV, Nat.reduceAdd, Nat.reduceSub, Nat.reduceLeDiff, true_and, and_true, true_or, or_true, or_self, reduceCtorEq, if_true, if_false, not_false_eq_true, eq_self, c188, mt80, mt96, mt97, mtw, mtf, mtp, List.set_cons_succ, List.set_cons_zero, MFT, List.length_cons, List.length_nil, Nat.reduceLT, Nat.zero_add]
        refine y184 Y10b ?_
        rw [show topx 40003 (40003 :: (List.replicate i 40002 ++ S)) = 1 by show (if (40003 : Int32) = 40003 then (1 : Int32) else 0) = 1; rw [if_pos rfl]]
        refine go 60 (by decide) ?_
        simp only [KX, KY, KZ, KW, KV, Nat.reduceAdd, Nat.reduceSub, Nat.reduceLeDiff, true_and, and_true, true_or, or_true, or_self, reduceCtorEq, if_true, if_false, not_false_eq_true, eq_self, c188, mt80, mt96, mt97, mtw, mtf, mtp, List.set_cons_succ, List.set_cons_zero, MFT, List.length_cons, List.length_nil, Nat.reduceLT, Nat.zero_add]
        refine y180 Y10b X (c := 41) (by decide) ?_
        by_cases y5 : tq b n (c (k + i + 1)).2.1 = 41
        · have pb : pIn (tq b n) (some c) (k + i) = (true, (c (k + i + 1)).2.1 + 1, (c (k + i + 1)).2.2.1, (c (k + i + 1)).2.2.2) := by rw [pin]; unfold pBr; rw [if_pos ok, if_pos y5]
          rw [if_pos y5]
          refine go 60 (by decide) ?_
          simp only [KX, KY, KZ, KW, KV, Nat.reduceAdd, Nat.reduceSub, Nat.reduceLeDiff, true_and, and_true, true_or, or_true, or_self, reduceCtorEq, if_true, if_false, not_false_eq_true, eq_self, c188, mt80, mt96, mt97, mtw, mtf, mtp, List.set_cons_succ, List.set_cons_zero, MFT, List.length_cons, List.length_nil, Nat.reduceLT, Nat.zero_add]
          refine go 60 (by decide) ?_
          simp only [KX, KY, KZ, KW, KV, Nat.reduceAdd, Nat.reduceSub, Nat.reduceLeDiff, true_and, and_true, true_or, or_true, or_self, reduceCtorEq, if_true, if_false, not_false_eq_true, eq_self, c188, mt80, mt96, mt97, mtw, mtf, mtp, List.set_cons_succ, List.set_cons_zero, MFT, List.length_cons, List.length_nil, Nat.reduceLT, Nat.zero_add]
          refine go 60 (by decide) ?_
          simp only [KX, KY, KZ, KW, KV, Nat.reduceAdd, Nat.reduceSub, Nat.reduceLeDiff, true_and, and_true, true_or, or_true, or_self, reduceCtorEq, if_true, if_false, not_false_eq_true, eq_self, c188, mt80, mt96, mt97, mtw, mtf, mtp, List.set_cons_succ, List.set_cons_zero, MFT, List.length_cons, List.length_nil, Nat.reduceLT, Nat.zero_add]
          refine y178 (W9 1 _).1 X (fun h11 Y11 => ?_)
          rw [show (2 : Int32) - 1 = 1 by decide] at Y11
          have Y12 := Y11
          obtain ⟨fr11, pe11, rfl, W11⟩ := Y11.at
          refine go 60 (by decide) ?_
          simp only [KX, KY, KZ, KW, KV, Nat.reduceAdd, Nat.reduceSub, Nat.reduceLeDiff, true_and, and_true, true_or, or_true, or_self, reduceCtorEq, if_true, if_false, not_false_eq_true, eq_self, c188, mt80, mt96, mt97, mtw, mtf, mtp, List.set_cons_succ, List.set_cons_zero, MFT, List.length_cons, List.length_nil, Nat.reduceLT, Nat.zero_add]
          refine y185 Y12 (by rw [List.length_append (bs := S), List.length_replicate]; have k2 := N.lt g2 (by omega); omega) (fun h13 Y13 => ?_)
          rw [popx_rep, pS, show i + 0 = i from rfl, drop_rep] at Y13
          have eM : tms (pOne (tq b n) (some c) k).2.2.2 = tms (c (k + i + 1)).2.2.2 ++ List.replicate i 40002 := by rw [pe]; show tms (_ ++ _) = _; rw [tms_app, tms_rep, pb]
          have Y14 := Y13
          obtain ⟨fr13, pe13, rfl, W13⟩ := Y13.at
          try (refine go 60 (by decide) ?_; simp only [KX, KY, KZ, KW, KV, Nat.reduceAdd, Nat.reduceSub, Nat.reduceLeDiff, true_and, and_true, true_or, or_true, or_self, reduceCtorEq, if_true, if_false, not_false_eq_true, eq_self, c188, mt80, mt96, mt97, mtw, mtf, mtp, List.set_cons_succ, List.set_cons_zero, MFT, List.length_cons, List.length_nil, Nat.reduceLT, Nat.zero_add])
          refine kT (by rw [pe]; show (pIn (tq b n) (some c) (k + i)).1 = true; rw [pb]) _ (by rw [eM, ← List.append_assoc, pe]; show MY hm b n (pIn (tq b n) (some c) (k + i)).2.1 _ _ _ _ _; rw [pb]; exact Y14) ?_
          rw [eM, pe]
          show _ ≤ (pIn (tq b n) (some c) (k + i)).2.1
          rw [pb, ← List.append_assoc, List.length_append, List.length_replicate]
          show _ ≤ (c (k + i + 1)).2.1 + 1
          omega
        · have pb : pIn (tq b n) (some c) (k + i) = (false, (c (k + i + 1)).2.1, (c (k + i + 1)).2.2.1, (c (k + i + 1)).2.2.2) := by rw [pin]; unfold pBr; rw [if_pos ok, if_neg y5]
          rw [if_neg y5]
          refine go 60 (by decide) ?_
          simp only [KX, KY, KZ, KW, KV, Nat.reduceAdd, Nat.reduceSub, Nat.reduceLeDiff, true_and, and_true, true_or, or_true, or_self, reduceCtorEq, if_true, if_false, not_false_eq_true, eq_self, c188, mt80, mt96, mt97, mtw, mtf, mtp, List.set_cons_succ, List.set_cons_zero, MFT, List.length_cons, List.length_nil, Nat.reduceLT, Nat.zero_add]
          refine go 60 (by decide) ?_
          simp only [KX, KY, KZ, KW, KV, Nat.reduceAdd, Nat.reduceSub, Nat.reduceLeDiff, true_and, and_true, true_or, or_true, or_self, reduceCtorEq, if_true, if_false, not_false_eq_true, eq_self, c188, mt80, mt96, mt97, mtw, mtf, mtp, List.set_cons_succ, List.set_cons_zero, MFT, List.length_cons, List.length_nil, Nat.reduceLT, Nat.zero_add]
          refine go 60 (by decide) ?_
          simp only [KX, KY, KZ, KW, KV, Nat.reduceAdd, Nat.reduceSub, Nat.reduceLeDiff, true_and, and_true, true_or, or_true, or_self, reduceCtorEq, if_true, if_false, not_false_eq_true, eq_self, c188, mt80, mt96, mt97, mtw, mtf, mtp, List.set_cons_succ, List.set_cons_zero, MFT, List.length_cons, List.length_nil, Nat.reduceLT, Nat.zero_add]
          exact kF (by rw [pe]; show (pIn (tq b n) (some c) (k + i)).1 = false; rw [pb]) _ _ _ _ (by rw [pe]; show MY hm b n (pIn (tq b n) (some c) (k + i)).2.1 _ _ _ _ _; rw [pb]; exact (W9 0 _).2)
      · have pb : pIn (tq b n) (some c) (k + i) = (c (k + i + 1)) := by rw [pin]; unfold pBr; rw [if_neg (by rw [ok]; exact Bool.false_ne_true)]
        exact kF (by rw [pe]; show (pIn (tq b n) (some c) (k + i)).1 = false; rw [pb]; exact ok) h6 o6 F2 S2 (by rw [pe]; show MY hm b n (pIn (tq b n) (some c) (k + i)).2.1 _ _ _ _ _; rw [pb]; exact Y6)
    · have pin : (pIn (tq b n) (some c) (k + i)) = pCmp (tq b n) (k + i) := if_neg y4
      rw [if_neg y4]
      refine go 60 (by decide) ?_
      simp only [KX, KY, KZ, KW, KV, Nat.reduceAdd, Nat.reduceSub, Nat.reduceLeDiff, true_and, and_true, true_or, or_true, or_self, reduceCtorEq, if_true, if_false, not_false_eq_true, eq_self, c188, mt80, mt96, mt97, mtw, mtf, mtp, List.set_cons_succ, List.set_cons_zero, MFT, List.length_cons, List.length_nil, Nat.reduceLT, Nat.zero_add]
      refine y187 X Y N ik (by rw [List.length_append, List.length_replicate]; omega) (fun ok h2 Y2 => ?_) (fun ok h2 F2 S2 Y2 => ?_)
      · obtain ⟨m3, l3⟩ := pCmp_3 ok
        rw [popx_rep, pS, Nat.add_zero, drop_rep] at Y2
        have eM : tms (pOne (tq b n) (some c) k).2.2.2 = tms (pCmp (tq b n) (k + i)).2.2.2 ++ List.replicate i 40002 := by rw [pe]; show tms (_ ++ _) = _; rw [tms_app, tms_rep, pin]
        have Y3 := Y2
        obtain ⟨fr2, pe2, rfl, W2⟩ := Y2.at
        try (refine go 60 (by decide) ?_; simp only [KX, KY, KZ, KW, KV, Nat.reduceAdd, Nat.reduceSub, Nat.reduceLeDiff, true_and, and_true, true_or, or_true, or_self, reduceCtorEq, if_true, if_false, not_false_eq_true, eq_self, c188, mt80, mt96, mt97, mtw, mtf, mtp, List.set_cons_succ, List.set_cons_zero, MFT, List.length_cons, List.length_nil, Nat.reduceLT, Nat.zero_add])
        refine kT (by rw [pe, pNot, pin]; exact ok) _ (by rw [eM, ← List.append_assoc, pe]; show MY hm b n (pIn (tq b n) (some c) (k + i)).2.1 _ _ _ _ _; rw [pin]; exact Y3) ?_
        rw [eM, pe]
        show _ ≤ (pIn (tq b n) (some c) (k + i)).2.1
        rw [pin, m3, List.length_append, List.length_append, List.length_replicate, l3]
        omega
      · have Y3 := Y2
        obtain ⟨fr2, pe2, rfl, W2⟩ := Y2.at
        refine go 60 (by decide) ?_
        simp only [KX, KY, KZ, KW, KV, Nat.reduceAdd, Nat.reduceSub, Nat.reduceLeDiff, true_and, and_true, true_or, or_true, or_self, reduceCtorEq, if_true, if_false, not_false_eq_true, eq_self, c188, mt80, mt96, mt97, mtw, mtf, mtp, List.set_cons_succ, List.set_cons_zero, MFT, List.length_cons, List.length_nil, Nat.reduceLT, Nat.zero_add]
        refine go 60 (by decide) ?_
        simp only [KX, KY, KZ, KW, KV, Nat.reduceAdd, Nat.reduceSub, Nat.reduceLeDiff, true_and, and_true, true_or, or_true, or_self, reduceCtorEq, if_true, if_false, not_false_eq_true, eq_self, c188, mt80, mt96, mt97, mtw, mtf, mtp, List.set_cons_succ, List.set_cons_zero, MFT, List.length_cons, List.length_nil, Nat.reduceLT, Nat.zero_add]
        exact kF (by rw [pe, pNot, pin]; exact ok) _ _ _ _ (by rw [pe]; show MY hm b n (pIn (tq b n) (some c) (k + i)).2.1 _ _ _ _ _; rw [pin]; exact Y3)
  have lp : ∀ f i hh, i + f = 200 → nots (tq b n) 200 k = i + nots (tq b n) f (k + i) → k + i ≤ K → MY hm b n (k + i) 1 1 F (List.replicate i 40002 ++ S) hh → WA Q 1 hh := by
    intro f
    induction f with
    | zero =>
      intro i hh ei en ik Y
      exact R i hh en ik (by rw [show k + i = K by omega, N.end_]; decide) Y
    | succ f ih =>
      intro i hh ei en ik Y
      have en : nots (tq b n) 200 k = i + if tq b n (k + i) = 262 then 1 + nots (tq b n) f (k + i + 1) else 0 := en
      by_cases y : tq b n (k + i) = 262
      · rw [if_pos y] at en
        have Yk := Y
        obtain ⟨fr, pe1, rfl, W0⟩ := Y.at
        have Y := Yk
        unfold WA
        refine go 60 (by decide) ?_
        simp only [KX, KY, KZ, KW, KV, Nat.reduceAdd, Nat.reduceSub, Nat.reduceLeDiff, true_and, and_true, true_or, or_true, or_self, reduceCtorEq, if_true, if_false, not_false_eq_true, eq_self, c188, mt80, mt96, mt97, mtw, mtf, mtp, List.set_cons_succ, List.set_cons_zero, MFT, List.length_cons, List.length_nil, Nat.reduceLT, Nat.zero_add]
        refine y179 Y X (a := 5) (by decide) ?_
        rw [if_pos (show tq b n (k + i) = 257 + 5 from y)]
        refine go 60 (by decide) ?_
        simp only [KX, KY, KZ, KW, KV, Nat.reduceAdd, Nat.reduceSub, Nat.reduceLeDiff, true_and, and_true, true_or, or_true, or_self, reduceCtorEq, if_true, if_false, not_false_eq_true, eq_self, c188, mt80, mt96, mt97, mtw, mtf, mtp, List.set_cons_succ, List.set_cons_zero, MFT, List.length_cons, List.length_nil, Nat.reduceLT, Nat.zero_add]
        have k1 := N.lt ik (by omega)
        refine y183 Y (by rw [List.length_append, List.length_replicate]; omega) (fun h2 Y2 => ?_)
        have Y3 := Y2
        obtain ⟨fr2, pe2, rfl, W2⟩ := Y2.at
        refine go 60 (by decide) ?_
        simp only [KX, KY, KZ, KW, KV, Nat.reduceAdd, Nat.reduceSub, Nat.reduceLeDiff, true_and, and_true, true_or, or_true, or_self, reduceCtorEq, if_true, if_false, not_false_eq_true, eq_self, c188, mt80, mt96, mt97, mtw, mtf, mtp, List.set_cons_succ, List.set_cons_zero, MFT, List.length_cons, List.length_nil, Nat.reduceLT, Nat.zero_add]
        refine y178 Y3 X (fun h4 Y4 => ?_)
        have Y5 := Y4
        obtain ⟨fr4, pe4, rfl, W4⟩ := Y4.at
        first
          | (with_reducible show At 188 _ 10 _ _ _ _)
          | (refine go 60 (by decide) ?_; simp only [KX, KY, KZ, KW, KV, Nat.reduceAdd, Nat.reduceSub, Nat.reduceLeDiff, true_and, and_true, true_or, or_true, or_self, reduceCtorEq, if_true, if_false, not_false_eq_true, eq_self, c188, mt80, mt96, mt97, mtw, mtf, mtp, List.set_cons_succ, List.set_cons_zero, MFT, List.length_cons, List.length_nil, Nat.reduceLT, Nat.zero_add])
        first
          | (with_reducible show At 188 _ 10 _ _ _ _)
          | (refine go 60 (by decide) ?_; simp only [KX, KY, KZ, KW, KV, Nat.reduceAdd, Nat.reduceSub, Nat.reduceLeDiff, true_and, and_true, true_or, or_true, or_self, reduceCtorEq, if_true, if_false, not_false_eq_true, eq_self, c188, mt80, mt96, mt97, mtw, mtf, mtp, List.set_cons_succ, List.set_cons_zero, MFT, List.length_cons, List.length_nil, Nat.reduceLT, Nat.zero_add])
        first
          | (with_reducible show At 188 _ 10 _ _ _ _)
          | (refine go 60 (by decide) ?_; simp only [KX, KY, KZ, KW, KV, Nat.reduceAdd, Nat.reduceSub, Nat.reduceLeDiff, true_and, and_true, true_or, or_true, or_self, reduceCtorEq, if_true, if_false, not_false_eq_true, eq_self, c188, mt80, mt96, mt97, mtw, mtf, mtp, List.set_cons_succ, List.set_cons_zero, MFT, List.length_cons, List.length_nil, Nat.reduceLT, Nat.zero_add])
        exact ih (i + 1) _ (by omega) (by rw [en, show k + (i + 1) = k + i + 1 by omega]; omega) k1 (by rw [List.replicate_succ, List.cons_append]; exact Y5)
      · rw [if_neg y, Nat.add_zero] at en
        exact R i hh en ik y Y
  exact lp 200 0 hh rfl (by rw [Nat.zero_add]; rfl) hk Y0
theorem mOne0 {hm : ma_H} {b : Nat → Nat} {n K : Nat} (X : MX hm b n) (N : TN b n K) {c : Nat → PR} (gc : PG (tq b n) K c) (nc : ∀ j, j ≤ K → (c j).1 = true → tq b n (c j).2.1 ≠ 261 ∧ tq b n (c j).2.1 ≠ 260) (mc : MCND hm b n K 1 c) : MONE hm b n K 0 (pOne (tq b n) (some c)) := by
  intro Q hh k F S Y0 pS l hk kT kF
  have K2 := N.1
  have R : ∀ i hh, nots (tq b n) 200 k = i → k + i ≤ K → ¬ tq b n (k + i) = 262 → MY hm b n (k + i) 1 0 F (List.replicate i 40002 ++ S) hh → WA Q 1 hh := by
    intro i hh en ik y Y
    have pe : (pOne (tq b n) (some c) k) = pNot i (pIn (tq b n) (some c) (k + i)) := by show pNot _ _ = _; rw [en]
    have Yk := Y
    obtain ⟨fr, pe1, rfl, W0⟩ := Y.at
    have Y := Yk
    unfold WA
    refine go 60 (by decide) ?_
    simp only [KX, KY, KZ, KW, KV, Nat.reduceAdd, Nat.reduceSub, Nat.reduceLeDiff, true_and, and_true, true_or, or_true, or_self, reduceCtorEq, if_true, if_false, not_false_eq_true, eq_self, c188, mt80, mt96, mt97, mtw, mtf, mtp, List.set_cons_succ, List.set_cons_zero, MFT, List.length_cons, List.length_nil, Nat.reduceLT, Nat.zero_add]
    refine y179 Y X (a := 5) (by decide) ?_
    rw [if_neg (show ¬ tq b n (k + i) = 257 + 5 from y)]
    refine go 60 (by decide) ?_
    simp only [KX, KY, KZ, KW, KV, Nat.reduceAdd, Nat.reduceSub, Nat.reduceLeDiff, true_and, and_true, true_or, or_true, or_self, reduceCtorEq, if_true, if_false, not_false_eq_true, eq_self, c188, mt80, mt96, mt97, mtw, mtf, mtp, List.set_cons_succ, List.set_cons_zero, MFT, List.length_cons, List.length_nil, Nat.reduceLT, Nat.zero_add]
    refine y180 Y X (c := 40) (by decide) ?_
    by_cases y4 : tq b n (k + i) = 40
    · have pin : (pIn (tq b n) (some c) (k + i)) = pBr (tq b n) (c (k + i + 1)) := if_pos y4
      rw [if_pos y4]
      refine go 60 (by decide) ?_
      simp only [KX, KY, KZ, KW, KV, Nat.reduceAdd, Nat.reduceSub, Nat.reduceLeDiff, true_and, and_true, true_or, or_true, or_self, reduceCtorEq, if_true, if_false, not_false_eq_true, eq_self, c188, mt80, mt96, mt97, mtw, mtf, mtp, List.set_cons_succ, List.set_cons_zero, MFT, List.length_cons, List.length_nil, Nat.reduceLT, Nat.zero_add]
      rw [if_pos (show (0 : Int32) < 3 by decide)]
      refine go 60 (by decide) ?_
      simp only [KX, KY, KZ, KW, KV, Nat.reduceAdd, Nat.reduceSub, Nat.reduceLeDiff, true_and, and_true, true_or, or_true, or_self, reduceCtorEq, if_true, if_false, not_false_eq_true, eq_self, c188, mt80, mt96, mt97, mtw, mtf, mtp, List.set_cons_succ, List.set_cons_zero, MFT, List.length_cons, List.length_nil, Nat.reduceLT, Nat.zero_add]
      have k1 := N.lt ik (by omega)
      refine y183 (W0 1 1) (by rw [List.length_append, List.length_replicate]; omega) (fun h2 Y2 => ?_)
      have Y3 := Y2
      obtain ⟨fr2, pe2, rfl, W2⟩ := Y2.at
      refine go 60 (by decide) ?_
      simp only [KX, KY, KZ, KW, KV, Nat.reduceAdd, Nat.reduceSub, Nat.reduceLeDiff, true_and, and_true, true_or, or_true, or_self, reduceCtorEq, if_true, if_false, not_false_eq_true, eq_self, c188, mt80, mt96, mt97, mtw, mtf, mtp, List.set_cons_succ, List.set_cons_zero, MFT, List.length_cons, List.length_nil, Nat.reduceLT, Nat.zero_add]
      refine y178 Y3 X (fun h4 Y4 => ?_)
      have Y5 := Y4
      obtain ⟨fr4, pe4, rfl, W4⟩ := Y4.at
      first
        | (with_reducible show At 188 _ 10 _ _ _ _)
        | (refine go 60 (by decide) ?_; simp only [KX, KY, KZ, KW, KV, Nat.reduceAdd, Nat.reduceSub, Nat.reduceLeDiff, true_and, and_true, true_or, or_true, or_self, reduceCtorEq, if_true, if_false, not_false_eq_true, eq_self, c188, mt80, mt96, mt97, mtw, mtf, mtp, List.set_cons_succ, List.set_cons_zero, MFT, List.length_cons, List.length_nil, Nat.reduceLT, Nat.zero_add])
      first
        | (with_reducible show At 188 _ 10 _ _ _ _)
        | (refine go 60 (by decide) ?_; simp only [KX, KY, KZ, KW, KV, Nat.reduceAdd, Nat.reduceSub, Nat.reduceLeDiff, true_and, and_true, true_or, or_true, or_self, reduceCtorEq, if_true, if_false, not_false_eq_true, eq_self, c188, mt80, mt96, mt97, mtw, mtf, mtp, List.set_cons_succ, List.set_cons_zero, MFT, List.length_cons, List.length_nil, Nat.reduceLT, Nat.zero_add])
      first
        | (with_reducible show At 188 _ 10 _ _ _ _)
        | (refine go 60 (by decide) ?_; simp only [KX, KY, KZ, KW, KV, Nat.reduceAdd, Nat.reduceSub, Nat.reduceLeDiff, true_and, and_true, true_or, or_true, or_self, reduceCtorEq, if_true, if_false, not_false_eq_true, eq_self, c188, mt80, mt96, mt97, mtw, mtf, mtp, List.set_cons_succ, List.set_cons_zero, MFT, List.length_cons, List.length_nil, Nat.reduceLT, Nat.zero_add])
      refine mc Q _ (k + i + 1) F (40003 :: (List.replicate i 40002 ++ S)) Y5 (popx_ne (by decide)) (popx_ne (by decide)) (popx_ne (by decide)) (by rw [List.length_cons, List.length_append, List.length_replicate]; omega) k1 (fun ok h6 F2 S2 Y6 es l6 => ?_) (fun ok h6 o6 F2 S2 Y6 => ?_)
      · obtain ⟨n1, n2⟩ := nc _ k1 ok
        obtain ⟨g1, g2, g3⟩ := gc _ k1
        have Y7 := Y6
        obtain ⟨fr6, pe6, rfl, W6⟩ := Y6.at
        unfold WA
        refine go 60 (by decide) ?_
        simp only [KX, KY, KZ, KW, KV, Nat.reduceAdd, Nat.reduceSub, Nat.reduceLeDiff, true_and, and_true, true_or, or_true, or_self, reduceCtorEq, if_true, if_false, not_false_eq_true, eq_self, c188, mt80, mt96, mt97, mtw, mtf, mtp, List.set_cons_succ, List.set_cons_zero, MFT, List.length_cons, List.length_nil, Nat.reduceLT, Nat.zero_add]
        refine y179 Y7 X (a := 4) (by decide) ?_
        rw [if_neg n1]
        refine go 60 (by decide) ?_
        simp only [KX, KY, KZ, KW, KV, Nat.reduceAdd, Nat.reduceSub, Nat.reduceLeDiff, true_and, and_true, true_or, or_true, or_self, reduceCtorEq, if_true, if_false, not_false_eq_true, eq_self, c188, mt80, mt96, mt97, mtw, mtf, mtp, List.set_cons_succ, List.set_cons_zero, MFT, List.length_cons, List.length_nil, Nat.reduceLT, Nat.zero_add]
        refine y179 Y7 X (a := 3) (by decide) ?_
        rw [if_neg n2]
        refine go 60 (by decide) ?_
        simp only [KX, KY, KZ, KW, KV, Nat.reduceAdd, Nat.reduceSub, Nat.reduceLeDiff, true_and, and_true, true_or, or_true, or_self, reduceCtorEq, if_true, if_false, not_false_eq_true, eq_self, c188, mt80, mt96, mt97, mtw, mtf, mtp, List.set_cons_succ, List.set_cons_zero, MFT, List.length_cons, List.length_nil, Nat.reduceLT, Nat.zero_add]
        refine y185 Y7 (by omega) (fun h7 Y8 => ?_)
        have Y9 := Y8
        obtain ⟨fr8, pe8, rfl, W8⟩ := Y8.at
        refine go 60 (by decide) ?_
        simp only [KX, KY, KZ, KW, KV, Nat.reduceAdd, Nat.reduceSub, Nat.reduceLeDiff, true_and, and_true, true_or, or_true, or_self, reduceCtorEq, if_true, if_false, not_false_eq_true, eq_self, c188, mt80, mt96, mt97, mtw, mtf, mtp, List.set_cons_succ, List.set_cons_zero, MFT, List.length_cons, List.length_nil, Nat.reduceLT, Nat.zero_add]
        have h185 : (F2 ++ List.replicate (popx 40000 S2) 40000).length + (S2.drop (popx 40000 S2)).length = F2.length + S2.length := stl_len (x := 40000) (r := (F2, S2))
        refine y185 Y9 (by omega) (fun h10 Y10 => ?_)
        have Y10 : MY hm b n (c (k + i + 1)).2.1 1 1 (F ++ tms (c (k + i + 1)).2.2.2) (40003 :: (List.replicate i 40002 ++ S)) h10 := by
          have e1 := congrArg (fun r : List Int32 × List Int32 => r.1) es
          have e2 := congrArg (fun r : List Int32 × List Int32 => r.2) es
          unfold stl at e1 e2
          dsimp only at e1 e2
          rw [← e1, ← e2]
          exact Y10
        obtain ⟨fr9, pe9, rfl, W9⟩ := Y10.pop
        have Y10b := Y10
        have l10 : (F ++ tms (c (k + i + 1)).2.2.2).length + (i + S.length + 1) ≤ (c (k + i + 1)).2.1 := by
          have a1 := stl_len (x := 40001) (r := stl 40000 (F2, S2))
          have a2 := stl_len (x := 40000) (r := (F2, S2))
          rw [es, a2] at a1
          dsimp only at a1
          rw [List.length_cons, List.length_append (bs := S), List.length_replicate] at a1
          omega
        refine go 60 (by decide) ?_
        simp only [KX, KY, KZ, KW, KV, Nat.reduceAdd, Nat.reduceSub, Nat.reduceLeDiff, true_and, and_true, true_or, or_true, or_self, reduceCtorEq, if_true, if_false, not_false_eq_true, eq_self, c188, mt80, mt96, mt97, mtw, mtf, mtp, List.set_cons_succ, List.set_cons_zero, MFT, List.length_cons, List.length_nil, Nat.reduceLT, Nat.zero_add]
        refine y184 Y10b ?_
        rw [show topx 40003 (40003 :: (List.replicate i 40002 ++ S)) = 1 by show (if (40003 : Int32) = 40003 then (1 : Int32) else 0) = 1; rw [if_pos rfl]]
        refine go 60 (by decide) ?_
        simp only [KX, KY, KZ, KW, KV, Nat.reduceAdd, Nat.reduceSub, Nat.reduceLeDiff, true_and, and_true, true_or, or_true, or_self, reduceCtorEq, if_true, if_false, not_false_eq_true, eq_self, c188, mt80, mt96, mt97, mtw, mtf, mtp, List.set_cons_succ, List.set_cons_zero, MFT, List.length_cons, List.length_nil, Nat.reduceLT, Nat.zero_add]
        refine y180 Y10b X (c := 41) (by decide) ?_
        by_cases y5 : tq b n (c (k + i + 1)).2.1 = 41
        · have pb : pIn (tq b n) (some c) (k + i) = (true, (c (k + i + 1)).2.1 + 1, (c (k + i + 1)).2.2.1, (c (k + i + 1)).2.2.2) := by rw [pin]; unfold pBr; rw [if_pos ok, if_pos y5]
          rw [if_pos y5]
          refine go 60 (by decide) ?_
          simp only [KX, KY, KZ, KW, KV, Nat.reduceAdd, Nat.reduceSub, Nat.reduceLeDiff, true_and, and_true, true_or, or_true, or_self, reduceCtorEq, if_true, if_false, not_false_eq_true, eq_self, c188, mt80, mt96, mt97, mtw, mtf, mtp, List.set_cons_succ, List.set_cons_zero, MFT, List.length_cons, List.length_nil, Nat.reduceLT, Nat.zero_add]
          refine go 60 (by decide) ?_
          simp only [KX, KY, KZ, KW, KV, Nat.reduceAdd, Nat.reduceSub, Nat.reduceLeDiff, true_and, and_true, true_or, or_true, or_self, reduceCtorEq, if_true, if_false, not_false_eq_true, eq_self, c188, mt80, mt96, mt97, mtw, mtf, mtp, List.set_cons_succ, List.set_cons_zero, MFT, List.length_cons, List.length_nil, Nat.reduceLT, Nat.zero_add]
          refine go 60 (by decide) ?_
          simp only [KX, KY, KZ, KW, KV, Nat.reduceAdd, Nat.reduceSub, Nat.reduceLeDiff, true_and, and_true, true_or, or_true, or_self, reduceCtorEq, if_true, if_false, not_false_eq_true, eq_self, c188, mt80, mt96, mt97, mtw, mtf, mtp, List.set_cons_succ, List.set_cons_zero, MFT, List.length_cons, List.length_nil, Nat.reduceLT, Nat.zero_add]
          refine y178 (W9 1 _).1 X (fun h11 Y11 => ?_)
          rw [show (1 : Int32) - 1 = 0 by decide] at Y11
          have Y12 := Y11
          obtain ⟨fr11, pe11, rfl, W11⟩ := Y11.at
          refine go 60 (by decide) ?_
          simp only [KX, KY, KZ, KW, KV, Nat.reduceAdd, Nat.reduceSub, Nat.reduceLeDiff, true_and, and_true, true_or, or_true, or_self, reduceCtorEq, if_true, if_false, not_false_eq_true, eq_self, c188, mt80, mt96, mt97, mtw, mtf, mtp, List.set_cons_succ, List.set_cons_zero, MFT, List.length_cons, List.length_nil, Nat.reduceLT, Nat.zero_add]
          refine y185 Y12 (by rw [List.length_append (bs := S), List.length_replicate]; have k2 := N.lt g2 (by omega); omega) (fun h13 Y13 => ?_)
          rw [popx_rep, pS, show i + 0 = i from rfl, drop_rep] at Y13
          have eM : tms (pOne (tq b n) (some c) k).2.2.2 = tms (c (k + i + 1)).2.2.2 ++ List.replicate i 40002 := by rw [pe]; show tms (_ ++ _) = _; rw [tms_app, tms_rep, pb]
          have Y14 := Y13
          obtain ⟨fr13, pe13, rfl, W13⟩ := Y13.at
          try (refine go 60 (by decide) ?_; simp only [KX, KY, KZ, KW, KV, Nat.reduceAdd, Nat.reduceSub, Nat.reduceLeDiff, true_and, and_true, true_or, or_true, or_self, reduceCtorEq, if_true, if_false, not_false_eq_true, eq_self, c188, mt80, mt96, mt97, mtw, mtf, mtp, List.set_cons_succ, List.set_cons_zero, MFT, List.length_cons, List.length_nil, Nat.reduceLT, Nat.zero_add])
          refine kT (by rw [pe]; show (pIn (tq b n) (some c) (k + i)).1 = true; rw [pb]) _ (by rw [eM, ← List.append_assoc, pe]; show MY hm b n (pIn (tq b n) (some c) (k + i)).2.1 _ _ _ _ _; rw [pb]; exact Y14) ?_
          rw [eM, pe]
          show _ ≤ (pIn (tq b n) (some c) (k + i)).2.1
          rw [pb, ← List.append_assoc, List.length_append, List.length_replicate]
          show _ ≤ (c (k + i + 1)).2.1 + 1
          omega
        · have pb : pIn (tq b n) (some c) (k + i) = (false, (c (k + i + 1)).2.1, (c (k + i + 1)).2.2.1, (c (k + i + 1)).2.2.2) := by rw [pin]; unfold pBr; rw [if_pos ok, if_neg y5]
          rw [if_neg y5]
          refine go 60 (by decide) ?_
          simp only [KX, KY, KZ, KW, KV, Nat.reduceAdd, Nat.reduceSub, Nat.reduceLeDiff, true_and, and_true, true_or, or_true, or_self, reduceCtorEq, if_true, if_false, not_false_eq_true, eq_self, c188, mt80, mt96, mt97, mtw, mtf, mtp, List.set_cons_succ, List.set_cons_zero, MFT, List.length_cons, List.length_nil, Nat.reduceLT, Nat.zero_add]
          refine go 60 (by decide) ?_
          simp only [KX, KY, KZ, KW, KV, Nat.reduceAdd, Nat.reduceSub, Nat.reduceLeDiff, true_and, and_true, true_or, or_true, or_self, reduceCtorEq, if_true, if_false, not_false_eq_true, eq_self, c188, mt80, mt96, mt97, mtw, mtf, mtp, List.set_cons_succ, List.set_cons_zero, MFT, List.length_cons, List.length_nil, Nat.reduceLT, Nat.zero_add]
          refine go 60 (by decide) ?_
          simp only [KX, KY, KZ, KW, KV, Nat.reduceAdd, Nat.reduceSub, Nat.reduceLeDiff, true_and, and_true, true_or, or_true, or_self, reduceCtorEq, if_true, if_false, not_false_eq_true, eq_self, c188, mt80, mt96, mt97, mtw, mtf, mtp, List.set_cons_succ, List.set_cons_zero, MFT, List.length_cons, List.length_nil, Nat.reduceLT, Nat.zero_add]
          exact kF (by rw [pe]; show (pIn (tq b n) (some c) (k + i)).1 = false; rw [pb]) _ _ _ _ (by rw [pe]; show MY hm b n (pIn (tq b n) (some c) (k + i)).2.1 _ _ _ _ _; rw [pb]; exact (W9 0 _).2)
      · have pb : pIn (tq b n) (some c) (k + i) = (c (k + i + 1)) := by rw [pin]; unfold pBr; rw [if_neg (by rw [ok]; exact Bool.false_ne_true)]
        exact kF (by rw [pe]; show (pIn (tq b n) (some c) (k + i)).1 = false; rw [pb]; exact ok) h6 o6 F2 S2 (by rw [pe]; show MY hm b n (pIn (tq b n) (some c) (k + i)).2.1 _ _ _ _ _; rw [pb]; exact Y6)
    · have pin : (pIn (tq b n) (some c) (k + i)) = pCmp (tq b n) (k + i) := if_neg y4
      rw [if_neg y4]
      refine go 60 (by decide) ?_
      simp only [KX, KY, KZ, KW, KV, Nat.reduceAdd, Nat.reduceSub, Nat.reduceLeDiff, true_and, and_true, true_or, or_true, or_self, reduceCtorEq, if_true, if_false, not_false_eq_true, eq_self, c188, mt80, mt96, mt97, mtw, mtf, mtp, List.set_cons_succ, List.set_cons_zero, MFT, List.length_cons, List.length_nil, Nat.reduceLT, Nat.zero_add]
      refine y187 X Y N ik (by rw [List.length_append, List.length_replicate]; omega) (fun ok h2 Y2 => ?_) (fun ok h2 F2 S2 Y2 => ?_)
      · obtain ⟨m3, l3⟩ := pCmp_3 ok
        rw [popx_rep, pS, Nat.add_zero, drop_rep] at Y2
        have eM : tms (pOne (tq b n) (some c) k).2.2.2 = tms (pCmp (tq b n) (k + i)).2.2.2 ++ List.replicate i 40002 := by rw [pe]; show tms (_ ++ _) = _; rw [tms_app, tms_rep, pin]
        have Y3 := Y2
        obtain ⟨fr2, pe2, rfl, W2⟩ := Y2.at
        try (refine go 60 (by decide) ?_; simp only [KX, KY, KZ, KW, KV, Nat.reduceAdd, Nat.reduceSub, Nat.reduceLeDiff, true_and, and_true, true_or, or_true, or_self, reduceCtorEq, if_true, if_false, not_false_eq_true, eq_self, c188, mt80, mt96, mt97, mtw, mtf, mtp, List.set_cons_succ, List.set_cons_zero, MFT, List.length_cons, List.length_nil, Nat.reduceLT, Nat.zero_add])
        refine kT (by rw [pe, pNot, pin]; exact ok) _ (by rw [eM, ← List.append_assoc, pe]; show MY hm b n (pIn (tq b n) (some c) (k + i)).2.1 _ _ _ _ _; rw [pin]; exact Y3) ?_
        rw [eM, pe]
        show _ ≤ (pIn (tq b n) (some c) (k + i)).2.1
        rw [pin, m3, List.length_append, List.length_append, List.length_replicate, l3]
        omega
      · have Y3 := Y2
        obtain ⟨fr2, pe2, rfl, W2⟩ := Y2.at
        refine go 60 (by decide) ?_
        simp only [KX, KY, KZ, KW, KV, Nat.reduceAdd, Nat.reduceSub, Nat.reduceLeDiff, true_and, and_true, true_or, or_true, or_self, reduceCtorEq, if_true, if_false, not_false_eq_true, eq_self, c188, mt80, mt96, mt97, mtw, mtf, mtp, List.set_cons_succ, List.set_cons_zero, MFT, List.length_cons, List.length_nil, Nat.reduceLT, Nat.zero_add]
        refine go 60 (by decide) ?_
        simp only [KX, KY, KZ, KW, KV, Nat.reduceAdd, Nat.reduceSub, Nat.reduceLeDiff, true_and, and_true, true_or, or_true, or_self, reduceCtorEq, if_true, if_false, not_false_eq_true, eq_self, c188, mt80, mt96, mt97, mtw, mtf, mtp, List.set_cons_succ, List.set_cons_zero, MFT, List.length_cons, List.length_nil, Nat.reduceLT, Nat.zero_add]
        exact kF (by rw [pe, pNot, pin]; exact ok) _ _ _ _ (by rw [pe]; show MY hm b n (pIn (tq b n) (some c) (k + i)).2.1 _ _ _ _ _; rw [pin]; exact Y3)
  have lp : ∀ f i hh, i + f = 200 → nots (tq b n) 200 k = i + nots (tq b n) f (k + i) → k + i ≤ K → MY hm b n (k + i) 1 0 F (List.replicate i 40002 ++ S) hh → WA Q 1 hh := by
    intro f
    induction f with
    | zero =>
      intro i hh ei en ik Y
      exact R i hh en ik (by rw [show k + i = K by omega, N.end_]; decide) Y
    | succ f ih =>
      intro i hh ei en ik Y
      have en : nots (tq b n) 200 k = i + if tq b n (k + i) = 262 then 1 + nots (tq b n) f (k + i + 1) else 0 := en
      by_cases y : tq b n (k + i) = 262
      · rw [if_pos y] at en
        have Yk := Y
        obtain ⟨fr, pe1, rfl, W0⟩ := Y.at
        have Y := Yk
        unfold WA
        refine go 60 (by decide) ?_
        simp only [KX, KY, KZ, KW, KV, Nat.reduceAdd, Nat.reduceSub, Nat.reduceLeDiff, true_and, and_true, true_or, or_true, or_self, reduceCtorEq, if_true, if_false, not_false_eq_true, eq_self, c188, mt80, mt96, mt97, mtw, mtf, mtp, List.set_cons_succ, List.set_cons_zero, MFT, List.length_cons, List.length_nil, Nat.reduceLT, Nat.zero_add]
        refine y179 Y X (a := 5) (by decide) ?_
        rw [if_pos (show tq b n (k + i) = 257 + 5 from y)]
        refine go 60 (by decide) ?_
        simp only [KX, KY, KZ, KW, KV, Nat.reduceAdd, Nat.reduceSub, Nat.reduceLeDiff, true_and, and_true, true_or, or_true, or_self, reduceCtorEq, if_true, if_false, not_false_eq_true, eq_self, c188, mt80, mt96, mt97, mtw, mtf, mtp, List.set_cons_succ, List.set_cons_zero, MFT, List.length_cons, List.length_nil, Nat.reduceLT, Nat.zero_add]
        have k1 := N.lt ik (by omega)
        refine y183 Y (by rw [List.length_append, List.length_replicate]; omega) (fun h2 Y2 => ?_)
        have Y3 := Y2
        obtain ⟨fr2, pe2, rfl, W2⟩ := Y2.at
        refine go 60 (by decide) ?_
        simp only [KX, KY, KZ, KW, KV, Nat.reduceAdd, Nat.reduceSub, Nat.reduceLeDiff, true_and, and_true, true_or, or_true, or_self, reduceCtorEq, if_true, if_false, not_false_eq_true, eq_self, c188, mt80, mt96, mt97, mtw, mtf, mtp, List.set_cons_succ, List.set_cons_zero, MFT, List.length_cons, List.length_nil, Nat.reduceLT, Nat.zero_add]
        refine y178 Y3 X (fun h4 Y4 => ?_)
        have Y5 := Y4
        obtain ⟨fr4, pe4, rfl, W4⟩ := Y4.at
        first
          | (with_reducible show At 188 _ 10 _ _ _ _)
          | (refine go 60 (by decide) ?_; simp only [KX, KY, KZ, KW, KV, Nat.reduceAdd, Nat.reduceSub, Nat.reduceLeDiff, true_and, and_true, true_or, or_true, or_self, reduceCtorEq, if_true, if_false, not_false_eq_true, eq_self, c188, mt80, mt96, mt97, mtw, mtf, mtp, List.set_cons_succ, List.set_cons_zero, MFT, List.length_cons, List.length_nil, Nat.reduceLT, Nat.zero_add])
        first
          | (with_reducible show At 188 _ 10 _ _ _ _)
          | (refine go 60 (by decide) ?_; simp only [KX, KY, KZ, KW, KV, Nat.reduceAdd, Nat.reduceSub, Nat.reduceLeDiff, true_and, and_true, true_or, or_true, or_self, reduceCtorEq, if_true, if_false, not_false_eq_true, eq_self, c188, mt80, mt96, mt97, mtw, mtf, mtp, List.set_cons_succ, List.set_cons_zero, MFT, List.length_cons, List.length_nil, Nat.reduceLT, Nat.zero_add])
        first
          | (with_reducible show At 188 _ 10 _ _ _ _)
          | (refine go 60 (by decide) ?_; simp only [KX, KY, KZ, KW, KV, Nat.reduceAdd, Nat.reduceSub, Nat.reduceLeDiff, true_and, and_true, true_or, or_true, or_self, reduceCtorEq, if_true, if_false, not_false_eq_true, eq_self, c188, mt80, mt96, mt97, mtw, mtf, mtp, List.set_cons_succ, List.set_cons_zero, MFT, List.length_cons, List.length_nil, Nat.reduceLT, Nat.zero_add])
        exact ih (i + 1) _ (by omega) (by rw [en, show k + (i + 1) = k + i + 1 by omega]; omega) k1 (by rw [List.replicate_succ, List.cons_append]; exact Y5)
      · rw [if_neg y, Nat.add_zero] at en
        exact R i hh en ik y Y
  exact lp 200 0 hh rfl (by rw [Nat.zero_add]; rfl) hk Y0
