/-! law: the Model reads ALL and COND -/
def MALL (hm : ma_H) (b : Nat → Nat) (n K : Nat) (o : Int32) (pX : Nat → PR) : Prop := ∀ (Q : ma_Q) (hh : ma_H) (k : Nat) (F S : List Int32), MY hm b n k 1 o F S hh → popx 40002 S = 0 → popx 40000 S = 0 → F.length + S.length ≤ k → k ≤ K → ((pX k).1 = true → ∀ h2 F2 S2, MY hm b n (pX k).2.1 1 o F2 S2 h2 → stl 40000 (F2, S2) = (F ++ tms (pX k).2.2.2, S) → F2.length + S2.length ≤ (pX k).2.1 → WA Q 0 h2) → ((pX k).1 = false → ∀ h2 o2 F2 S2, MY hm b n (pX k).2.1 0 o2 F2 S2 h2 → Q none h2) → WA Q 1 hh
theorem mAll {hm : ma_H} {b : Nat → Nat} {n K : Nat} {o : Int32} (X : MX hm b n) (N : TN b n K) {pI : Nat → PR} (gI : PG (tq b n) K pI) (mI : MONE hm b n K o pI) : MALL hm b n K o (fun k => (pLoop (tq b n) 261 tkA pI 200 (pI k))) := by
  intro Q hh k F S Y0 pN pA l hk kT kF
  have K2 := N.1
  have kT : (pLoop (tq b n) 261 tkA pI 200 (pI k)).1 = true → ∀ h2 F2 S2, MY hm b n (pLoop (tq b n) 261 tkA pI 200 (pI k)).2.1 1 o F2 S2 h2 → stl 40000 (F2, S2) = (F ++ tms (pLoop (tq b n) 261 tkA pI 200 (pI k)).2.2.2, S) → F2.length + S2.length ≤ (pLoop (tq b n) 261 tkA pI 200 (pI k)).2.1 → WA Q 0 h2 := kT
  have kF : (pLoop (tq b n) 261 tkA pI 200 (pI k)).1 = false → ∀ h2 o2 F2 S2, MY hm b n (pLoop (tq b n) 261 tkA pI 200 (pI k)).2.1 0 o2 F2 S2 h2 → Q none h2 := kF
  have lp : ∀ f (r : PR) h2 F2 S2, pLoop (tq b n) 261 tkA pI f r = (pLoop (tq b n) 261 tkA pI 200 (pI k)) → K ≤ r.2.1 + f → r.1 = true → MY hm b n r.2.1 1 o F2 S2 h2 → stl 40000 (F2, S2) = (F ++ tms r.2.2.2, S) → F2.length + S2.length ≤ r.2.1 → r.2.1 ≤ K → WA Q 0 h2 := by
    intro f
    induction f with
    | zero =>
      intro r h2 F2 S2 er fu ok Y es l2 rk
      have er : r = (pLoop (tq b n) 261 tkA pI 200 (pI k)) := er
      exact kT (by rw [← er]; exact ok) h2 F2 S2 (by rw [← er]; exact Y) (by rw [← er]; exact es) (by rw [← er]; exact l2)
    | succ f ih =>
      intro r h2 F2 S2 er fu ok Y es l2 rk
      by_cases y : tq b n r.2.1 = 261
      · rw [pLoop_go ok y] at er
        have k4 := N.lt rk (by omega)
        obtain ⟨g1, g2, g3⟩ := gI _ k4
        have Yk := Y
        obtain ⟨fr1, pe1, rfl, W1⟩ := Y.at
        unfold WA
        refine go 60 (by decide) ?_
        simp only [KX, KY, KZ, KW, KV, Nat.reduceAdd, Nat.reduceSub, Nat.reduceLeDiff, true_and, and_true, true_or, or_true, or_self, reduceCtorEq, if_true, if_false, not_false_eq_true, eq_self, c188, mt80, mt96, mt97, mtw, mtf, mtp, List.set_cons_succ, List.set_cons_zero, MFT, List.length_cons, List.length_nil, Nat.reduceLT, Nat.zero_add]
        refine y179 Yk X (a := 4) (by decide) ?_
        rw [if_pos (show tq b n r.2.1 = 257 + 4 from y)]
        refine go 60 (by decide) ?_
        simp only [KX, KY, KZ, KW, KV, Nat.reduceAdd, Nat.reduceSub, Nat.reduceLeDiff, true_and, and_true, true_or, or_true, or_self, reduceCtorEq, if_true, if_false, not_false_eq_true, eq_self, c188, mt80, mt96, mt97, mtw, mtf, mtp, List.set_cons_succ, List.set_cons_zero, MFT, List.length_cons, List.length_nil, Nat.reduceLT, Nat.zero_add]
        refine y185 Yk (by omega) (fun h3 Y3 => ?_)
        have Y3 : MY hm b n r.2.1 1 o (F ++ tms r.2.2.2) S h3 := by
          have e1 := congrArg (fun r : List Int32 × List Int32 => r.1) es
          have e2 := congrArg (fun r : List Int32 × List Int32 => r.2) es
          unfold stl at e1 e2
          dsimp only at e1 e2
          rw [← e1, ← e2]
          exact Y3
        have l3 : (F ++ tms r.2.2.2).length + S.length ≤ r.2.1 := by
          have a2 := stl_len (x := 40000) (r := (F2, S2))
          rw [es] at a2
          dsimp only at a2
          omega
        have Y4 := Y3
        obtain ⟨fr3, pe3, rfl, W3⟩ := Y3.at
        refine go 60 (by decide) ?_
        simp only [KX, KY, KZ, KW, KV, Nat.reduceAdd, Nat.reduceSub, Nat.reduceLeDiff, true_and, and_true, true_or, or_true, or_self, reduceCtorEq, if_true, if_false, not_false_eq_true, eq_self, c188, mt80, mt96, mt97, mtw, mtf, mtp, List.set_cons_succ, List.set_cons_zero, MFT, List.length_cons, List.length_nil, Nat.reduceLT, Nat.zero_add]
        refine y179 Y4 X (a := 4) (by decide) ?_
        rw [if_pos (show tq b n r.2.1 = 257 + 4 from y)]
        refine go 60 (by decide) ?_
        simp only [KX, KY, KZ, KW, KV, Nat.reduceAdd, Nat.reduceSub, Nat.reduceLeDiff, true_and, and_true, true_or, or_true, or_self, reduceCtorEq, if_true, if_false, not_false_eq_true, eq_self, c188, mt80, mt96, mt97, mtw, mtf, mtp, List.set_cons_succ, List.set_cons_zero, MFT, List.length_cons, List.length_nil, Nat.reduceLT, Nat.zero_add]
        first
          | (with_reducible show At 188 _ 90 _ _ _ _)
          | (refine go 60 (by decide) ?_; simp only [KX, KY, KZ, KW, KV, Nat.reduceAdd, Nat.reduceSub, Nat.reduceLeDiff, true_and, and_true, true_or, or_true, or_self, reduceCtorEq, if_true, if_false, not_false_eq_true, eq_self, c188, mt80, mt96, mt97, mtw, mtf, mtp, List.set_cons_succ, List.set_cons_zero, MFT, List.length_cons, List.length_nil, Nat.reduceLT, Nat.zero_add])
        first
          | (with_reducible show At 188 _ 90 _ _ _ _)
          | (refine go 60 (by decide) ?_; simp only [KX, KY, KZ, KW, KV, Nat.reduceAdd, Nat.reduceSub, Nat.reduceLeDiff, true_and, and_true, true_or, or_true, or_self, reduceCtorEq, if_true, if_false, not_false_eq_true, eq_self, c188, mt80, mt96, mt97, mtw, mtf, mtp, List.set_cons_succ, List.set_cons_zero, MFT, List.length_cons, List.length_nil, Nat.reduceLT, Nat.zero_add])
        first
          | (with_reducible show At 188 _ 90 _ _ _ _)
          | (refine go 60 (by decide) ?_; simp only [KX, KY, KZ, KW, KV, Nat.reduceAdd, Nat.reduceSub, Nat.reduceLeDiff, true_and, and_true, true_or, or_true, or_self, reduceCtorEq, if_true, if_false, not_false_eq_true, eq_self, c188, mt80, mt96, mt97, mtw, mtf, mtp, List.set_cons_succ, List.set_cons_zero, MFT, List.length_cons, List.length_nil, Nat.reduceLT, Nat.zero_add])
        refine go 60 (by decide) ?_
        simp only [KX, KY, KZ, KW, KV, Nat.reduceAdd, Nat.reduceSub, Nat.reduceLeDiff, true_and, and_true, true_or, or_true, or_self, reduceCtorEq, if_true, if_false, not_false_eq_true, eq_self, c188, mt80, mt96, mt97, mtw, mtf, mtp, List.set_cons_succ, List.set_cons_zero, MFT, List.length_cons, List.length_nil, Nat.reduceLT, Nat.zero_add]
        refine y183 Y4 (by omega) (fun h5 Y5 => ?_)
        have Y5k := Y5
        obtain ⟨fr5, pe5, rfl, W5⟩ := Y5.at
        refine go 60 (by decide) ?_
        simp only [KX, KY, KZ, KW, KV, Nat.reduceAdd, Nat.reduceSub, Nat.reduceLeDiff, true_and, and_true, true_or, or_true, or_self, reduceCtorEq, if_true, if_false, not_false_eq_true, eq_self, c188, mt80, mt96, mt97, mtw, mtf, mtp, List.set_cons_succ, List.set_cons_zero, MFT, List.length_cons, List.length_nil, Nat.reduceLT, Nat.zero_add]
        refine y178 Y5k X (fun h8 Y8 => ?_)
        have Y8k := Y8
        obtain ⟨fr8, pe8, rfl, W8⟩ := Y8.at
        first
          | (with_reducible show At 188 _ 10 _ _ _ _)
          | (refine go 60 (by decide) ?_; simp only [KX, KY, KZ, KW, KV, Nat.reduceAdd, Nat.reduceSub, Nat.reduceLeDiff, true_and, and_true, true_or, or_true, or_self, reduceCtorEq, if_true, if_false, not_false_eq_true, eq_self, c188, mt80, mt96, mt97, mtw, mtf, mtp, List.set_cons_succ, List.set_cons_zero, MFT, List.length_cons, List.length_nil, Nat.reduceLT, Nat.zero_add])
        first
          | (with_reducible show At 188 _ 10 _ _ _ _)
          | (refine go 60 (by decide) ?_; simp only [KX, KY, KZ, KW, KV, Nat.reduceAdd, Nat.reduceSub, Nat.reduceLeDiff, true_and, and_true, true_or, or_true, or_self, reduceCtorEq, if_true, if_false, not_false_eq_true, eq_self, c188, mt80, mt96, mt97, mtw, mtf, mtp, List.set_cons_succ, List.set_cons_zero, MFT, List.length_cons, List.length_nil, Nat.reduceLT, Nat.zero_add])
        first
          | (with_reducible show At 188 _ 10 _ _ _ _)
          | (refine go 60 (by decide) ?_; simp only [KX, KY, KZ, KW, KV, Nat.reduceAdd, Nat.reduceSub, Nat.reduceLeDiff, true_and, and_true, true_or, or_true, or_self, reduceCtorEq, if_true, if_false, not_false_eq_true, eq_self, c188, mt80, mt96, mt97, mtw, mtf, mtp, List.set_cons_succ, List.set_cons_zero, MFT, List.length_cons, List.length_nil, Nat.reduceLT, Nat.zero_add])
        refine At_le (show WA Q 1 _ from ?_) ⟨rfl, rfl, rfl, rfl, rfl, rfl, trivial⟩
        refine mI Q _ (r.2.1 + 1) (F ++ tms r.2.2.2) (40000 :: S) Y8k (popx_ne (by decide)) (by rw [List.length_cons]; omega) k4 (fun ok9 h9 Y9 l9 => ?_) (fun ok9 h9 o9 F9 S9 Y9 => ?_)
        · have eM : F ++ tms (r.2.2.2 ++ (pI (r.2.1 + 1)).2.2.2 ++ [tkA]) = F ++ tms r.2.2.2 ++ tms (pI (r.2.1 + 1)).2.2.2 ++ [40000] := by rw [tms_app, tms_app, ← List.append_assoc, ← List.append_assoc]; rfl
          exact ih _ h9 _ _ er (by show K ≤ (pI (r.2.1 + 1)).2.1 + f; omega) ok9 Y9 (by show _ = (F ++ tms (r.2.2.2 ++ (pI (r.2.1 + 1)).2.2.2 ++ [tkA]), S); rw [eM, stl_1 pA]) (by rw [List.length_cons] at *; exact l9) g2
        · rw [pLoop_stop f _ (by show (pI (r.2.1 + 1)).1 = false; exact ok9)] at er
          exact kF (by rw [← er]; exact ok9) h9 o9 F9 S9 (by rw [← er]; exact Y9)
      · rw [pLoop_end y] at er
        exact kT (by rw [← er]; exact ok) h2 F2 S2 (by rw [← er]; exact Y) (by rw [← er]; exact es) (by rw [← er]; exact l2)
  obtain ⟨g1, g2, g3⟩ := gI _ hk
  refine mI Q hh k F S Y0 pN l hk (fun ok h2 Y2 l2 => lp 200 (pI k) h2 _ _ rfl (by omega) ok Y2 (stl_0 pA) l2 g2) (fun ok h2 o2 F2 S2 Y2 => kF (by rw [pLoop_stop _ _ ok]; exact ok) h2 o2 F2 S2 (by rw [pLoop_stop _ _ ok]; exact Y2))
theorem mCnd {hm : ma_H} {b : Nat → Nat} {n K : Nat} {o : Int32} (X : MX hm b n) (N : TN b n K) {pI : Nat → PR} (gI : PG (tq b n) K pI) (nI_ : ∀ j, j ≤ K → (pI j).1 = true → tq b n (pI j).2.1 ≠ 261) (mI : MALL hm b n K o pI) : MCND hm b n K o (fun k => (pLoop (tq b n) 260 tkO pI 200 (pI k))) := by
  intro Q hh k F S Y0 pN pA pO l hk kT kF
  have K2 := N.1
  have kT : (pLoop (tq b n) 260 tkO pI 200 (pI k)).1 = true → ∀ h2 F2 S2, MY hm b n (pLoop (tq b n) 260 tkO pI 200 (pI k)).2.1 1 o F2 S2 h2 → stl 40001 (stl 40000 (F2, S2)) = (F ++ tms (pLoop (tq b n) 260 tkO pI 200 (pI k)).2.2.2, S) → F2.length + S2.length ≤ (pLoop (tq b n) 260 tkO pI 200 (pI k)).2.1 → WA Q 0 h2 := kT
  have kF : (pLoop (tq b n) 260 tkO pI 200 (pI k)).1 = false → ∀ h2 o2 F2 S2, MY hm b n (pLoop (tq b n) 260 tkO pI 200 (pI k)).2.1 0 o2 F2 S2 h2 → Q none h2 := kF
  have lp : ∀ f (r : PR) h2 F2 S2, pLoop (tq b n) 260 tkO pI f r = (pLoop (tq b n) 260 tkO pI 200 (pI k)) → K ≤ r.2.1 + f → r.1 = true → MY hm b n r.2.1 1 o F2 S2 h2 → stl 40001 (stl 40000 (F2, S2)) = (F ++ tms r.2.2.2, S) → F2.length + S2.length ≤ r.2.1 → r.2.1 ≤ K → tq b n r.2.1 ≠ 261 → WA Q 0 h2 := by
    intro f
    induction f with
    | zero =>
      intro r h2 F2 S2 er fu ok Y es l2 rk iv
      have er : r = (pLoop (tq b n) 260 tkO pI 200 (pI k)) := er
      exact kT (by rw [← er]; exact ok) h2 F2 S2 (by rw [← er]; exact Y) (by rw [← er]; exact es) (by rw [← er]; exact l2)
    | succ f ih =>
      intro r h2 F2 S2 er fu ok Y es l2 rk iv
      by_cases y : tq b n r.2.1 = 260
      · rw [pLoop_go ok y] at er
        have k4 := N.lt rk (by omega)
        obtain ⟨g1, g2, g3⟩ := gI _ k4
        have Yk := Y
        obtain ⟨fr1, pe1, rfl, W1⟩ := Y.at
        unfold WA
        refine go 60 (by decide) ?_
        simp only [KX, KY, KZ, KW, KV, Nat.reduceAdd, Nat.reduceSub, Nat.reduceLeDiff, true_and, and_true, true_or, or_true, or_self, reduceCtorEq, if_true, if_false, not_false_eq_true, eq_self, c188, mt80, mt96, mt97, mtw, mtf, mtp, List.set_cons_succ, List.set_cons_zero, MFT, List.length_cons, List.length_nil, Nat.reduceLT, Nat.zero_add]
        refine y179 Yk X (a := 4) (by decide) ?_
        rw [if_neg (show ¬ tq b n r.2.1 = 257 + 4 from iv)]
        refine go 60 (by decide) ?_
        simp only [KX, KY, KZ, KW, KV, Nat.reduceAdd, Nat.reduceSub, Nat.reduceLeDiff, true_and, and_true, true_or, or_true, or_self, reduceCtorEq, if_true, if_false, not_false_eq_true, eq_self, c188, mt80, mt96, mt97, mtw, mtf, mtp, List.set_cons_succ, List.set_cons_zero, MFT, List.length_cons, List.length_nil, Nat.reduceLT, Nat.zero_add]
        refine y179 Yk X (a := 3) (by decide) ?_
        rw [if_pos (show tq b n r.2.1 = 257 + 3 from y)]
        refine go 60 (by decide) ?_
        simp only [KX, KY, KZ, KW, KV, Nat.reduceAdd, Nat.reduceSub, Nat.reduceLeDiff, true_and, and_true, true_or, or_true, or_self, reduceCtorEq, if_true, if_false, not_false_eq_true, eq_self, c188, mt80, mt96, mt97, mtw, mtf, mtp, List.set_cons_succ, List.set_cons_zero, MFT, List.length_cons, List.length_nil, Nat.reduceLT, Nat.zero_add]
        refine y185 Yk (by omega) (fun h6 Y6 => ?_)
        have h185 : (F2 ++ List.replicate (popx 40000 S2) 40000).length + (S2.drop (popx 40000 S2)).length = F2.length + S2.length := stl_len (x := 40000) (r := (F2, S2))
        have Y7 := Y6
        obtain ⟨fr6, pe6, rfl, W6⟩ := Y6.at
        refine go 60 (by decide) ?_
        simp only [KX, KY, KZ, KW, KV, Nat.reduceAdd, Nat.reduceSub, Nat.reduceLeDiff, true_and, and_true, true_or, or_true, or_self, reduceCtorEq, if_true, if_false, not_false_eq_true, eq_self, c188, mt80, mt96, mt97, mtw, mtf, mtp, List.set_cons_succ, List.set_cons_zero, MFT, List.length_cons, List.length_nil, Nat.reduceLT, Nat.zero_add]
        refine y179 Y7 X (a := 4) (by decide) ?_
        rw [if_neg (show ¬ tq b n r.2.1 = 257 + 4 from iv)]
        refine go 60 (by decide) ?_
        simp only [KX, KY, KZ, KW, KV, Nat.reduceAdd, Nat.reduceSub, Nat.reduceLeDiff, true_and, and_true, true_or, or_true, or_self, reduceCtorEq, if_true, if_false, not_false_eq_true, eq_self, c188, mt80, mt96, mt97, mtw, mtf, mtp, List.set_cons_succ, List.set_cons_zero, MFT, List.length_cons, List.length_nil, Nat.reduceLT, Nat.zero_add]
        refine y185 Y7 (by omega) (fun h3 Y3 => ?_)
        have Y3 : MY hm b n r.2.1 1 o (F ++ tms r.2.2.2) S h3 := by
          have e1 := congrArg (fun r : List Int32 × List Int32 => r.1) es
          have e2 := congrArg (fun r : List Int32 × List Int32 => r.2) es
          unfold stl at e1 e2
          dsimp only at e1 e2
          rw [← e1, ← e2]
          exact Y3
        have l3 : (F ++ tms r.2.2.2).length + S.length ≤ r.2.1 := by
          have a1 := stl_len (x := 40001) (r := stl 40000 (F2, S2))
          have a2 := stl_len (x := 40000) (r := (F2, S2))
          rw [es, a2] at a1
          dsimp only at a1
          omega
        have Y4 := Y3
        obtain ⟨fr3, pe3, rfl, W3⟩ := Y3.at
        refine go 60 (by decide) ?_
        simp only [KX, KY, KZ, KW, KV, Nat.reduceAdd, Nat.reduceSub, Nat.reduceLeDiff, true_and, and_true, true_or, or_true, or_self, reduceCtorEq, if_true, if_false, not_false_eq_true, eq_self, c188, mt80, mt96, mt97, mtw, mtf, mtp, List.set_cons_succ, List.set_cons_zero, MFT, List.length_cons, List.length_nil, Nat.reduceLT, Nat.zero_add]
        first
          | (with_reducible show At 188 _ 90 _ _ _ _)
          | (refine go 60 (by decide) ?_; simp only [KX, KY, KZ, KW, KV, Nat.reduceAdd, Nat.reduceSub, Nat.reduceLeDiff, true_and, and_true, true_or, or_true, or_self, reduceCtorEq, if_true, if_false, not_false_eq_true, eq_self, c188, mt80, mt96, mt97, mtw, mtf, mtp, List.set_cons_succ, List.set_cons_zero, MFT, List.length_cons, List.length_nil, Nat.reduceLT, Nat.zero_add])
        first
          | (with_reducible show At 188 _ 90 _ _ _ _)
          | (refine go 60 (by decide) ?_; simp only [KX, KY, KZ, KW, KV, Nat.reduceAdd, Nat.reduceSub, Nat.reduceLeDiff, true_and, and_true, true_or, or_true, or_self, reduceCtorEq, if_true, if_false, not_false_eq_true, eq_self, c188, mt80, mt96, mt97, mtw, mtf, mtp, List.set_cons_succ, List.set_cons_zero, MFT, List.length_cons, List.length_nil, Nat.reduceLT, Nat.zero_add])
        first
          | (with_reducible show At 188 _ 90 _ _ _ _)
          | (refine go 60 (by decide) ?_; simp only [KX, KY, KZ, KW, KV, Nat.reduceAdd, Nat.reduceSub, Nat.reduceLeDiff, true_and, and_true, true_or, or_true, or_self, reduceCtorEq, if_true, if_false, not_false_eq_true, eq_self, c188, mt80, mt96, mt97, mtw, mtf, mtp, List.set_cons_succ, List.set_cons_zero, MFT, List.length_cons, List.length_nil, Nat.reduceLT, Nat.zero_add])
        refine go 60 (by decide) ?_
        simp only [KX, KY, KZ, KW, KV, Nat.reduceAdd, Nat.reduceSub, Nat.reduceLeDiff, true_and, and_true, true_or, or_true, or_self, reduceCtorEq, if_true, if_false, not_false_eq_true, eq_self, c188, mt80, mt96, mt97, mtw, mtf, mtp, List.set_cons_succ, List.set_cons_zero, MFT, List.length_cons, List.length_nil, Nat.reduceLT, Nat.zero_add]
        refine y183 Y4 (by omega) (fun h5 Y5 => ?_)
        have Y5k := Y5
        obtain ⟨fr5, pe5, rfl, W5⟩ := Y5.at
        refine go 60 (by decide) ?_
        simp only [KX, KY, KZ, KW, KV, Nat.reduceAdd, Nat.reduceSub, Nat.reduceLeDiff, true_and, and_true, true_or, or_true, or_self, reduceCtorEq, if_true, if_false, not_false_eq_true, eq_self, c188, mt80, mt96, mt97, mtw, mtf, mtp, List.set_cons_succ, List.set_cons_zero, MFT, List.length_cons, List.length_nil, Nat.reduceLT, Nat.zero_add]
        refine y178 Y5k X (fun h8 Y8 => ?_)
        have Y8k := Y8
        obtain ⟨fr8, pe8, rfl, W8⟩ := Y8.at
        first
          | (with_reducible show At 188 _ 10 _ _ _ _)
          | (refine go 60 (by decide) ?_; simp only [KX, KY, KZ, KW, KV, Nat.reduceAdd, Nat.reduceSub, Nat.reduceLeDiff, true_and, and_true, true_or, or_true, or_self, reduceCtorEq, if_true, if_false, not_false_eq_true, eq_self, c188, mt80, mt96, mt97, mtw, mtf, mtp, List.set_cons_succ, List.set_cons_zero, MFT, List.length_cons, List.length_nil, Nat.reduceLT, Nat.zero_add])
        first
          | (with_reducible show At 188 _ 10 _ _ _ _)
          | (refine go 60 (by decide) ?_; simp only [KX, KY, KZ, KW, KV, Nat.reduceAdd, Nat.reduceSub, Nat.reduceLeDiff, true_and, and_true, true_or, or_true, or_self, reduceCtorEq, if_true, if_false, not_false_eq_true, eq_self, c188, mt80, mt96, mt97, mtw, mtf, mtp, List.set_cons_succ, List.set_cons_zero, MFT, List.length_cons, List.length_nil, Nat.reduceLT, Nat.zero_add])
        first
          | (with_reducible show At 188 _ 10 _ _ _ _)
          | (refine go 60 (by decide) ?_; simp only [KX, KY, KZ, KW, KV, Nat.reduceAdd, Nat.reduceSub, Nat.reduceLeDiff, true_and, and_true, true_or, or_true, or_self, reduceCtorEq, if_true, if_false, not_false_eq_true, eq_self, c188, mt80, mt96, mt97, mtw, mtf, mtp, List.set_cons_succ, List.set_cons_zero, MFT, List.length_cons, List.length_nil, Nat.reduceLT, Nat.zero_add])
        refine At_le (show WA Q 1 _ from ?_) ⟨rfl, rfl, rfl, rfl, rfl, rfl, trivial⟩
        refine mI Q _ (r.2.1 + 1) (F ++ tms r.2.2.2) (40001 :: S) Y8k (popx_ne (by decide)) (popx_ne (by decide)) (by rw [List.length_cons]; omega) k4 (fun ok9 h9 F9 S9 Y9 e9 l9 => ?_) (fun ok9 h9 o9 F9 S9 Y9 => ?_)
        · have eM : F ++ tms (r.2.2.2 ++ (pI (r.2.1 + 1)).2.2.2 ++ [tkO]) = F ++ tms r.2.2.2 ++ tms (pI (r.2.1 + 1)).2.2.2 ++ [40001] := by rw [tms_app, tms_app, ← List.append_assoc, ← List.append_assoc]; rfl
          exact ih _ h9 _ _ er (by show K ≤ (pI (r.2.1 + 1)).2.1 + f; omega) ok9 Y9 (by show _ = (F ++ tms (r.2.2.2 ++ (pI (r.2.1 + 1)).2.2.2 ++ [tkO]), S); rw [eM, e9, stl_1 pO]) l9 g2 (nI_ _ k4 ok9)
        · rw [pLoop_stop f _ (by show (pI (r.2.1 + 1)).1 = false; exact ok9)] at er
          exact kF (by rw [← er]; exact ok9) h9 o9 F9 S9 (by rw [← er]; exact Y9)
      · rw [pLoop_end y] at er
        exact kT (by rw [← er]; exact ok) h2 F2 S2 (by rw [← er]; exact Y) (by rw [← er]; exact es) (by rw [← er]; exact l2)
  obtain ⟨g1, g2, g3⟩ := gI _ hk
  refine mI Q hh k F S Y0 pN pA l hk (fun ok h2 F2 S2 Y2 e2 l2 => lp 200 (pI k) h2 _ _ rfl (by omega) ok Y2 (by rw [e2, stl_0 pO]) l2 g2 (nI_ _ hk ok)) (fun ok h2 o2 F2 S2 Y2 => kF (by rw [pLoop_stop _ _ ok]; exact ok) h2 o2 F2 S2 (by rw [pLoop_stop _ _ ok]; exact Y2))
