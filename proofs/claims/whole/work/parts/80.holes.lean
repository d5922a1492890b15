/-! holes: the Model -/
def o01 (r : Nat → Int32) : Prop := ∀ i, i < 91 → r i = 0 ∨ r i = 1
def osub (g r : Nat → Int32) : Prop := ∀ S, clS g S → ∀ i, i < 91 → r i = 1 → S i
def oini (g r : Nat → Int32) : Prop := ∀ i, i < 91 → fl_ring i = 5 → g i = -1 → r i = 1
def ocl (g r : Nat → Int32) (n : Nat) : Prop := ∀ i, i < n → g i = -1 → (∃ j o, j < 6 ∧ o < 91 ∧ fl_nb i j = ma_cell o ∧ r o = 1) → r i = 1
theorem ocl_cls {g r : Nat → Int32} (a : oini g r) (b : ocl g r 91) : clS g (fun i => r i = 1) := fun i hi c o => o.elim (fun w => a i hi w c) (fun w => b i hi c w)
def bcm (g r : Nat → Int32) (i : Nat) : Int32 := if r i = 0 then if g i < 0 then 1 else 0 else 0
def oin (g : Nat → Int32) (i : Nat) : Int32 := if fl_ring i = 5 then if g i < 0 then 1 else 0 else 0
theorem oin01 (g : Nat → Int32) (i : Nat) : oin g i = 0 ∨ oin g i = 1 := by
  unfold oin
  split
  · split
    · exact Or.inr rfl
    · exact Or.inl rfl
  · exact Or.inl rfl
theorem bcm01 (g r : Nat → Int32) (i : Nat) : bcm g r i = 0 ∨ bcm g r i = 1 := by
  unfold bcm
  split
  · split
    · exact Or.inr rfl
    · exact Or.inl rfl
  · exact Or.inl rfl
theorem upd_i {r : Nat → Int32} {i j : Nat} {v : Int32} : upd r i v j = if j = i then v else r j := rfl
theorem o01_up {r : Nat → Int32} {i : Nat} (h : o01 r) : o01 (upd r i 1) := by
  intro j hj
  rw [upd_i]
  split
  · exact Or.inr rfl
  · exact h j hj
theorem oini_up {g r : Nat → Int32} {i : Nat} (h : oini g r) : oini g (upd r i 1) := by
  intro j hj a b
  rw [upd_i]
  split
  · rfl
  · exact h j hj a b
theorem osub_up {g r : Nat → Int32} {i : Nat} (hi : i < 91) (hb : g i = -1) (w : ∃ j o, j < 6 ∧ o < 91 ∧ fl_nb i j = ma_cell o ∧ r o = 1) (h : osub g r) : osub g (upd r i 1) := by
  intro S c j hj e
  rw [upd_i] at e
  by_cases z : j = i
  · subst z
    obtain ⟨k, o, hk, ho, e1, e2⟩ := w
    exact c j hj hb (Or.inr ⟨k, o, hk, ho, e1, h S c o ho e2⟩)
  · rw [if_neg z] at e
    exact h S c j hj e
/-- both sides' sets are one -/
theorem bc_eq {g r q : Nat → Int32} (hg : ∀ i, i < 91 → g i = -1 ∨ ¬ g i < 0) (a1 : rc01 r) (a2 : rsub g r) (a3 : rcl g r 91) (b1 : o01 q) (b2 : osub g q) (b3 : clS g (fun i => q i = 1)) : su (bc g r) 91 = su (bcm g q) 91 := by
  refine su_congr 91 fun i hi => ?_
  have e1 : r (ma_cell i) = 1 → q i = 1 := a2 _ b3 i hi
  have e2 : q i = 1 → r (ma_cell i) = 1 := b2 _ (rcl_cls a3) i hi
  have e3 : r (ma_cell i) = q i := by
    rcases a1 i hi with c | c
    · rcases b1 i hi with d | d
      · rw [c, d]
      · rw [e2 d, d]
    · rw [c, e1 c]
  unfold bc bcm
  rw [e3]
  rcases hg i hi with c | c
  · rw [if_pos c, if_pos (show g i < 0 by rw [c]; decide)]
  · rw [if_neg c, if_neg (fun x => c (by rw [x]; decide))]
    split <;> rfl
theorem s197 {h : ma_H} {Q : ma_Q} {A : Nat} (H : Sh h) (R : Rt h) (hA : A + 91 ≤ 910) (hb : ∀ i, i < 91 → ai h 88 (A + i) = -1 ∨ ¬ ai h 88 (A + i) < 0) (k : ∀ r, o01 r → osub (fun i => ai h 88 (A + i)) r → clS (fun i => ai h 88 (A + i)) (fun i => r i = 1) → Q (some (.int (su (bcm (fun i => ai h 88 (A + i)) r) 91))) (ma_set h 100 (.inl (.boolean, 91, .inl r)))) : ma_X 197 [.ref 80, .int (nI A)] h Q := by
  have hs : ∀ g, Sh (ma_set h 100 (.inl (.boolean, 91, .inl g))) := fun g => sh_set H rfl
  have v0 : vp_nar .boolean 0 = 0 := by decide
  have v1 : vp_nar .boolean 1 = 1 := by decide
  have cf : ∀ r : Nat → Int32, o01 r → osub (fun i => ai h 88 (A + i)) r → clS (fun i => ai h 88 (A + i)) (fun i => r i = 1) → At 197 Q 83 (0, 0) [some (.ref 80), some (.int (nI A)), none, some (.int 0), some (.int (nI 0)), none] [] (ma_set h 100 (.inl (.boolean, 91, .inl r))) := by
    intro r w1 w2 w3
    have lp : ∀ ni i, i + ni = 91 → At 197 Q 83 (0, 0) [some (.ref 80), some (.int (nI A)), none, some (.int (su (bcm (fun i => ai h 88 (A + i)) r) i)), some (.int (nI i)), none] [] (ma_set h 100 (.inl (.boolean, 91, .inl r))) := by
      intro ni
      induction ni with
      | zero =>
        intro i e
        obtain rfl : i = 91 := by omega
        refine go 60 (by decide) ?_
        simp only [KX, KY, KZ, KW, KV, Nat.reduceAdd, Nat.reduceSub, Nat.reduceLeDiff, true_and, and_true, true_or, or_true, or_self, reduceCtorEq, if_true, if_false, not_false_eq_true, eq_self, c197, (hs _).e80, (hs _).e83, (hs _).e86, (hs _).e100, ai_at, v0, v1]
        rw [if_neg (show ¬ nI 91 < (91 : Int32) from nI_nlt (Nat.le_refl _) (by decide))]
        exact k r w1 w2 w3
      | succ ni ih =>
        intro i e
        have hi : i < 91 := by omega
        have e1i := nI_1 i
        refine go 60 (by decide) ?_
        simp only [KX, KY, KZ, KW, KV, Nat.reduceAdd, Nat.reduceSub, Nat.reduceLeDiff, true_and, and_true, true_or, or_true, or_self, reduceCtorEq, if_true, if_false, not_false_eq_true, eq_self, c197, (hs _).e80, (hs _).e83, (hs _).e86, (hs _).e100, ai_at, v0, v1]
        rw [if_pos (show nI i < (91 : Int32) from nI_lt hi (by decide))]
        rw [nI_clamp (show i < 2 ^ 31 by omega)]
        refine ⟨nI_in hi (by decide), ?_⟩
        rcases w1 i hi with c | c
        · rw [if_pos c]
          refine s172 (A := A) (hs _).e80 rfl (hs _).e88 (by omega) ?_
          rw [ai_ne _ _ (show 88 ≠ 100 by decide)]
          by_cases b : ai h 88 (A + i) < 0
          · rw [show fl_has (ai h 88) (A + i) = 0 from if_pos b]
            have e2 : su (bcm (fun i => ai h 88 (A + i)) r) (i + 1) = su (bcm (fun i => ai h 88 (A + i)) r) i + 1 := by
              show su (bcm (fun i => ai h 88 (A + i)) r) i + bcm (fun i => ai h 88 (A + i)) r i = _
              rw [show bcm (fun i => ai h 88 (A + i)) r i = 1 from (if_pos c).trans (if_pos b)]
            have ih2 := ih (i + 1) (by omega)
            rw [e2] at ih2
            first
              | (with_reducible show At 197 _ 83 _ _ _ _)
              | (refine go 60 (by decide) ?_; simp only [KX, KY, KZ, KW, KV, Nat.reduceAdd, Nat.reduceSub, Nat.reduceLeDiff, true_and, and_true, true_or, or_true, or_self, reduceCtorEq, if_true, if_false, not_false_eq_true, eq_self, c197, (hs _).e80, (hs _).e83, (hs _).e86, (hs _).e100, ai_at, v0, v1])
            first
              | (with_reducible show At 197 _ 83 _ _ _ _)
              | (refine go 60 (by decide) ?_; simp only [KX, KY, KZ, KW, KV, Nat.reduceAdd, Nat.reduceSub, Nat.reduceLeDiff, true_and, and_true, true_or, or_true, or_self, reduceCtorEq, if_true, if_false, not_false_eq_true, eq_self, c197, (hs _).e80, (hs _).e83, (hs _).e86, (hs _).e100, ai_at, v0, v1])
            first
              | (with_reducible show At 197 _ 83 _ _ _ _)
              | (refine go 60 (by decide) ?_; simp only [KX, KY, KZ, KW, KV, Nat.reduceAdd, Nat.reduceSub, Nat.reduceLeDiff, true_and, and_true, true_or, or_true, or_self, reduceCtorEq, if_true, if_false, not_false_eq_true, eq_self, c197, (hs _).e80, (hs _).e83, (hs _).e86, (hs _).e100, ai_at, v0, v1])
            rw [e1i]
            exact At_le ih2 ⟨rfl, rfl, rfl, rfl, trivial⟩
          · rw [show fl_has (ai h 88) (A + i) = 1 from if_neg b]
            have e2 : su (bcm (fun i => ai h 88 (A + i)) r) (i + 1) = su (bcm (fun i => ai h 88 (A + i)) r) i + 0 := by
              show su (bcm (fun i => ai h 88 (A + i)) r) i + bcm (fun i => ai h 88 (A + i)) r i = _
              rw [show bcm (fun i => ai h 88 (A + i)) r i = 0 from (if_pos c).trans (if_neg b)]
            have ih2 := ih (i + 1) (by omega)
            rw [e2] at ih2
            first
              | (with_reducible show At 197 _ 83 _ _ _ _)
              | (refine go 60 (by decide) ?_; simp only [KX, KY, KZ, KW, KV, Nat.reduceAdd, Nat.reduceSub, Nat.reduceLeDiff, true_and, and_true, true_or, or_true, or_self, reduceCtorEq, if_true, if_false, not_false_eq_true, eq_self, c197, (hs _).e80, (hs _).e83, (hs _).e86, (hs _).e100, ai_at, v0, v1])
            first
              | (with_reducible show At 197 _ 83 _ _ _ _)
              | (refine go 60 (by decide) ?_; simp only [KX, KY, KZ, KW, KV, Nat.reduceAdd, Nat.reduceSub, Nat.reduceLeDiff, true_and, and_true, true_or, or_true, or_self, reduceCtorEq, if_true, if_false, not_false_eq_true, eq_self, c197, (hs _).e80, (hs _).e83, (hs _).e86, (hs _).e100, ai_at, v0, v1])
            first
              | (with_reducible show At 197 _ 83 _ _ _ _)
              | (refine go 60 (by decide) ?_; simp only [KX, KY, KZ, KW, KV, Nat.reduceAdd, Nat.reduceSub, Nat.reduceLeDiff, true_and, and_true, true_or, or_true, or_self, reduceCtorEq, if_true, if_false, not_false_eq_true, eq_self, c197, (hs _).e80, (hs _).e83, (hs _).e86, (hs _).e100, ai_at, v0, v1])
            rw [e1i]
            exact At_le ih2 ⟨rfl, rfl, rfl, rfl, trivial⟩
        · rw [if_neg (show ¬ r i = 0 by rw [c]; decide)]
          have e2 : su (bcm (fun i => ai h 88 (A + i)) r) (i + 1) = su (bcm (fun i => ai h 88 (A + i)) r) i + 0 := by
            show su (bcm (fun i => ai h 88 (A + i)) r) i + bcm (fun i => ai h 88 (A + i)) r i = _
            rw [show bcm (fun i => ai h 88 (A + i)) r i = 0 from if_neg (by rw [c]; decide)]
          have ih2 := ih (i + 1) (by omega)
          rw [e2] at ih2
          first
            | (with_reducible show At 197 _ 83 _ _ _ _)
            | (refine go 60 (by decide) ?_; simp only [KX, KY, KZ, KW, KV, Nat.reduceAdd, Nat.reduceSub, Nat.reduceLeDiff, true_and, and_true, true_or, or_true, or_self, reduceCtorEq, if_true, if_false, not_false_eq_true, eq_self, c197, (hs _).e80, (hs _).e83, (hs _).e86, (hs _).e100, ai_at, v0, v1])
          first
            | (with_reducible show At 197 _ 83 _ _ _ _)
            | (refine go 60 (by decide) ?_; simp only [KX, KY, KZ, KW, KV, Nat.reduceAdd, Nat.reduceSub, Nat.reduceLeDiff, true_and, and_true, true_or, or_true, or_self, reduceCtorEq, if_true, if_false, not_false_eq_true, eq_self, c197, (hs _).e80, (hs _).e83, (hs _).e86, (hs _).e100, ai_at, v0, v1])
          first
            | (with_reducible show At 197 _ 83 _ _ _ _)
            | (refine go 60 (by decide) ?_; simp only [KX, KY, KZ, KW, KV, Nat.reduceAdd, Nat.reduceSub, Nat.reduceLeDiff, true_and, and_true, true_or, or_true, or_self, reduceCtorEq, if_true, if_false, not_false_eq_true, eq_self, c197, (hs _).e80, (hs _).e83, (hs _).e86, (hs _).e100, ai_at, v0, v1])
          rw [e1i]
          exact At_le ih2 ⟨rfl, rfl, rfl, rfl, trivial⟩
    exact lp 91 0 rfl
  have out : ∀ n, ∀ (r : Nat → Int32) (more : Int32), o01 r → osub (fun i => ai h 88 (A + i)) r → oini (fun i => ai h 88 (A + i)) r → (more = 0 ∧ ocl (fun i => ai h 88 (A + i)) r 91 ∨ more = 1 ∧ 92 ≤ n + hcn r 91) → At 197 Q 27 (0, 0) [some (.ref 80), some (.int (nI A)), some (.int more), none, none, none] [] (ma_set h 100 (.inl (.boolean, 91, .inl r))) := by
    intro n
    induction n with
    | zero =>
      intro r more w1 w2 w3 w4
      rcases w4 with ⟨rfl, w4⟩ | ⟨rfl, w4⟩
      · first
          | (with_reducible show At 197 _ 83 _ _ _ _)
          | (refine go 60 (by decide) ?_; simp only [KX, KY, KZ, KW, KV, Nat.reduceAdd, Nat.reduceSub, Nat.reduceLeDiff, true_and, and_true, true_or, or_true, or_self, reduceCtorEq, if_true, if_false, not_false_eq_true, eq_self, c197, (hs _).e80, (hs _).e83, (hs _).e86, (hs _).e100, ai_at, v0, v1])
        first
          | (with_reducible show At 197 _ 83 _ _ _ _)
          | (refine go 60 (by decide) ?_; simp only [KX, KY, KZ, KW, KV, Nat.reduceAdd, Nat.reduceSub, Nat.reduceLeDiff, true_and, and_true, true_or, or_true, or_self, reduceCtorEq, if_true, if_false, not_false_eq_true, eq_self, c197, (hs _).e80, (hs _).e83, (hs _).e86, (hs _).e100, ai_at, v0, v1])
        first
          | (with_reducible show At 197 _ 83 _ _ _ _)
          | (refine go 60 (by decide) ?_; simp only [KX, KY, KZ, KW, KV, Nat.reduceAdd, Nat.reduceSub, Nat.reduceLeDiff, true_and, and_true, true_or, or_true, or_self, reduceCtorEq, if_true, if_false, not_false_eq_true, eq_self, c197, (hs _).e80, (hs _).e83, (hs _).e86, (hs _).e100, ai_at, v0, v1])
        exact At_le (cf r w1 w2 (ocl_cls w3 w4)) ⟨rfl, rfl, rfl, rfl, trivial⟩
      · exact absurd (hcn_le r 91) (by omega)
    | succ n oh =>
      intro r more w1 w2 w3 w4
      rcases w4 with ⟨rfl, w4⟩ | ⟨rfl, w4⟩
      · first
          | (with_reducible show At 197 _ 83 _ _ _ _)
          | (refine go 60 (by decide) ?_; simp only [KX, KY, KZ, KW, KV, Nat.reduceAdd, Nat.reduceSub, Nat.reduceLeDiff, true_and, and_true, true_or, or_true, or_self, reduceCtorEq, if_true, if_false, not_false_eq_true, eq_self, c197, (hs _).e80, (hs _).e83, (hs _).e86, (hs _).e100, ai_at, v0, v1])
        first
          | (with_reducible show At 197 _ 83 _ _ _ _)
          | (refine go 60 (by decide) ?_; simp only [KX, KY, KZ, KW, KV, Nat.reduceAdd, Nat.reduceSub, Nat.reduceLeDiff, true_and, and_true, true_or, or_true, or_self, reduceCtorEq, if_true, if_false, not_false_eq_true, eq_self, c197, (hs _).e80, (hs _).e83, (hs _).e86, (hs _).e100, ai_at, v0, v1])
        first
          | (with_reducible show At 197 _ 83 _ _ _ _)
          | (refine go 60 (by decide) ?_; simp only [KX, KY, KZ, KW, KV, Nat.reduceAdd, Nat.reduceSub, Nat.reduceLeDiff, true_and, and_true, true_or, or_true, or_self, reduceCtorEq, if_true, if_false, not_false_eq_true, eq_self, c197, (hs _).e80, (hs _).e83, (hs _).e86, (hs _).e100, ai_at, v0, v1])
        exact At_le (cf r w1 w2 (ocl_cls w3 w4)) ⟨rfl, rfl, rfl, rfl, trivial⟩
      · have ps : ∀ m c, c + m = 91 → ∀ (r : Nat → Int32) (more : Int32), o01 r → osub (fun i => ai h 88 (A + i)) r → oini (fun i => ai h 88 (A + i)) r → (more = 0 ∧ ocl (fun i => ai h 88 (A + i)) r c ∧ 92 ≤ n + 1 + hcn r 91 ∨ more = 1 ∧ 92 ≤ n + hcn r 91) → At 197 Q 33 (0, 0) [some (.ref 80), some (.int (nI A)), some (.int more), some (.int (nI c)), none, none] [] (ma_set h 100 (.inl (.boolean, 91, .inl r))) := by
          intro m
          induction m with
          | zero =>
            intro c ec r more w1 w2 w3 w4
            obtain rfl : c = 91 := by omega
            refine go 60 (by decide) ?_
            simp only [KX, KY, KZ, KW, KV, Nat.reduceAdd, Nat.reduceSub, Nat.reduceLeDiff, true_and, and_true, true_or, or_true, or_self, reduceCtorEq, if_true, if_false, not_false_eq_true, eq_self, c197, (hs _).e80, (hs _).e83, (hs _).e86, (hs _).e100, ai_at, v0, v1]
            rw [if_neg (show ¬ nI 91 < (91 : Int32) from nI_nlt (Nat.le_refl _) (by decide))]
            first
              | (with_reducible show At 197 _ 27 _ _ _ _)
              | (refine go 60 (by decide) ?_; simp only [KX, KY, KZ, KW, KV, Nat.reduceAdd, Nat.reduceSub, Nat.reduceLeDiff, true_and, and_true, true_or, or_true, or_self, reduceCtorEq, if_true, if_false, not_false_eq_true, eq_self, c197, (hs _).e80, (hs _).e83, (hs _).e86, (hs _).e100, ai_at, v0, v1])
            first
              | (with_reducible show At 197 _ 27 _ _ _ _)
              | (refine go 60 (by decide) ?_; simp only [KX, KY, KZ, KW, KV, Nat.reduceAdd, Nat.reduceSub, Nat.reduceLeDiff, true_and, and_true, true_or, or_true, or_self, reduceCtorEq, if_true, if_false, not_false_eq_true, eq_self, c197, (hs _).e80, (hs _).e83, (hs _).e86, (hs _).e100, ai_at, v0, v1])
            first
              | (with_reducible show At 197 _ 27 _ _ _ _)
              | (refine go 60 (by decide) ?_; simp only [KX, KY, KZ, KW, KV, Nat.reduceAdd, Nat.reduceSub, Nat.reduceLeDiff, true_and, and_true, true_or, or_true, or_self, reduceCtorEq, if_true, if_false, not_false_eq_true, eq_self, c197, (hs _).e80, (hs _).e83, (hs _).e86, (hs _).e100, ai_at, v0, v1])
            exact At_le (oh r more w1 w2 w3 (w4.imp (fun x => ⟨x.1, x.2.1⟩) id)) ⟨rfl, rfl, rfl, trivial⟩
          | succ m ch =>
            intro c ec
            have hc : c < 91 := by omega
            have e6 : (6 : Int32) * nI c = nI (6 * c) := nI_mul 6 c
            have il : ∀ m j, j + m = 6 → ∀ (r : Nat → Int32) (more : Int32), o01 r → osub (fun i => ai h 88 (A + i)) r → oini (fun i => ai h 88 (A + i)) r → (more = 0 ∧ ocl (fun i => ai h 88 (A + i)) r c ∧ 92 ≤ n + 1 + hcn r 91 ∨ more = 1 ∧ 92 ≤ n + hcn r 91) → (r c = 1 ∨ ¬ ai h 88 (A + c) = -1 ∨ ∀ j2, j2 < j → ∀ o, o < 91 → fl_nb c j2 = ma_cell o → r o = 0) → At 197 Q 38 (0, 0) [some (.ref 80), some (.int (nI A)), some (.int more), some (.int (nI c)), some (.int (nI j)), none] [] (ma_set h 100 (.inl (.boolean, 91, .inl r))) := by
              intro m
              induction m with
              | zero =>
                intro j ej r more w1 w2 w3 w4 w5
                obtain rfl : j = 6 := by omega
                have w6 : ai h 88 (A + c) = -1 → (∃ j o, j < 6 ∧ o < 91 ∧ fl_nb c j = ma_cell o ∧ r o = 1) → r c = 1 := fun a b => (w5.elim id (fun w => (w.elim (fun z => absurd a z) (fun z => by
          obtain ⟨j, o, hj, ho, e1, e2⟩ := b
          exact absurd ((z j hj o ho e1).symm.trans e2) (by decide)))))
                refine go 60 (by decide) ?_
                simp only [KX, KY, KZ, KW, KV, Nat.reduceAdd, Nat.reduceSub, Nat.reduceLeDiff, true_and, and_true, true_or, or_true, or_self, reduceCtorEq, if_true, if_false, not_false_eq_true, eq_self, c197, (hs _).e80, (hs _).e83, (hs _).e86, (hs _).e100, e6, ai_at, v0, v1]
                rw [if_neg (show ¬ nI 6 < (6 : Int32) from nI_nlt (Nat.le_refl _) (by decide))]
                first
                  | (with_reducible show At 197 _ 33 _ _ _ _)
                  | (refine go 60 (by decide) ?_; simp only [KX, KY, KZ, KW, KV, Nat.reduceAdd, Nat.reduceSub, Nat.reduceLeDiff, true_and, and_true, true_or, or_true, or_self, reduceCtorEq, if_true, if_false, not_false_eq_true, eq_self, c197, (hs _).e80, (hs _).e83, (hs _).e86, (hs _).e100, e6, ai_at, v0, v1])
                first
                  | (with_reducible show At 197 _ 33 _ _ _ _)
                  | (refine go 60 (by decide) ?_; simp only [KX, KY, KZ, KW, KV, Nat.reduceAdd, Nat.reduceSub, Nat.reduceLeDiff, true_and, and_true, true_or, or_true, or_self, reduceCtorEq, if_true, if_false, not_false_eq_true, eq_self, c197, (hs _).e80, (hs _).e83, (hs _).e86, (hs _).e100, e6, ai_at, v0, v1])
                first
                  | (with_reducible show At 197 _ 33 _ _ _ _)
                  | (refine go 60 (by decide) ?_; simp only [KX, KY, KZ, KW, KV, Nat.reduceAdd, Nat.reduceSub, Nat.reduceLeDiff, true_and, and_true, true_or, or_true, or_self, reduceCtorEq, if_true, if_false, not_false_eq_true, eq_self, c197, (hs _).e80, (hs _).e83, (hs _).e86, (hs _).e100, e6, ai_at, v0, v1])
                rw [nI_1 c]
                exact At_le (ch (c + 1) (by omega) r more w1 w2 w3 (w4.imp (fun x => ⟨x.1, fun i hi ya yb => (Nat.lt_or_ge i c).elim (fun y => x.2.1 i y ya yb) (fun y => by
                    obtain rfl : i = c := by omega
                    exact w6 ya yb), x.2.2⟩) id)) ⟨rfl, rfl, rfl, rfl, trivial⟩
              | succ m jh =>
                intro j ej r more w1 w2 w3 w4 w5
                have hj : j < 6 := by omega
                refine go 60 (by decide) ?_
                simp only [KX, KY, KZ, KW, KV, Nat.reduceAdd, Nat.reduceSub, Nat.reduceLeDiff, true_and, and_true, true_or, or_true, or_self, reduceCtorEq, if_true, if_false, not_false_eq_true, eq_self, c197, (hs _).e80, (hs _).e83, (hs _).e86, (hs _).e100, e6, ai_at, v0, v1]
                rw [if_pos (show nI j < (6 : Int32) from nI_lt hj (by decide)), nI_clamp (show c < 2 ^ 31 by omega)]
                refine ⟨nI_in hc (by decide), ?_⟩
                rcases w1 c hc with d | d
                · rw [if_pos d]
                  refine s172 (A := A) (hs _).e80 rfl (hs _).e88 (by omega) ?_
                  rw [ai_ne _ _ (show 88 ≠ 100 by decide)]
                  rcases hb c hc with b | b
                  · rw [show fl_has (ai h 88) (A + c) = 0 from if_pos (by rw [b]; decide)]
                    refine go 60 (by decide) ?_
                    simp only [KX, KY, KZ, KW, KV, Nat.reduceAdd, Nat.reduceSub, Nat.reduceLeDiff, true_and, and_true, true_or, or_true, or_self, reduceCtorEq, if_true, if_false, not_false_eq_true, eq_self, c197, (hs _).e80, (hs _).e83, (hs _).e86, (hs _).e100, e6, ai_at, v0, v1]
                    rw [nI_add, nI_clamp (show 6 * c + j < 2 ^ 31 by omega)]
                    refine ⟨nI_in (show 6 * c + j < 546 by omega) (by decide), ?_⟩
                    rw [ai_ne _ _ (show 86 ≠ 100 by decide)]
                    rw [R.2.1 c hc j hj]
                    rcases nb_ok c hc j hj with ⟨n1, n2⟩ | ⟨n1, n2, n3⟩
                    · rw [n1, if_pos (show (-1 : Int32) < 0 by decide)]
                      first
                        | (with_reducible show At 197 _ 38 _ _ _ _)
                        | (refine go 60 (by decide) ?_; simp only [KX, KY, KZ, KW, KV, Nat.reduceAdd, Nat.reduceSub, Nat.reduceLeDiff, true_and, and_true, true_or, or_true, or_self, reduceCtorEq, if_true, if_false, not_false_eq_true, eq_self, c197, (hs _).e80, (hs _).e83, (hs _).e86, (hs _).e100, e6, ai_at, v0, v1])
                      first
                        | (with_reducible show At 197 _ 38 _ _ _ _)
                        | (refine go 60 (by decide) ?_; simp only [KX, KY, KZ, KW, KV, Nat.reduceAdd, Nat.reduceSub, Nat.reduceLeDiff, true_and, and_true, true_or, or_true, or_self, reduceCtorEq, if_true, if_false, not_false_eq_true, eq_self, c197, (hs _).e80, (hs _).e83, (hs _).e86, (hs _).e100, e6, ai_at, v0, v1])
                      first
                        | (with_reducible show At 197 _ 38 _ _ _ _)
                        | (refine go 60 (by decide) ?_; simp only [KX, KY, KZ, KW, KV, Nat.reduceAdd, Nat.reduceSub, Nat.reduceLeDiff, true_and, and_true, true_or, or_true, or_self, reduceCtorEq, if_true, if_false, not_false_eq_true, eq_self, c197, (hs _).e80, (hs _).e83, (hs _).e86, (hs _).e100, e6, ai_at, v0, v1])
                      rw [nI_1 j]
                      refine At_le (jh (j + 1) (by omega) r more w1 w2 w3 w4 ?_) ⟨rfl, rfl, rfl, rfl, rfl, trivial⟩
                      refine w5.imp id (fun w => w.imp id (fun z j2 h2 o ho e => ?_))
                      rcases Nat.lt_or_ge j2 j with y | y
                      · exact z j2 y o ho e
                      · obtain rfl : j2 = j := by omega
                        rw [e, cix_cell o ho] at n2
                        omega
                    · rw [n2, if_neg (nI_pos (show cix (fl_nb c j) < 2 ^ 31 by omega)), nI_clamp (show cix (fl_nb c j) < 2 ^ 31 by omega)]
                      refine ⟨nI_in n1 (by decide), ?_⟩
                      rcases w1 _ n1 with z1 | z1
                      · rw [if_pos z1]
                        first
                          | (with_reducible show At 197 _ 38 _ _ _ _)
                          | (refine go 60 (by decide) ?_; simp only [KX, KY, KZ, KW, KV, Nat.reduceAdd, Nat.reduceSub, Nat.reduceLeDiff, true_and, and_true, true_or, or_true, or_self, reduceCtorEq, if_true, if_false, not_false_eq_true, eq_self, c197, (hs _).e80, (hs _).e83, (hs _).e86, (hs _).e100, e6, ai_at, v0, v1])
                        first
                          | (with_reducible show At 197 _ 38 _ _ _ _)
                          | (refine go 60 (by decide) ?_; simp only [KX, KY, KZ, KW, KV, Nat.reduceAdd, Nat.reduceSub, Nat.reduceLeDiff, true_and, and_true, true_or, or_true, or_self, reduceCtorEq, if_true, if_false, not_false_eq_true, eq_self, c197, (hs _).e80, (hs _).e83, (hs _).e86, (hs _).e100, e6, ai_at, v0, v1])
                        first
                          | (with_reducible show At 197 _ 38 _ _ _ _)
                          | (refine go 60 (by decide) ?_; simp only [KX, KY, KZ, KW, KV, Nat.reduceAdd, Nat.reduceSub, Nat.reduceLeDiff, true_and, and_true, true_or, or_true, or_self, reduceCtorEq, if_true, if_false, not_false_eq_true, eq_self, c197, (hs _).e80, (hs _).e83, (hs _).e86, (hs _).e100, e6, ai_at, v0, v1])
                        rw [nI_1 j]
                        refine At_le (jh (j + 1) (by omega) r more w1 w2 w3 w4 ?_) ⟨rfl, rfl, rfl, rfl, rfl, trivial⟩
                        refine w5.imp id (fun w => w.imp id (fun z j2 h2 o ho e => ?_))
                        rcases Nat.lt_or_ge j2 j with y | y
                        · exact z j2 y o ho e
                        · obtain rfl : j2 = j := by omega
                          rw [e, cix_cell o ho] at z1
                          exact z1
                      · rw [if_neg (show ¬ r (cix (fl_nb c j)) = 0 by rw [z1]; decide)]
                        rw [nI_clamp (show c < 2 ^ 31 by omega)]
                        refine ⟨nI_in hc (by decide), ?_⟩
                        first
                          | (with_reducible show At 197 _ 38 _ _ _ _)
                          | (refine go 60 (by decide) ?_; simp only [KX, KY, KZ, KW, KV, Nat.reduceAdd, Nat.reduceSub, Nat.reduceLeDiff, true_and, and_true, true_or, or_true, or_self, reduceCtorEq, if_true, if_false, not_false_eq_true, eq_self, c197, (hs _).e80, (hs _).e83, (hs _).e86, (hs _).e100, e6, ai_at, v0, v1])
                        first
                          | (with_reducible show At 197 _ 38 _ _ _ _)
                          | (refine go 60 (by decide) ?_; simp only [KX, KY, KZ, KW, KV, Nat.reduceAdd, Nat.reduceSub, Nat.reduceLeDiff, true_and, and_true, true_or, or_true, or_self, reduceCtorEq, if_true, if_false, not_false_eq_true, eq_self, c197, (hs _).e80, (hs _).e83, (hs _).e86, (hs _).e100, e6, ai_at, v0, v1])
                        first
                          | (with_reducible show At 197 _ 38 _ _ _ _)
                          | (refine go 60 (by decide) ?_; simp only [KX, KY, KZ, KW, KV, Nat.reduceAdd, Nat.reduceSub, Nat.reduceLeDiff, true_and, and_true, true_or, or_true, or_self, reduceCtorEq, if_true, if_false, not_false_eq_true, eq_self, c197, (hs _).e80, (hs _).e83, (hs _).e86, (hs _).e100, e6, ai_at, v0, v1])
                        rw [ma_set_set]
                        rw [nI_1 j]
                        refine At_le (jh (j + 1) (by omega) (upd r c 1) 1 (o01_up w1) (osub_up hc b ⟨j, _, hj, n1, n3, z1⟩ w2) (oini_up w3) (Or.inr ⟨rfl, ?_⟩) (Or.inl (if_pos rfl))) ⟨rfl, rfl, rfl, rfl, rfl, trivial⟩
                        rw [hcn_up (f := r) (f2 := upd r c 1) (i := c) 91 hc (fun j hj w => by rw [upd_i, if_neg w]) d (by rw [upd_i, if_pos rfl]; decide)]
                        rcases w4 with w4 | w4
                        · have := w4.2.2
                          omega
                        · have := w4.2
                          omega
                  · rw [show fl_has (ai h 88) (A + c) = 1 from if_neg b]
                    have w6 : ai h 88 (A + c) = -1 → (∃ j o, j < 6 ∧ o < 91 ∧ fl_nb c j = ma_cell o ∧ r o = 1) → r c = 1 := fun a _ => absurd (show ai h 88 (A + c) < 0 by rw [a]; decide) b
                    refine go 60 (by decide) ?_
                    simp only [KX, KY, KZ, KW, KV, Nat.reduceAdd, Nat.reduceSub, Nat.reduceLeDiff, true_and, and_true, true_or, or_true, or_self, reduceCtorEq, if_true, if_false, not_false_eq_true, eq_self, c197, (hs _).e80, (hs _).e83, (hs _).e86, (hs _).e100, e6, ai_at, v0, v1]
                    first
                      | (with_reducible show At 197 _ 33 _ _ _ _)
                      | (refine go 60 (by decide) ?_; simp only [KX, KY, KZ, KW, KV, Nat.reduceAdd, Nat.reduceSub, Nat.reduceLeDiff, true_and, and_true, true_or, or_true, or_self, reduceCtorEq, if_true, if_false, not_false_eq_true, eq_self, c197, (hs _).e80, (hs _).e83, (hs _).e86, (hs _).e100, e6, ai_at, v0, v1])
                    first
                      | (with_reducible show At 197 _ 33 _ _ _ _)
                      | (refine go 60 (by decide) ?_; simp only [KX, KY, KZ, KW, KV, Nat.reduceAdd, Nat.reduceSub, Nat.reduceLeDiff, true_and, and_true, true_or, or_true, or_self, reduceCtorEq, if_true, if_false, not_false_eq_true, eq_self, c197, (hs _).e80, (hs _).e83, (hs _).e86, (hs _).e100, e6, ai_at, v0, v1])
                    first
                      | (with_reducible show At 197 _ 33 _ _ _ _)
                      | (refine go 60 (by decide) ?_; simp only [KX, KY, KZ, KW, KV, Nat.reduceAdd, Nat.reduceSub, Nat.reduceLeDiff, true_and, and_true, true_or, or_true, or_self, reduceCtorEq, if_true, if_false, not_false_eq_true, eq_self, c197, (hs _).e80, (hs _).e83, (hs _).e86, (hs _).e100, e6, ai_at, v0, v1])
                    rw [nI_1 c]
                    exact At_le (ch (c + 1) (by omega) r more w1 w2 w3 (w4.imp (fun x => ⟨x.1, fun i hi ya yb => (Nat.lt_or_ge i c).elim (fun y => x.2.1 i y ya yb) (fun y => by
                        obtain rfl : i = c := by omega
                        exact w6 ya yb), x.2.2⟩) id)) ⟨rfl, rfl, rfl, rfl, trivial⟩
                · rw [if_neg (show ¬ r c = 0 by rw [d]; decide)]
                  have w6 : ai h 88 (A + c) = -1 → (∃ j o, j < 6 ∧ o < 91 ∧ fl_nb c j = ma_cell o ∧ r o = 1) → r c = 1 := fun _ _ => d
                  first
                    | (with_reducible show At 197 _ 33 _ _ _ _)
                    | (refine go 60 (by decide) ?_; simp only [KX, KY, KZ, KW, KV, Nat.reduceAdd, Nat.reduceSub, Nat.reduceLeDiff, true_and, and_true, true_or, or_true, or_self, reduceCtorEq, if_true, if_false, not_false_eq_true, eq_self, c197, (hs _).e80, (hs _).e83, (hs _).e86, (hs _).e100, e6, ai_at, v0, v1])
                  first
                    | (with_reducible show At 197 _ 33 _ _ _ _)
                    | (refine go 60 (by decide) ?_; simp only [KX, KY, KZ, KW, KV, Nat.reduceAdd, Nat.reduceSub, Nat.reduceLeDiff, true_and, and_true, true_or, or_true, or_self, reduceCtorEq, if_true, if_false, not_false_eq_true, eq_self, c197, (hs _).e80, (hs _).e83, (hs _).e86, (hs _).e100, e6, ai_at, v0, v1])
                  first
                    | (with_reducible show At 197 _ 33 _ _ _ _)
                    | (refine go 60 (by decide) ?_; simp only [KX, KY, KZ, KW, KV, Nat.reduceAdd, Nat.reduceSub, Nat.reduceLeDiff, true_and, and_true, true_or, or_true, or_self, reduceCtorEq, if_true, if_false, not_false_eq_true, eq_self, c197, (hs _).e80, (hs _).e83, (hs _).e86, (hs _).e100, e6, ai_at, v0, v1])
                  rw [nI_1 c]
                  exact At_le (ch (c + 1) (by omega) r more w1 w2 w3 (w4.imp (fun x => ⟨x.1, fun i hi ya yb => (Nat.lt_or_ge i c).elim (fun y => x.2.1 i y ya yb) (fun y => by
                      obtain rfl : i = c := by omega
                      exact w6 ya yb), x.2.2⟩) id)) ⟨rfl, rfl, rfl, rfl, trivial⟩
            intro r more w1 w2 w3 w4
            refine go 60 (by decide) ?_
            simp only [KX, KY, KZ, KW, KV, Nat.reduceAdd, Nat.reduceSub, Nat.reduceLeDiff, true_and, and_true, true_or, or_true, or_self, reduceCtorEq, if_true, if_false, not_false_eq_true, eq_self, c197, (hs _).e80, (hs _).e83, (hs _).e86, (hs _).e100, e6, ai_at, v0, v1]
            rw [if_pos (show nI c < (91 : Int32) from nI_lt hc (by decide))]
            first
              | (with_reducible show At 197 _ 38 _ _ _ _)
              | (refine go 60 (by decide) ?_; simp only [KX, KY, KZ, KW, KV, Nat.reduceAdd, Nat.reduceSub, Nat.reduceLeDiff, true_and, and_true, true_or, or_true, or_self, reduceCtorEq, if_true, if_false, not_false_eq_true, eq_self, c197, (hs _).e80, (hs _).e83, (hs _).e86, (hs _).e100, e6, ai_at, v0, v1])
            first
              | (with_reducible show At 197 _ 38 _ _ _ _)
              | (refine go 60 (by decide) ?_; simp only [KX, KY, KZ, KW, KV, Nat.reduceAdd, Nat.reduceSub, Nat.reduceLeDiff, true_and, and_true, true_or, or_true, or_self, reduceCtorEq, if_true, if_false, not_false_eq_true, eq_self, c197, (hs _).e80, (hs _).e83, (hs _).e86, (hs _).e100, e6, ai_at, v0, v1])
            first
              | (with_reducible show At 197 _ 38 _ _ _ _)
              | (refine go 60 (by decide) ?_; simp only [KX, KY, KZ, KW, KV, Nat.reduceAdd, Nat.reduceSub, Nat.reduceLeDiff, true_and, and_true, true_or, or_true, or_self, reduceCtorEq, if_true, if_false, not_false_eq_true, eq_self, c197, (hs _).e80, (hs _).e83, (hs _).e86, (hs _).e100, e6, ai_at, v0, v1])
            exact At_le (il 6 0 rfl r more w1 w2 w3 w4 (Or.inr (Or.inr fun j hj => absurd hj (Nat.not_lt_zero j)))) ⟨rfl, rfl, rfl, rfl, rfl, trivial⟩
        first
          | (with_reducible show At 197 _ 33 _ _ _ _)
          | (refine go 60 (by decide) ?_; simp only [KX, KY, KZ, KW, KV, Nat.reduceAdd, Nat.reduceSub, Nat.reduceLeDiff, true_and, and_true, true_or, or_true, or_self, reduceCtorEq, if_true, if_false, not_false_eq_true, eq_self, c197, (hs _).e80, (hs _).e83, (hs _).e86, (hs _).e100, ai_at, v0, v1])
        first
          | (with_reducible show At 197 _ 33 _ _ _ _)
          | (refine go 60 (by decide) ?_; simp only [KX, KY, KZ, KW, KV, Nat.reduceAdd, Nat.reduceSub, Nat.reduceLeDiff, true_and, and_true, true_or, or_true, or_self, reduceCtorEq, if_true, if_false, not_false_eq_true, eq_self, c197, (hs _).e80, (hs _).e83, (hs _).e86, (hs _).e100, ai_at, v0, v1])
        first
          | (with_reducible show At 197 _ 33 _ _ _ _)
          | (refine go 60 (by decide) ?_; simp only [KX, KY, KZ, KW, KV, Nat.reduceAdd, Nat.reduceSub, Nat.reduceLeDiff, true_and, and_true, true_or, or_true, or_self, reduceCtorEq, if_true, if_false, not_false_eq_true, eq_self, c197, (hs _).e80, (hs _).e83, (hs _).e86, (hs _).e100, ai_at, v0, v1])
        exact At_le (ps 91 0 rfl r 0 w1 w2 w3 (Or.inl ⟨rfl, fun i hi => absurd hi (Nat.not_lt_zero i), w4⟩)) ⟨rfl, rfl, rfl, rfl, trivial⟩
  have lp : ∀ ni i, i + ni = 91 → At 197 Q 2 (0, 0) [some (.ref 80), some (.int (nI A)), some (.int (nI i)), none, none, none] [] (ma_set h 100 (.inl (.boolean, 91, .inl (upN (ai h 100) (fun c => c) (oin (fun i => ai h 88 (A + i))) i)))) := by
    intro ni
    induction ni with
    | zero =>
      intro i e
      obtain rfl : i = 91 := by omega
      refine go 60 (by decide) ?_
      simp only [KX, KY, KZ, KW, KV, Nat.reduceAdd, Nat.reduceSub, Nat.reduceLeDiff, true_and, and_true, true_or, or_true, or_self, reduceCtorEq, if_true, if_false, not_false_eq_true, eq_self, c197, (hs _).e80, (hs _).e83, (hs _).e86, (hs _).e100, ai_at, v0, v1]
      rw [if_neg (show ¬ nI 91 < (91 : Int32) from nI_nlt (Nat.le_refl _) (by decide))]
      first
        | (with_reducible show At 197 _ 27 _ _ _ _)
        | (refine go 60 (by decide) ?_; simp only [KX, KY, KZ, KW, KV, Nat.reduceAdd, Nat.reduceSub, Nat.reduceLeDiff, true_and, and_true, true_or, or_true, or_self, reduceCtorEq, if_true, if_false, not_false_eq_true, eq_self, c197, (hs _).e80, (hs _).e83, (hs _).e86, (hs _).e100, ai_at, v0, v1])
      first
        | (with_reducible show At 197 _ 27 _ _ _ _)
        | (refine go 60 (by decide) ?_; simp only [KX, KY, KZ, KW, KV, Nat.reduceAdd, Nat.reduceSub, Nat.reduceLeDiff, true_and, and_true, true_or, or_true, or_self, reduceCtorEq, if_true, if_false, not_false_eq_true, eq_self, c197, (hs _).e80, (hs _).e83, (hs _).e86, (hs _).e100, ai_at, v0, v1])
      first
        | (with_reducible show At 197 _ 27 _ _ _ _)
        | (refine go 60 (by decide) ?_; simp only [KX, KY, KZ, KW, KV, Nat.reduceAdd, Nat.reduceSub, Nat.reduceLeDiff, true_and, and_true, true_or, or_true, or_self, reduceCtorEq, if_true, if_false, not_false_eq_true, eq_self, c197, (hs _).e80, (hs _).e83, (hs _).e86, (hs _).e100, ai_at, v0, v1])
      have oa : ∀ i, i < 91 → upN (ai h 100) (fun c => c) (oin (fun i => ai h 88 (A + i))) 91 i = oin (fun i => ai h 88 (A + i)) i := fun i hi => upN_at (p := fun c => c) 91 (fun i j _ _ e => e) i hi
      refine At_le (out 92 _ 1 (fun i hi => by rw [oa i hi]; refine oin01 _ i) (fun S c i hi e => ?_) (fun i hi a b => ?_) (Or.inr ⟨rfl, by omega⟩)) ⟨rfl, rfl, rfl, trivial⟩
      · rw [oa i hi] at e
        by_cases r5 : fl_ring i = 5
        · rcases hb i hi with b | b
          · exact c i hi b (Or.inl r5)
          · rw [show oin (fun i => ai h 88 (A + i)) i = 0 from (if_pos r5).trans (if_neg b)] at e
            exact absurd e (by decide)
        · rw [show oin (fun i => ai h 88 (A + i)) i = 0 from if_neg r5] at e
          exact absurd e (by decide)
      · rw [oa i hi]
        exact (if_pos a).trans (if_pos (by rw [b]; decide))
    | succ ni ih =>
      intro i e
      have hi : i < 91 := by omega
      have e1i := nI_1 i
      refine go 60 (by decide) ?_
      simp only [KX, KY, KZ, KW, KV, Nat.reduceAdd, Nat.reduceSub, Nat.reduceLeDiff, true_and, and_true, true_or, or_true, or_self, reduceCtorEq, if_true, if_false, not_false_eq_true, eq_self, c197, (hs _).e80, (hs _).e83, (hs _).e86, (hs _).e100, ai_at, v0, v1]
      rw [if_pos (show nI i < (91 : Int32) from nI_lt hi (by decide))]
      rw [nI_clamp (show i < 2 ^ 31 by omega)]
      refine ⟨nI_in hi (by decide), ?_⟩
      rw [ai_ne _ _ (show 83 ≠ 100 by decide)]
      rw [(R.1 i hi).2.2.1]
      by_cases r5 : fl_ring i = 5
      · rw [if_pos r5]
        refine s172 (A := A) (hs _).e80 rfl (hs _).e88 (by omega) ?_
        rw [ai_ne _ _ (show 88 ≠ 100 by decide)]
        by_cases b : ai h 88 (A + i) < 0
        · rw [show fl_has (ai h 88) (A + i) = 0 from if_pos b]
          have e2 : oin (fun i => ai h 88 (A + i)) i = 1 := (if_pos r5).trans (if_pos b)
          first
            | (with_reducible show At 197 _ 22 _ _ _ _)
            | (refine go 60 (by decide) ?_; simp only [KX, KY, KZ, KW, KV, Nat.reduceAdd, Nat.reduceSub, Nat.reduceLeDiff, true_and, and_true, true_or, or_true, or_self, reduceCtorEq, if_true, if_false, not_false_eq_true, eq_self, c197, (hs _).e80, (hs _).e83, (hs _).e86, (hs _).e100, ai_at, v0, v1])
          first
            | (with_reducible show At 197 _ 22 _ _ _ _)
            | (refine go 60 (by decide) ?_; simp only [KX, KY, KZ, KW, KV, Nat.reduceAdd, Nat.reduceSub, Nat.reduceLeDiff, true_and, and_true, true_or, or_true, or_self, reduceCtorEq, if_true, if_false, not_false_eq_true, eq_self, c197, (hs _).e80, (hs _).e83, (hs _).e86, (hs _).e100, ai_at, v0, v1])
          first
            | (with_reducible show At 197 _ 22 _ _ _ _)
            | (refine go 60 (by decide) ?_; simp only [KX, KY, KZ, KW, KV, Nat.reduceAdd, Nat.reduceSub, Nat.reduceLeDiff, true_and, and_true, true_or, or_true, or_self, reduceCtorEq, if_true, if_false, not_false_eq_true, eq_self, c197, (hs _).e80, (hs _).e83, (hs _).e86, (hs _).e100, ai_at, v0, v1])
          refine go 60 (by decide) ?_
          simp only [KX, KY, KZ, KW, KV, Nat.reduceAdd, Nat.reduceSub, Nat.reduceLeDiff, true_and, and_true, true_or, or_true, or_self, reduceCtorEq, if_true, if_false, not_false_eq_true, eq_self, c197, (hs _).e80, (hs _).e83, (hs _).e86, (hs _).e100, ai_at, v0, v1]
          rw [nI_clamp (show i < 2 ^ 31 by omega)]
          refine ⟨nI_in hi (by decide), ?_⟩
          first
            | (with_reducible show At 197 _ 2 _ _ _ _)
            | (refine go 60 (by decide) ?_; simp only [KX, KY, KZ, KW, KV, Nat.reduceAdd, Nat.reduceSub, Nat.reduceLeDiff, true_and, and_true, true_or, or_true, or_self, reduceCtorEq, if_true, if_false, not_false_eq_true, eq_self, c197, (hs _).e80, (hs _).e83, (hs _).e86, (hs _).e100, ai_at, v0, v1])
          first
            | (with_reducible show At 197 _ 2 _ _ _ _)
            | (refine go 60 (by decide) ?_; simp only [KX, KY, KZ, KW, KV, Nat.reduceAdd, Nat.reduceSub, Nat.reduceLeDiff, true_and, and_true, true_or, or_true, or_self, reduceCtorEq, if_true, if_false, not_false_eq_true, eq_self, c197, (hs _).e80, (hs _).e83, (hs _).e86, (hs _).e100, ai_at, v0, v1])
          first
            | (with_reducible show At 197 _ 2 _ _ _ _)
            | (refine go 60 (by decide) ?_; simp only [KX, KY, KZ, KW, KV, Nat.reduceAdd, Nat.reduceSub, Nat.reduceLeDiff, true_and, and_true, true_or, or_true, or_self, reduceCtorEq, if_true, if_false, not_false_eq_true, eq_self, c197, (hs _).e80, (hs _).e83, (hs _).e86, (hs _).e100, ai_at, v0, v1])
          rw [ma_set_set]
          rw [e1i]
          have ih2 := ih (i + 1) (by omega)
          rw [show upN (ai h 100) (fun c => c) (oin (fun i => ai h 88 (A + i))) (i + 1) = upd (upN (ai h 100) (fun c => c) (oin (fun i => ai h 88 (A + i))) i) i 1 by rw [← e2]; rfl] at ih2
          exact At_le ih2 ⟨rfl, rfl, rfl, trivial⟩
        · rw [show fl_has (ai h 88) (A + i) = 1 from if_neg b]
          have e2 : oin (fun i => ai h 88 (A + i)) i = 0 := (if_pos r5).trans (if_neg b)
          first
            | (with_reducible show At 197 _ 22 _ _ _ _)
            | (refine go 60 (by decide) ?_; simp only [KX, KY, KZ, KW, KV, Nat.reduceAdd, Nat.reduceSub, Nat.reduceLeDiff, true_and, and_true, true_or, or_true, or_self, reduceCtorEq, if_true, if_false, not_false_eq_true, eq_self, c197, (hs _).e80, (hs _).e83, (hs _).e86, (hs _).e100, ai_at, v0, v1])
          first
            | (with_reducible show At 197 _ 22 _ _ _ _)
            | (refine go 60 (by decide) ?_; simp only [KX, KY, KZ, KW, KV, Nat.reduceAdd, Nat.reduceSub, Nat.reduceLeDiff, true_and, and_true, true_or, or_true, or_self, reduceCtorEq, if_true, if_false, not_false_eq_true, eq_self, c197, (hs _).e80, (hs _).e83, (hs _).e86, (hs _).e100, ai_at, v0, v1])
          first
            | (with_reducible show At 197 _ 22 _ _ _ _)
            | (refine go 60 (by decide) ?_; simp only [KX, KY, KZ, KW, KV, Nat.reduceAdd, Nat.reduceSub, Nat.reduceLeDiff, true_and, and_true, true_or, or_true, or_self, reduceCtorEq, if_true, if_false, not_false_eq_true, eq_self, c197, (hs _).e80, (hs _).e83, (hs _).e86, (hs _).e100, ai_at, v0, v1])
          refine go 60 (by decide) ?_
          simp only [KX, KY, KZ, KW, KV, Nat.reduceAdd, Nat.reduceSub, Nat.reduceLeDiff, true_and, and_true, true_or, or_true, or_self, reduceCtorEq, if_true, if_false, not_false_eq_true, eq_self, c197, (hs _).e80, (hs _).e83, (hs _).e86, (hs _).e100, ai_at, v0, v1]
          rw [nI_clamp (show i < 2 ^ 31 by omega)]
          refine ⟨nI_in hi (by decide), ?_⟩
          first
            | (with_reducible show At 197 _ 2 _ _ _ _)
            | (refine go 60 (by decide) ?_; simp only [KX, KY, KZ, KW, KV, Nat.reduceAdd, Nat.reduceSub, Nat.reduceLeDiff, true_and, and_true, true_or, or_true, or_self, reduceCtorEq, if_true, if_false, not_false_eq_true, eq_self, c197, (hs _).e80, (hs _).e83, (hs _).e86, (hs _).e100, ai_at, v0, v1])
          first
            | (with_reducible show At 197 _ 2 _ _ _ _)
            | (refine go 60 (by decide) ?_; simp only [KX, KY, KZ, KW, KV, Nat.reduceAdd, Nat.reduceSub, Nat.reduceLeDiff, true_and, and_true, true_or, or_true, or_self, reduceCtorEq, if_true, if_false, not_false_eq_true, eq_self, c197, (hs _).e80, (hs _).e83, (hs _).e86, (hs _).e100, ai_at, v0, v1])
          first
            | (with_reducible show At 197 _ 2 _ _ _ _)
            | (refine go 60 (by decide) ?_; simp only [KX, KY, KZ, KW, KV, Nat.reduceAdd, Nat.reduceSub, Nat.reduceLeDiff, true_and, and_true, true_or, or_true, or_self, reduceCtorEq, if_true, if_false, not_false_eq_true, eq_self, c197, (hs _).e80, (hs _).e83, (hs _).e86, (hs _).e100, ai_at, v0, v1])
          rw [ma_set_set]
          rw [e1i]
          have ih2 := ih (i + 1) (by omega)
          rw [show upN (ai h 100) (fun c => c) (oin (fun i => ai h 88 (A + i))) (i + 1) = upd (upN (ai h 100) (fun c => c) (oin (fun i => ai h 88 (A + i))) i) i 0 by rw [← e2]; rfl] at ih2
          exact At_le ih2 ⟨rfl, rfl, rfl, trivial⟩
      · rw [if_neg r5]
        have e2 : oin (fun i => ai h 88 (A + i)) i = 0 := if_neg r5
        first
          | (with_reducible show At 197 _ 22 _ _ _ _)
          | (refine go 60 (by decide) ?_; simp only [KX, KY, KZ, KW, KV, Nat.reduceAdd, Nat.reduceSub, Nat.reduceLeDiff, true_and, and_true, true_or, or_true, or_self, reduceCtorEq, if_true, if_false, not_false_eq_true, eq_self, c197, (hs _).e80, (hs _).e83, (hs _).e86, (hs _).e100, ai_at, v0, v1])
        first
          | (with_reducible show At 197 _ 22 _ _ _ _)
          | (refine go 60 (by decide) ?_; simp only [KX, KY, KZ, KW, KV, Nat.reduceAdd, Nat.reduceSub, Nat.reduceLeDiff, true_and, and_true, true_or, or_true, or_self, reduceCtorEq, if_true, if_false, not_false_eq_true, eq_self, c197, (hs _).e80, (hs _).e83, (hs _).e86, (hs _).e100, ai_at, v0, v1])
        first
          | (with_reducible show At 197 _ 22 _ _ _ _)
          | (refine go 60 (by decide) ?_; simp only [KX, KY, KZ, KW, KV, Nat.reduceAdd, Nat.reduceSub, Nat.reduceLeDiff, true_and, and_true, true_or, or_true, or_self, reduceCtorEq, if_true, if_false, not_false_eq_true, eq_self, c197, (hs _).e80, (hs _).e83, (hs _).e86, (hs _).e100, ai_at, v0, v1])
        refine go 60 (by decide) ?_
        simp only [KX, KY, KZ, KW, KV, Nat.reduceAdd, Nat.reduceSub, Nat.reduceLeDiff, true_and, and_true, true_or, or_true, or_self, reduceCtorEq, if_true, if_false, not_false_eq_true, eq_self, c197, (hs _).e80, (hs _).e83, (hs _).e86, (hs _).e100, ai_at, v0, v1]
        rw [nI_clamp (show i < 2 ^ 31 by omega)]
        refine ⟨nI_in hi (by decide), ?_⟩
        first
          | (with_reducible show At 197 _ 2 _ _ _ _)
          | (refine go 60 (by decide) ?_; simp only [KX, KY, KZ, KW, KV, Nat.reduceAdd, Nat.reduceSub, Nat.reduceLeDiff, true_and, and_true, true_or, or_true, or_self, reduceCtorEq, if_true, if_false, not_false_eq_true, eq_self, c197, (hs _).e80, (hs _).e83, (hs _).e86, (hs _).e100, ai_at, v0, v1])
        first
          | (with_reducible show At 197 _ 2 _ _ _ _)
          | (refine go 60 (by decide) ?_; simp only [KX, KY, KZ, KW, KV, Nat.reduceAdd, Nat.reduceSub, Nat.reduceLeDiff, true_and, and_true, true_or, or_true, or_self, reduceCtorEq, if_true, if_false, not_false_eq_true, eq_self, c197, (hs _).e80, (hs _).e83, (hs _).e86, (hs _).e100, ai_at, v0, v1])
        first
          | (with_reducible show At 197 _ 2 _ _ _ _)
          | (refine go 60 (by decide) ?_; simp only [KX, KY, KZ, KW, KV, Nat.reduceAdd, Nat.reduceSub, Nat.reduceLeDiff, true_and, and_true, true_or, or_true, or_self, reduceCtorEq, if_true, if_false, not_false_eq_true, eq_self, c197, (hs _).e80, (hs _).e83, (hs _).e86, (hs _).e100, ai_at, v0, v1])
        rw [ma_set_set]
        rw [e1i]
        have ih2 := ih (i + 1) (by omega)
        rw [show upN (ai h 100) (fun c => c) (oin (fun i => ai h 88 (A + i))) (i + 1) = upd (upN (ai h 100) (fun c => c) (oin (fun i => ai h 88 (A + i))) i) i 0 by rw [← e2]; rfl] at ih2
        exact At_le ih2 ⟨rfl, rfl, rfl, trivial⟩
  refine ma_enter (m := 197) (Or.inl (by decide)) (by show 2 ≤ mt_n 197; decide +kernel) ?_
  show At 197 Q 0 (mt_c 197) [some (.ref 80), some (.int (nI A)), none, none, none, none] [] h
  refine go 60 (by decide) ?_
  simp only [KX, KY, KZ, KW, KV, Nat.reduceAdd, Nat.reduceSub, Nat.reduceLeDiff, true_and, and_true, true_or, or_true, or_self, reduceCtorEq, if_true, if_false, not_false_eq_true, eq_self, c197]
  have l0 := lp 91 0 rfl
  rw [show (ma_set h 100 (.inl (.boolean, 91, .inl (upN (ai h 100) (fun c => c) (oin (fun i => ai h 88 (A + i))) 0)))) = h from ma_set_id H.e100] at l0
  exact At_le l0 ⟨rfl, rfl, rfl, trivial⟩
