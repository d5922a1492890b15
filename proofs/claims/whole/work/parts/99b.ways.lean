/-! ways: minutes on lent rows -/
theorem s233 {h h2 : ma_H} {Q : ma_Q} {m d kk a : Nat} {S : Bs} (H : Sh h2) (R : Rt h2) (hm : m < 3) (L : LR h2 m S) (hd : d < 6) (hk : kk < 6) (ha : a < 64) (e90 : ai h2 90 = ai h 90) (ek : ai h2 90 (2 * d) = nI kk) (ea : ai h2 90 (2 * d + 1) = nI a) (k : Q none (ma_set h2 88 (.inl (.int, 910, .inl (upN (ai h2 88) (fun c => 91 * (4 + (m + 1)) + c) (fun c => if wst h S d c then 0 else -1) 91))))) : ma_X 233 [.ref 80, .int (nI m), .int (nI d)] h2 Q := by
  have eK : gS (ai h 90 (2 * d)).toNatClampNeg (ai h 90 (2 * d + 1)) S = gS kk (nI a) S := by
    rw [← e90, ek, ea, nI_clamp (show kk < 2 ^ 31 by omega)]
  have hs : ∀ g, Sh (ma_set h2 88 (.inl (.int, 910, .inl g))) := fun g => sh_set H rfl
  have hR : ∀ g, Rt (ma_set h2 88 (.inl (.int, 910, .inl g))) := fun g => R.cong (fun a ha => by simp (disch := omega) only [ma_set_ne])
  have lp : ∀ n c, c + n = 91 → At 233 Q 10 (0, 0) [some (.ref 80), some (.int (nI m)), some (.int (nI d)), some (.int (nI (91 * (4 + m)))), some (.int (nI (91 * (4 + (m + 1))))), some (.int (nI c))] [] (ma_set h2 88 (.inl (.int, 910, .inl (upN (ai h2 88) (fun c => 91 * (4 + (m + 1)) + c) (fun c => if wst h S d c then 0 else -1) c)))) := by
    intro n
    induction n with
    | zero =>
      intro c ec
      obtain rfl : c = 91 := by omega
      refine go 60 (by decide) ?_
      simp only [KX, KY, KZ, KW, KV, Nat.reduceAdd, Nat.reduceSub, Nat.reduceLeDiff, true_and, and_true, true_or, or_true, or_self, reduceCtorEq, if_true, if_false, not_false_eq_true, eq_self, c233, (hs _).e80, (hs _).e88, ai_at]
      rw [if_neg (show ¬ nI 91 < (91 : Int32) from nI_nlt (Nat.le_refl _) (by decide))]
      exact k
    | succ n ih =>
      intro c ec
      have hc : c < 91 := by omega
      have row : ∀ x, x < 91 → upN (ai h2 88) (fun c => 91 * (4 + (m + 1)) + c) (fun c => if wst h S d c then 0 else -1) c (91 * (4 + m) + x) = if S x then 0 else -1 := fun x hx => by
        rw [upN_ne c (fun j hj => by omega)]
        exact L x hx
      refine go 60 (by decide) ?_
      simp only [KX, KY, KZ, KW, KV, Nat.reduceAdd, Nat.reduceSub, Nat.reduceLeDiff, true_and, and_true, true_or, or_true, or_self, reduceCtorEq, if_true, if_false, not_false_eq_true, eq_self, c233, (hs _).e80, (hs _).e88, ai_at]
      rw [if_pos (show nI c < (91 : Int32) from nI_lt hc (by decide))]
      refine s172 (A := 91 * (4 + m)) (hs _).e80 rfl (hs _).e88 (by omega) ?_
      rw [ai_at, show fl_has (upN (ai h2 88) (fun c => 91 * (4 + (m + 1)) + c) (fun c => if wst h S d c then 0 else -1) c) (91 * (4 + m) + c) = bI (S c) by
        unfold fl_has
        rw [row c hc]
        cases S c <;> decide]
      cases eS : S c
      · rw [show bI false = 0 from rfl]
        refine go 60 (by decide) ?_
        simp only [KX, KY, KZ, KW, KV, Nat.reduceAdd, Nat.reduceSub, Nat.reduceLeDiff, true_and, and_true, true_or, or_true, or_self, reduceCtorEq, if_true, if_false, not_false_eq_true, eq_self, c233, (hs _).e80, (hs _).e88, ai_at]
        refine s214 (A := 91 * (4 + m)) (g := cS S) (kk := kk) (a := a) (gi := d) (hs _) (hR _) (by omega) hc (cS_ok S) (fun i hi => ?_) ha rfl (by omega) hk ?_ ?_ ?_
        · rw [ai_at, row i hi, cS_cell S hi]
        · rw [ai_ne _ _ (by decide)]
          exact ek
        · rw [ai_ne _ _ (by decide)]
          exact ea
        rcases fz01 (cS S) kk (nI a) c with z | z
        · rw [z]
          have ew : wst h S d c = false := by
              show (S c || gS _ _ S c) = false
              rw [eS, eK]
              show (false || !decide (fz (cS S) kk (nI a) c = 0)) = false
              rw [z]
              rfl
          first
            | (with_reducible show At 233 _ 32 _ _ _ _)
            | (refine go 60 (by decide) ?_; simp only [KX, KY, KZ, KW, KV, Nat.reduceAdd, Nat.reduceSub, Nat.reduceLeDiff, true_and, and_true, true_or, or_true, or_self, reduceCtorEq, if_true, if_false, not_false_eq_true, eq_self, c233, (hs _).e80, (hs _).e88, ai_at])
          first
            | (with_reducible show At 233 _ 32 _ _ _ _)
            | (refine go 60 (by decide) ?_; simp only [KX, KY, KZ, KW, KV, Nat.reduceAdd, Nat.reduceSub, Nat.reduceLeDiff, true_and, and_true, true_or, or_true, or_self, reduceCtorEq, if_true, if_false, not_false_eq_true, eq_self, c233, (hs _).e80, (hs _).e88, ai_at])
          first
            | (with_reducible show At 233 _ 32 _ _ _ _)
            | (refine go 60 (by decide) ?_; simp only [KX, KY, KZ, KW, KV, Nat.reduceAdd, Nat.reduceSub, Nat.reduceLeDiff, true_and, and_true, true_or, or_true, or_self, reduceCtorEq, if_true, if_false, not_false_eq_true, eq_self, c233, (hs _).e80, (hs _).e88, ai_at])
          refine go 60 (by decide) ?_
          simp only [KX, KY, KZ, KW, KV, Nat.reduceAdd, Nat.reduceSub, Nat.reduceLeDiff, true_and, and_true, true_or, or_true, or_self, reduceCtorEq, if_true, if_false, not_false_eq_true, eq_self, c233, (hs _).e80, (hs _).e88, ai_at]
          rw [nI_add, nI_clamp (show 91 * (4 + (m + 1)) + c < 2 ^ 31 by omega)]
          refine ⟨nI_in (show 91 * (4 + (m + 1)) + c < 910 by omega) (by decide), ?_⟩
          first
            | (with_reducible show At 233 _ 10 _ _ _ _)
            | (refine go 60 (by decide) ?_; simp only [KX, KY, KZ, KW, KV, Nat.reduceAdd, Nat.reduceSub, Nat.reduceLeDiff, true_and, and_true, true_or, or_true, or_self, reduceCtorEq, if_true, if_false, not_false_eq_true, eq_self, c233, (hs _).e80, (hs _).e88, ai_at])
          first
            | (with_reducible show At 233 _ 10 _ _ _ _)
            | (refine go 60 (by decide) ?_; simp only [KX, KY, KZ, KW, KV, Nat.reduceAdd, Nat.reduceSub, Nat.reduceLeDiff, true_and, and_true, true_or, or_true, or_self, reduceCtorEq, if_true, if_false, not_false_eq_true, eq_self, c233, (hs _).e80, (hs _).e88, ai_at])
          first
            | (with_reducible show At 233 _ 10 _ _ _ _)
            | (refine go 60 (by decide) ?_; simp only [KX, KY, KZ, KW, KV, Nat.reduceAdd, Nat.reduceSub, Nat.reduceLeDiff, true_and, and_true, true_or, or_true, or_self, reduceCtorEq, if_true, if_false, not_false_eq_true, eq_self, c233, (hs _).e80, (hs _).e88, ai_at])
          rw [ma_set_set, nI_1 c]
          have ih2 := ih (c + 1) (by omega)
          rw [show upN (ai h2 88) (fun c => 91 * (4 + (m + 1)) + c) (fun c => if wst h S d c then 0 else -1) (c + 1) = upd (upN (ai h2 88) (fun c => 91 * (4 + (m + 1)) + c) (fun c => if wst h S d c then 0 else -1) c) (91 * (4 + (m + 1)) + c) (-1) by
            show upd (upN (ai h2 88) (fun c => 91 * (4 + (m + 1)) + c) (fun c => if wst h S d c then 0 else -1) c) (91 * (4 + (m + 1)) + c) (if wst h S d c then 0 else -1) = _
            rw [ew]
            rfl] at ih2
          exact At_le ih2 ⟨rfl, rfl, rfl, rfl, rfl, rfl, trivial⟩
        · rw [z]
          have ew : wst h S d c = true := by
              show (S c || gS _ _ S c) = true
              rw [eS, eK]
              show (false || !decide (fz (cS S) kk (nI a) c = 0)) = true
              rw [z]
              rfl
          first
            | (with_reducible show At 233 _ 32 _ _ _ _)
            | (refine go 60 (by decide) ?_; simp only [KX, KY, KZ, KW, KV, Nat.reduceAdd, Nat.reduceSub, Nat.reduceLeDiff, true_and, and_true, true_or, or_true, or_self, reduceCtorEq, if_true, if_false, not_false_eq_true, eq_self, c233, (hs _).e80, (hs _).e88, ai_at])
          first
            | (with_reducible show At 233 _ 32 _ _ _ _)
            | (refine go 60 (by decide) ?_; simp only [KX, KY, KZ, KW, KV, Nat.reduceAdd, Nat.reduceSub, Nat.reduceLeDiff, true_and, and_true, true_or, or_true, or_self, reduceCtorEq, if_true, if_false, not_false_eq_true, eq_self, c233, (hs _).e80, (hs _).e88, ai_at])
          first
            | (with_reducible show At 233 _ 32 _ _ _ _)
            | (refine go 60 (by decide) ?_; simp only [KX, KY, KZ, KW, KV, Nat.reduceAdd, Nat.reduceSub, Nat.reduceLeDiff, true_and, and_true, true_or, or_true, or_self, reduceCtorEq, if_true, if_false, not_false_eq_true, eq_self, c233, (hs _).e80, (hs _).e88, ai_at])
          refine go 60 (by decide) ?_
          simp only [KX, KY, KZ, KW, KV, Nat.reduceAdd, Nat.reduceSub, Nat.reduceLeDiff, true_and, and_true, true_or, or_true, or_self, reduceCtorEq, if_true, if_false, not_false_eq_true, eq_self, c233, (hs _).e80, (hs _).e88, ai_at]
          rw [nI_add, nI_clamp (show 91 * (4 + (m + 1)) + c < 2 ^ 31 by omega)]
          refine ⟨nI_in (show 91 * (4 + (m + 1)) + c < 910 by omega) (by decide), ?_⟩
          first
            | (with_reducible show At 233 _ 10 _ _ _ _)
            | (refine go 60 (by decide) ?_; simp only [KX, KY, KZ, KW, KV, Nat.reduceAdd, Nat.reduceSub, Nat.reduceLeDiff, true_and, and_true, true_or, or_true, or_self, reduceCtorEq, if_true, if_false, not_false_eq_true, eq_self, c233, (hs _).e80, (hs _).e88, ai_at])
          first
            | (with_reducible show At 233 _ 10 _ _ _ _)
            | (refine go 60 (by decide) ?_; simp only [KX, KY, KZ, KW, KV, Nat.reduceAdd, Nat.reduceSub, Nat.reduceLeDiff, true_and, and_true, true_or, or_true, or_self, reduceCtorEq, if_true, if_false, not_false_eq_true, eq_self, c233, (hs _).e80, (hs _).e88, ai_at])
          first
            | (with_reducible show At 233 _ 10 _ _ _ _)
            | (refine go 60 (by decide) ?_; simp only [KX, KY, KZ, KW, KV, Nat.reduceAdd, Nat.reduceSub, Nat.reduceLeDiff, true_and, and_true, true_or, or_true, or_self, reduceCtorEq, if_true, if_false, not_false_eq_true, eq_self, c233, (hs _).e80, (hs _).e88, ai_at])
          rw [ma_set_set, nI_1 c]
          have ih2 := ih (c + 1) (by omega)
          rw [show upN (ai h2 88) (fun c => 91 * (4 + (m + 1)) + c) (fun c => if wst h S d c then 0 else -1) (c + 1) = upd (upN (ai h2 88) (fun c => 91 * (4 + (m + 1)) + c) (fun c => if wst h S d c then 0 else -1) c) (91 * (4 + (m + 1)) + c) 0 by
            show upd (upN (ai h2 88) (fun c => 91 * (4 + (m + 1)) + c) (fun c => if wst h S d c then 0 else -1) c) (91 * (4 + (m + 1)) + c) (if wst h S d c then 0 else -1) = _
            rw [ew]
            rfl] at ih2
          exact At_le ih2 ⟨rfl, rfl, rfl, rfl, rfl, rfl, trivial⟩
      · rw [show bI true = 1 from rfl]
        have ew : wst h S d c = true := by
              show (S c || _) = true
              rw [eS]
              rfl
        first
          | (with_reducible show At 233 _ 32 _ _ _ _)
          | (refine go 60 (by decide) ?_; simp only [KX, KY, KZ, KW, KV, Nat.reduceAdd, Nat.reduceSub, Nat.reduceLeDiff, true_and, and_true, true_or, or_true, or_self, reduceCtorEq, if_true, if_false, not_false_eq_true, eq_self, c233, (hs _).e80, (hs _).e88, ai_at])
        first
          | (with_reducible show At 233 _ 32 _ _ _ _)
          | (refine go 60 (by decide) ?_; simp only [KX, KY, KZ, KW, KV, Nat.reduceAdd, Nat.reduceSub, Nat.reduceLeDiff, true_and, and_true, true_or, or_true, or_self, reduceCtorEq, if_true, if_false, not_false_eq_true, eq_self, c233, (hs _).e80, (hs _).e88, ai_at])
        first
          | (with_reducible show At 233 _ 32 _ _ _ _)
          | (refine go 60 (by decide) ?_; simp only [KX, KY, KZ, KW, KV, Nat.reduceAdd, Nat.reduceSub, Nat.reduceLeDiff, true_and, and_true, true_or, or_true, or_self, reduceCtorEq, if_true, if_false, not_false_eq_true, eq_self, c233, (hs _).e80, (hs _).e88, ai_at])
        refine go 60 (by decide) ?_
        simp only [KX, KY, KZ, KW, KV, Nat.reduceAdd, Nat.reduceSub, Nat.reduceLeDiff, true_and, and_true, true_or, or_true, or_self, reduceCtorEq, if_true, if_false, not_false_eq_true, eq_self, c233, (hs _).e80, (hs _).e88, ai_at]
        rw [nI_add, nI_clamp (show 91 * (4 + (m + 1)) + c < 2 ^ 31 by omega)]
        refine ⟨nI_in (show 91 * (4 + (m + 1)) + c < 910 by omega) (by decide), ?_⟩
        first
          | (with_reducible show At 233 _ 10 _ _ _ _)
          | (refine go 60 (by decide) ?_; simp only [KX, KY, KZ, KW, KV, Nat.reduceAdd, Nat.reduceSub, Nat.reduceLeDiff, true_and, and_true, true_or, or_true, or_self, reduceCtorEq, if_true, if_false, not_false_eq_true, eq_self, c233, (hs _).e80, (hs _).e88, ai_at])
        first
          | (with_reducible show At 233 _ 10 _ _ _ _)
          | (refine go 60 (by decide) ?_; simp only [KX, KY, KZ, KW, KV, Nat.reduceAdd, Nat.reduceSub, Nat.reduceLeDiff, true_and, and_true, true_or, or_true, or_self, reduceCtorEq, if_true, if_false, not_false_eq_true, eq_self, c233, (hs _).e80, (hs _).e88, ai_at])
        first
          | (with_reducible show At 233 _ 10 _ _ _ _)
          | (refine go 60 (by decide) ?_; simp only [KX, KY, KZ, KW, KV, Nat.reduceAdd, Nat.reduceSub, Nat.reduceLeDiff, true_and, and_true, true_or, or_true, or_self, reduceCtorEq, if_true, if_false, not_false_eq_true, eq_self, c233, (hs _).e80, (hs _).e88, ai_at])
        rw [ma_set_set, nI_1 c]
        have ih2 := ih (c + 1) (by omega)
        rw [show upN (ai h2 88) (fun c => 91 * (4 + (m + 1)) + c) (fun c => if wst h S d c then 0 else -1) (c + 1) = upd (upN (ai h2 88) (fun c => 91 * (4 + (m + 1)) + c) (fun c => if wst h S d c then 0 else -1) c) (91 * (4 + (m + 1)) + c) 0 by
          show upd (upN (ai h2 88) (fun c => 91 * (4 + (m + 1)) + c) (fun c => if wst h S d c then 0 else -1) c) (91 * (4 + (m + 1)) + c) (if wst h S d c then 0 else -1) = _
          rw [ew]
          rfl] at ih2
        exact At_le ih2 ⟨rfl, rfl, rfl, rfl, rfl, rfl, trivial⟩
  refine ma_enter (m := 233) (Or.inl (by decide)) (by show 3 ≤ mt_n 233; decide +kernel) ?_
  show At 233 Q 0 (mt_c 233) [some (.ref 80), some (.int (nI m)), some (.int (nI d)), none, none, none] [] h2
  refine go 60 (by decide) ?_
  simp only [KX, KY, KZ, KW, KV, Nat.reduceAdd, Nat.reduceSub, Nat.reduceLeDiff, true_and, and_true, true_or, or_true, or_self, reduceCtorEq, if_true, if_false, not_false_eq_true, eq_self, c233]
  refine s232 ?_
  refine go 60 (by decide) ?_
  simp only [KX, KY, KZ, KW, KV, Nat.reduceAdd, Nat.reduceSub, Nat.reduceLeDiff, true_and, and_true, true_or, or_true, or_self, reduceCtorEq, if_true, if_false, not_false_eq_true, eq_self, c233]
  rw [nI_1 m]
  refine s232 ?_
  refine go 60 (by decide) ?_
  simp only [KX, KY, KZ, KW, KV, Nat.reduceAdd, Nat.reduceSub, Nat.reduceLeDiff, true_and, and_true, true_or, or_true, or_self, reduceCtorEq, if_true, if_false, not_false_eq_true, eq_self, c233]
  have l0 := lp 91 0 rfl
  rw [show (ma_set h2 88 (.inl (.int, 910, .inl (upN (ai h2 88) (fun c => 91 * (4 + (m + 1)) + c) (fun c => if wst h S d c then 0 else -1) 0)))) = h2 from ma_set_id H.e88] at l0
  exact At_le l0 ⟨rfl, rfl, rfl, rfl, rfl, rfl, trivial⟩
theorem bg_seed : ∀ c, c < 91 → ml_bg c = if seed0 c then 0 else -1 := by decide +kernel
theorem ML.rt {h1 hh : ma_H} (R : Rt h1) (M : ML h1 hh) : Rt hh := R.cong fun a ha => M.2.2.1 a (by omega) (by omega) (by omega)
theorem LR.seed {h2 : ma_H} (H : Sh h2) : LR (ma_set h2 88 (.inl (.int, 910, .inl (ml_beg (ai h2 88) 364 91)))) 0 seed0 := by
  intro c hc
  rw [ai_at, show 91 * (4 + 0) + c = 364 + c from rfl, ml_beg_at _ _ hc]
  exact bg_seed c hc
theorem s234 {h h1 h2 : ma_H} {Q : ma_Q} {n code gc : Nat} (M : ML h1 h2) (Rh : Rt h1) (e90 : ai h1 90 = ai h 90) (g6 : gc ≤ 6) (G : ∀ i, i < gc → ∃ r kk a, ar h 48 i = some r ∧ 115 ≤ r ∧ r < h.1 ∧ kk < 6 ∧ a < 64 ∧ h.2.1 r = g_obj kk i a ∧ ai h 90 (2 * i) = nI kk ∧ ai h 90 (2 * i + 1) = nI a) (hn : n < 4) (hc : code < 6 ^ n) (V : VD gc n (by0 n) code = true) (k0 : ∀ h3, ML h1 h3 → (∀ a, a ≠ 88 → h3.2.1 a = h2.2.1 a) → LR h3 n (TW h gc (fw gc n (by0 n) code 0)) → Q none h3) : ma_X 234 [.ref 80, .int (nI n), .int (nI code)] h2 Q := by
  have lp : ∀ m j b left w h3, j + m = n → left < 216 → (b = 1 ∨ b = 6 ∨ b = 36) → VD gc m b left = true → w < Pn gc j → ML h1 h3 → (∀ a, a ≠ 88 → h3.2.1 a = h2.2.1 a) → LR h3 j (TW h gc w) → (∀ h4, ML h1 h4 → (∀ a, a ≠ 88 → h4.2.1 a = h2.2.1 a) → LR h4 n (TW h gc (fw gc m b left w)) → Q none h4) → At 234 Q 20 (0, 0) [some (.ref 80), some (.int (nI n)), some (.int (nI code)), some (.int (nI b)), some (.int (nI left)), some (.int (nI j))] [] h3 := by
    intro m
    induction m with
    | zero =>
      intro j b left w h3 ej hl wb V hP M3 U3 L kq
      obtain rfl : j = n := by omega
      refine go 60 (by decide) ?_
      simp only [KX, KY, KZ, KW, KV, Nat.reduceAdd, Nat.reduceSub, Nat.reduceLeDiff, true_and, and_true, true_or, or_true, or_self, reduceCtorEq, if_true, if_false, not_false_eq_true, eq_self, c234]
      rw [if_neg (nI_nlt (Nat.le_refl _) (by omega))]
      exact kq h3 M3 U3 L
    | succ m ih =>
      intro j b left w h3 ej hl wb V hP M3 U3 L kq
      have hP2 : ∀ {d}, d < gc → w * gc + 1 + d < Pn gc (j + 1) := fun hd => Pn_child hP hd
      refine go 60 (by decide) ?_
      simp only [KX, KY, KZ, KW, KV, Nat.reduceAdd, Nat.reduceSub, Nat.reduceLeDiff, true_and, and_true, true_or, or_true, or_self, reduceCtorEq, if_true, if_false, not_false_eq_true, eq_self, c234, (M3.1).e80]
      have b0 : 0 < b := by omega
      have b36 : b ≤ 36 := by omega
      rw [if_pos (nI_lt (show j < n by omega) (by omega)), nI_div (a := left) (b := b) (by omega) (by omega)]
      have Vd : left / b < gc ∧ VD gc m (nby b) (left % b) = true := by
        have V : (decide (left / b < gc) && VD gc m (nby b) (left % b)) = true := V
        rw [Bool.and_eq_true] at V
        exact ⟨of_decide_eq_true V.1, V.2⟩
      obtain ⟨v1, v2⟩ := Vd
      obtain ⟨r, kk, a, -, -, -, hk, ha, -, f90, f91⟩ := G _ v1
      have e90b : ai h3 90 = ai h 90 := (ai_c (M3.2.2.1 90 (by decide) (by decide) (by decide))).trans e90
      have bz : ¬ nI b = 0 := fun z => absurd ((nI_eq (a := b) (b := 0) (by omega) (by decide)).mp z) (by omega)
      refine ⟨bz, ?_⟩
      refine s233 (h := h) (S := TW h gc w) (kk := kk) (a := a) M3.1 (M3.rt Rh) (by omega) L (by omega) hk ha e90b (by rw [e90b]; exact f90) (by rw [e90b]; exact f91) ?_
      refine go 60 (by decide) ?_
      simp only [KX, KY, KZ, KW, KV, Nat.reduceAdd, Nat.reduceSub, Nat.reduceLeDiff, true_and, and_true, true_or, or_true, or_self, reduceCtorEq, if_true, if_false, not_false_eq_true, eq_self, c234]
      rw [nI_rem (a := left) (b := b) (by omega) (by omega)]
      refine ⟨bz, ?_⟩
      have lm := Nat.mod_lt left b0
      have ld : left % b ≤ left := Nat.mod_le left b
      have nx : At 234 Q 20 (0, 0) [some (.ref 80), some (.int (nI n)), some (.int (nI code)), some (.int (nI (nby b))), some (.int (nI (left % b))), some (.int (nI (j + 1)))] [] (ma_set h3 88 (.inl (.int, 910, .inl (upN (ai h3 88) (fun c => 91 * (4 + (j + 1)) + c) (fun c => if wst h (TW h gc w) (left / b) c then 0 else -1) 91)))) := by
        refine ih (j + 1) (nby b) (left % b) _ _ (by omega) (by omega) ?_ v2 (hP2 v1) ⟨sh_set M3.1 rfl, M3.2.1, fun a a1 a2 a3 => (ma_set_ne _ _ a1).trans (M3.2.2.1 a a1 a2 a3), fun x hx => ?_⟩ (fun a a1 => (ma_set_ne _ _ a1).trans (U3 a a1)) ?_ (fun h4 m4 u4 l4 => kq h4 m4 u4 l4)
        · unfold nby
          rcases wb with z | z | z
          · rw [z]; decide
          · rw [z]; decide
          · rw [z]; decide
        · rw [ai_at, upN_ne 91 (fun i hi => by omega)]
          exact M3.2.2.2 x hx
        · intro c hc
          rw [ai_at, upN_at (p := fun c => 91 * (4 + (j + 1)) + c) 91 (fun i j2 _ _ e => by omega) c hc, TW_child h v1 (Pn_le (by omega) hP)]
      by_cases c : b ≤ 1
      · rw [if_pos (show nI b ≤ (1 : Int32) from nI_le (b := 1) c (by decide))]
        first
          | (with_reducible show At 234 _ 20 _ _ _ _)
          | (refine go 60 (by decide) ?_; simp only [KX, KY, KZ, KW, KV, Nat.reduceAdd, Nat.reduceSub, Nat.reduceLeDiff, true_and, and_true, true_or, or_true, or_self, reduceCtorEq, if_true, if_false, not_false_eq_true, eq_self, c234])
        first
          | (with_reducible show At 234 _ 20 _ _ _ _)
          | (refine go 60 (by decide) ?_; simp only [KX, KY, KZ, KW, KV, Nat.reduceAdd, Nat.reduceSub, Nat.reduceLeDiff, true_and, and_true, true_or, or_true, or_self, reduceCtorEq, if_true, if_false, not_false_eq_true, eq_self, c234])
        first
          | (with_reducible show At 234 _ 20 _ _ _ _)
          | (refine go 60 (by decide) ?_; simp only [KX, KY, KZ, KW, KV, Nat.reduceAdd, Nat.reduceSub, Nat.reduceLeDiff, true_and, and_true, true_or, or_true, or_self, reduceCtorEq, if_true, if_false, not_false_eq_true, eq_self, c234])
        rw [show nby b = 1 from if_pos c] at nx
        rw [nI_1 j]
        exact At_le nx ⟨rfl, rfl, rfl, rfl, rfl, rfl, trivial⟩
      · rw [if_neg (show ¬ nI b ≤ (1 : Int32) from nI_ge (a := 1) (by omega) (by omega))]
        rw [show nI b / 6 = nI (b / 6) from nI_div (b := 6) (by omega) (by decide)]
        first
          | (with_reducible show At 234 _ 20 _ _ _ _)
          | (refine go 60 (by decide) ?_; simp only [KX, KY, KZ, KW, KV, Nat.reduceAdd, Nat.reduceSub, Nat.reduceLeDiff, true_and, and_true, true_or, or_true, or_self, reduceCtorEq, if_true, if_false, not_false_eq_true, eq_self, c234])
        first
          | (with_reducible show At 234 _ 20 _ _ _ _)
          | (refine go 60 (by decide) ?_; simp only [KX, KY, KZ, KW, KV, Nat.reduceAdd, Nat.reduceSub, Nat.reduceLeDiff, true_and, and_true, true_or, or_true, or_self, reduceCtorEq, if_true, if_false, not_false_eq_true, eq_self, c234])
        first
          | (with_reducible show At 234 _ 20 _ _ _ _)
          | (refine go 60 (by decide) ?_; simp only [KX, KY, KZ, KW, KV, Nat.reduceAdd, Nat.reduceSub, Nat.reduceLeDiff, true_and, and_true, true_or, or_true, or_self, reduceCtorEq, if_true, if_false, not_false_eq_true, eq_self, c234])
        rw [show nby b = b / 6 from if_neg c] at nx
        rw [nI_1 j]
        exact At_le nx ⟨rfl, rfl, rfl, rfl, rfl, rfl, trivial⟩
  refine ma_enter (m := 234) (Or.inl (by decide)) (by show 3 ≤ mt_n 234; decide +kernel) ?_
  show At 234 Q 0 (mt_c 234) [some (.ref 80), some (.int (nI n)), some (.int (nI code)), none, none, none] [] h2
  refine go 60 (by decide) ?_
  simp only [KX, KY, KZ, KW, KV, Nat.reduceAdd, Nat.reduceSub, Nat.reduceLeDiff, true_and, and_true, true_or, or_true, or_self, reduceCtorEq, if_true, if_false, not_false_eq_true, eq_self, c234, M.1.e80]
  refine s232 (m := 0) ?_
  refine go 60 (by decide) ?_
  simp only [KX, KY, KZ, KW, KV, Nat.reduceAdd, Nat.reduceSub, Nat.reduceLeDiff, true_and, and_true, true_or, or_true, or_self, reduceCtorEq, if_true, if_false, not_false_eq_true, eq_self, c234, M.1.e80]
  refine s169 (A := 364) M.1 (M.rt Rh) (by decide) ?_
  have M0 : ML h1 (ma_set h2 88 (.inl (.int, 910, .inl (ml_beg (ai h2 88) 364 91)))) := ⟨sh_set M.1 rfl, M.2.1, fun a a1 a2 a3 => (ma_set_ne _ _ a1).trans (M.2.2.1 a a1 a2 a3), fun x hx => by rw [ai_at]; show upN (ai h2 88) (fun c => 364 + c) ml_bg 91 x = _; rw [upN_ne 91 (fun i hi => by omega)]; exact M.2.2.2 x hx⟩
  have c216 : code < 216 := Nat.lt_of_lt_of_le hc (Nat.le_trans (Nat.pow_le_pow_right (by decide) (show n ≤ 3 by omega)) (by decide))
  have l0 := fun b hb V => lp n 0 b code 0 _ (by omega) c216 hb V (show 0 < 1 by decide) M0 (fun a a1 => ma_set_ne _ _ a1) (LR.seed M.1)
  rcases (show n = 0 ∨ n = 1 ∨ n = 2 ∨ n = 3 by omega) with rfl | rfl | rfl | rfl
  · have lx := l0 1 (by decide) V (fun h4 m4 u4 l4 => k0 h4 m4 u4 l4)
    refine go 60 (by decide) ?_
    simp only [KX, KY, KZ, KW, KV, Nat.reduceAdd, Nat.reduceSub, Nat.reduceLeDiff, true_and, and_true, true_or, or_true, or_self, reduceCtorEq, if_true, if_false, not_false_eq_true, eq_self, c234, show (nI 0 = 0) = True from by decide, show (nI 0 = 1) = False from by decide, show (nI 0 = 2) = False from by decide, show (nI 0 = 3) = False from by decide]
    first
      | (with_reducible show At 234 _ 20 _ _ _ _)
      | (refine go 60 (by decide) ?_; simp only [KX, KY, KZ, KW, KV, Nat.reduceAdd, Nat.reduceSub, Nat.reduceLeDiff, true_and, and_true, true_or, or_true, or_self, reduceCtorEq, if_true, if_false, not_false_eq_true, eq_self, c234, show (nI 0 = 0) = True from by decide, show (nI 0 = 1) = False from by decide, show (nI 0 = 2) = False from by decide, show (nI 0 = 3) = False from by decide])
    first
      | (with_reducible show At 234 _ 20 _ _ _ _)
      | (refine go 60 (by decide) ?_; simp only [KX, KY, KZ, KW, KV, Nat.reduceAdd, Nat.reduceSub, Nat.reduceLeDiff, true_and, and_true, true_or, or_true, or_self, reduceCtorEq, if_true, if_false, not_false_eq_true, eq_self, c234, show (nI 0 = 0) = True from by decide, show (nI 0 = 1) = False from by decide, show (nI 0 = 2) = False from by decide, show (nI 0 = 3) = False from by decide])
    first
      | (with_reducible show At 234 _ 20 _ _ _ _)
      | (refine go 60 (by decide) ?_; simp only [KX, KY, KZ, KW, KV, Nat.reduceAdd, Nat.reduceSub, Nat.reduceLeDiff, true_and, and_true, true_or, or_true, or_self, reduceCtorEq, if_true, if_false, not_false_eq_true, eq_self, c234, show (nI 0 = 0) = True from by decide, show (nI 0 = 1) = False from by decide, show (nI 0 = 2) = False from by decide, show (nI 0 = 3) = False from by decide])
    exact At_le lx ⟨rfl, rfl, rfl, rfl, rfl, rfl, trivial⟩
  · have lx := l0 1 (by decide) V (fun h4 m4 u4 l4 => k0 h4 m4 u4 l4)
    refine go 60 (by decide) ?_
    simp only [KX, KY, KZ, KW, KV, Nat.reduceAdd, Nat.reduceSub, Nat.reduceLeDiff, true_and, and_true, true_or, or_true, or_self, reduceCtorEq, if_true, if_false, not_false_eq_true, eq_self, c234, show (nI 1 = 0) = False from by decide, show (nI 1 = 1) = True from by decide, show (nI 1 = 2) = False from by decide, show (nI 1 = 3) = False from by decide]
    first
      | (with_reducible show At 234 _ 20 _ _ _ _)
      | (refine go 60 (by decide) ?_; simp only [KX, KY, KZ, KW, KV, Nat.reduceAdd, Nat.reduceSub, Nat.reduceLeDiff, true_and, and_true, true_or, or_true, or_self, reduceCtorEq, if_true, if_false, not_false_eq_true, eq_self, c234, show (nI 1 = 0) = False from by decide, show (nI 1 = 1) = True from by decide, show (nI 1 = 2) = False from by decide, show (nI 1 = 3) = False from by decide])
    first
      | (with_reducible show At 234 _ 20 _ _ _ _)
      | (refine go 60 (by decide) ?_; simp only [KX, KY, KZ, KW, KV, Nat.reduceAdd, Nat.reduceSub, Nat.reduceLeDiff, true_and, and_true, true_or, or_true, or_self, reduceCtorEq, if_true, if_false, not_false_eq_true, eq_self, c234, show (nI 1 = 0) = False from by decide, show (nI 1 = 1) = True from by decide, show (nI 1 = 2) = False from by decide, show (nI 1 = 3) = False from by decide])
    first
      | (with_reducible show At 234 _ 20 _ _ _ _)
      | (refine go 60 (by decide) ?_; simp only [KX, KY, KZ, KW, KV, Nat.reduceAdd, Nat.reduceSub, Nat.reduceLeDiff, true_and, and_true, true_or, or_true, or_self, reduceCtorEq, if_true, if_false, not_false_eq_true, eq_self, c234, show (nI 1 = 0) = False from by decide, show (nI 1 = 1) = True from by decide, show (nI 1 = 2) = False from by decide, show (nI 1 = 3) = False from by decide])
    exact At_le lx ⟨rfl, rfl, rfl, rfl, rfl, rfl, trivial⟩
  · have lx := l0 6 (by decide) V (fun h4 m4 u4 l4 => k0 h4 m4 u4 l4)
    refine go 60 (by decide) ?_
    simp only [KX, KY, KZ, KW, KV, Nat.reduceAdd, Nat.reduceSub, Nat.reduceLeDiff, true_and, and_true, true_or, or_true, or_self, reduceCtorEq, if_true, if_false, not_false_eq_true, eq_self, c234, show (nI 2 = 0) = False from by decide, show (nI 2 = 1) = False from by decide, show (nI 2 = 2) = True from by decide, show (nI 2 = 3) = False from by decide]
    first
      | (with_reducible show At 234 _ 20 _ _ _ _)
      | (refine go 60 (by decide) ?_; simp only [KX, KY, KZ, KW, KV, Nat.reduceAdd, Nat.reduceSub, Nat.reduceLeDiff, true_and, and_true, true_or, or_true, or_self, reduceCtorEq, if_true, if_false, not_false_eq_true, eq_self, c234, show (nI 2 = 0) = False from by decide, show (nI 2 = 1) = False from by decide, show (nI 2 = 2) = True from by decide, show (nI 2 = 3) = False from by decide])
    first
      | (with_reducible show At 234 _ 20 _ _ _ _)
      | (refine go 60 (by decide) ?_; simp only [KX, KY, KZ, KW, KV, Nat.reduceAdd, Nat.reduceSub, Nat.reduceLeDiff, true_and, and_true, true_or, or_true, or_self, reduceCtorEq, if_true, if_false, not_false_eq_true, eq_self, c234, show (nI 2 = 0) = False from by decide, show (nI 2 = 1) = False from by decide, show (nI 2 = 2) = True from by decide, show (nI 2 = 3) = False from by decide])
    first
      | (with_reducible show At 234 _ 20 _ _ _ _)
      | (refine go 60 (by decide) ?_; simp only [KX, KY, KZ, KW, KV, Nat.reduceAdd, Nat.reduceSub, Nat.reduceLeDiff, true_and, and_true, true_or, or_true, or_self, reduceCtorEq, if_true, if_false, not_false_eq_true, eq_self, c234, show (nI 2 = 0) = False from by decide, show (nI 2 = 1) = False from by decide, show (nI 2 = 2) = True from by decide, show (nI 2 = 3) = False from by decide])
    exact At_le lx ⟨rfl, rfl, rfl, rfl, rfl, rfl, trivial⟩
  · have lx := l0 36 (by decide) V (fun h4 m4 u4 l4 => k0 h4 m4 u4 l4)
    refine go 60 (by decide) ?_
    simp only [KX, KY, KZ, KW, KV, Nat.reduceAdd, Nat.reduceSub, Nat.reduceLeDiff, true_and, and_true, true_or, or_true, or_self, reduceCtorEq, if_true, if_false, not_false_eq_true, eq_self, c234, show (nI 3 = 0) = False from by decide, show (nI 3 = 1) = False from by decide, show (nI 3 = 2) = False from by decide, show (nI 3 = 3) = True from by decide]
    first
      | (with_reducible show At 234 _ 20 _ _ _ _)
      | (refine go 60 (by decide) ?_; simp only [KX, KY, KZ, KW, KV, Nat.reduceAdd, Nat.reduceSub, Nat.reduceLeDiff, true_and, and_true, true_or, or_true, or_self, reduceCtorEq, if_true, if_false, not_false_eq_true, eq_self, c234, show (nI 3 = 0) = False from by decide, show (nI 3 = 1) = False from by decide, show (nI 3 = 2) = False from by decide, show (nI 3 = 3) = True from by decide])
    first
      | (with_reducible show At 234 _ 20 _ _ _ _)
      | (refine go 60 (by decide) ?_; simp only [KX, KY, KZ, KW, KV, Nat.reduceAdd, Nat.reduceSub, Nat.reduceLeDiff, true_and, and_true, true_or, or_true, or_self, reduceCtorEq, if_true, if_false, not_false_eq_true, eq_self, c234, show (nI 3 = 0) = False from by decide, show (nI 3 = 1) = False from by decide, show (nI 3 = 2) = False from by decide, show (nI 3 = 3) = True from by decide])
    first
      | (with_reducible show At 234 _ 20 _ _ _ _)
      | (refine go 60 (by decide) ?_; simp only [KX, KY, KZ, KW, KV, Nat.reduceAdd, Nat.reduceSub, Nat.reduceLeDiff, true_and, and_true, true_or, or_true, or_self, reduceCtorEq, if_true, if_false, not_false_eq_true, eq_self, c234, show (nI 3 = 0) = False from by decide, show (nI 3 = 1) = False from by decide, show (nI 3 = 2) = False from by decide, show (nI 3 = 3) = True from by decide])
    exact At_le lx ⟨rfl, rfl, rfl, rfl, rfl, rfl, trivial⟩
