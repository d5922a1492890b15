/-! forms -/
theorem l_or0 (x : Int64) : x ||| lN 0 = x := by
  refine l_ext fun j _ => ?_
  rw [Int64.toBitVec_or, BitVec.getLsbD_or]
  show (_ || (0#64).getLsbD j) = _
  simp
theorem sub60 : ∀ j, j < 31 → nI (60 + j) - 60 = nI j := by decide +kernel
theorem bt_no {S : Bs} {off n : Nat} (e : S (off + n) = false) : bt S off (n + 1) = bt S off n := by
  show bt S off n ||| (if S (off + n) then ob n else lN 0) = _
  rw [e]
  exact l_or0 _
theorem bt_yes {S : Bs} {off n : Nat} (e : S (off + n) = true) : bt S off (n + 1) = bt S off n ||| ob n := by
  show bt S off n ||| (if S (off + n) then ob n else lN 0) = _
  rw [e]
  rfl
theorem lk_60 {S F : Bs} : lk S F 91 = true ↔ bt S 0 60 = bt F 0 60 ∧ bt S 60 31 = bt F 60 31 := by
  rw [bt_eq (by decide), bt_eq (by decide)]
  constructor
  · intro e
    have w := lk_of 91 e
    exact ⟨fun j hj => w _ (by omega), fun j hj => w _ (by omega)⟩
  · intro ⟨a, b⟩
    refine lk_true 91 fun c hc => ?_
    by_cases z : c < 60
    · have := a c z
      rw [Nat.zero_add] at this
      exact this
    · have := b (c - 60) (by omega)
      rw [show 60 + (c - 60) = c by omega] at this
      exact this
/-- no row of the first m holds a, b -/
def isn (lo hi : Nat → Int64) (a b : Int64) : Nat → Bool
  | 0 => true
  | m + 1 => isn lo hi a b m && !(decide (lo m = a) && decide (hi m = b))
theorem isn_false {lo hi : Nat → Int64} {a b : Int64} {m : Nat} (h : isn lo hi a b m = false) : ∀ d, isn lo hi a b (m + d) = false
  | 0 => h
  | d + 1 => by
    show (isn lo hi a b (m + d) && _) = false
    rw [isn_false h d, Bool.false_and]
theorem isn_all {lo hi : Nat → Int64} {a b : Int64} : ∀ m, isn lo hi a b m = true ↔ ∀ k, k < m → ¬ (lo k = a ∧ hi k = b)
  | 0 => ⟨fun _ k hk => absurd hk (Nat.not_lt_zero k), fun _ => rfl⟩
  | m + 1 => by
    show (isn lo hi a b m && !(decide (lo m = a) && decide (hi m = b))) = true ↔ _
    rw [Bool.and_eq_true, isn_all m]
    constructor
    · intro ⟨x, y⟩ k hk ⟨z1, z2⟩
      rcases Nat.lt_or_ge k m with c | c
      · exact x k c ⟨z1, z2⟩
      · obtain rfl : k = m := by omega
        rw [decide_eq_true z1, decide_eq_true z2] at y
        exact absurd y (by decide)
    · intro x
      refine ⟨fun k hk => x k (by omega), ?_⟩
      have y := x m (by omega)
      by_cases z1 : lo m = a
      · by_cases z2 : hi m = b
        · exact absurd ⟨z1, z2⟩ y
        · rw [decide_eq_false z2, Bool.and_false]
          rfl
      · rw [decide_eq_false z1, Bool.false_and]
        rfl
theorem nw_all {e : Nat → Nat → Bool} {A w : Nat} : ∀ j, nw e A j w = true ↔ ∀ i, i < j → e (A + i) w = false
  | 0 => ⟨fun _ k hk => absurd hk (Nat.not_lt_zero k), fun _ => rfl⟩
  | j + 1 => by
    show (nw e A j w && !(e (A + j) w)) = true ↔ _
    rw [Bool.and_eq_true, nw_all j]
    constructor
    · intro ⟨x, y⟩ i hi
      rcases Nat.lt_or_ge i j with c | c
      · exact x i c
      · obtain rfl : i = j := by omega
        cases z : e (A + i) w
        · rfl
        · rw [z] at y
          exact absurd y (by decide)
    · intro x
      exact ⟨fun i hi => x i (by omega), by rw [x j (by omega)]; rfl⟩
/-- the rows held are the ways, each once -/
def RI (h : ma_H) (gc A : Nat) (hh : ma_H) (m V : Nat) : Prop := (∀ k, k < m → ∃ j, j < V ∧ al hh 102 k = bt (TW h gc (A + j)) 0 60 ∧ al hh 103 k = bt (TW h gc (A + j)) 60 31) ∧ ∀ j, j < V → ∃ k, k < m ∧ al hh 102 k = bt (TW h gc (A + j)) 0 60 ∧ al hh 103 k = bt (TW h gc (A + j)) 60 31
theorem RI.new {h hh : ma_H} {gc A m V : Nat} (R : RI h gc A hh m V) (w : Nat) : isn (al hh 102) (al hh 103) (bt (TW h gc w) 0 60) (bt (TW h gc w) 60 31) m = nw (eqw h gc) A V w := by
  have i : isn (al hh 102) (al hh 103) (bt (TW h gc w) 0 60) (bt (TW h gc w) 60 31) m = true ↔ nw (eqw h gc) A V w = true := by
    rw [isn_all, nw_all]
    constructor
    · intro x j hj
      obtain ⟨k, hk, a, b⟩ := R.2 j hj
      cases z : eqw h gc (A + j) w
      · rfl
      · obtain ⟨z1, z2⟩ := lk_60.mp z
        exact absurd ⟨a.trans z1, b.trans z2⟩ (x k hk)
    · intro x k hk ⟨z1, z2⟩
      obtain ⟨j, hj, a, b⟩ := R.1 k hk
      have y := x j hj
      rw [show eqw h gc (A + j) w = true from lk_60.mpr ⟨a.symm.trans z1, b.symm.trans z2⟩] at y
      exact absurd y (by decide)
  cases a : isn (al hh 102) (al hh 103) (bt (TW h gc w) 0 60) (bt (TW h gc w) 60 31) m <;> cases b : nw (eqw h gc) A V w
  · rfl
  · rw [a, b] at i
    exact absurd (i.mpr rfl) (by decide)
  · rw [a, b] at i
    exact absurd (i.mp rfl) (by decide)
  · rfl
theorem vc_le (gc n : Nat) : ∀ c, vc gc n c ≤ c
  | 0 => Nat.le_refl _
  | c + 1 => by
    show vc gc n c + (if AG gc n c then 1 else 0) ≤ c + 1
    have := vc_le gc n c
    split <;> omega
theorem s240 {h h1 : ma_H} {Q : ma_Q} {n gc : Nat} (M0 : ML h1 h1) (Rh : Rt h1) (hn : n < 4) (e90 : ai h1 90 = ai h 90) (e9 : fi h1 80 9 = nI gc) (g6 : gc ≤ 6) (gn : 0 < n → 1 ≤ gc) (G : ∀ i, i < gc → ∃ r kk a, ar h 48 i = some r ∧ 115 ≤ r ∧ r < h.1 ∧ kk < 6 ∧ a < 64 ∧ h.2.1 r = g_obj kk i a ∧ ai h 90 (2 * i) = nI kk ∧ ai h 90 (2 * i + 1) = nI a) (k0 : ∀ h3, ML h1 h3 → Q (some (.int (nI (dnw (eqw h gc) (offn gc n) (gc ^ n))))) h3) : ma_X 240 [.ref 80, .int (nI n)] h1 Q := by
  have n216 : 6 ^ n ≤ 216 := Nat.le_trans (Nat.pow_le_pow_right (by decide) (show n ≤ 3 by omega)) (by decide)
  have lp : ∀ m c h3, c + m = 6 ^ n → ML h1 h3 → RI h gc (offn gc n) h3 (dnw (eqw h gc) (offn gc n) (vc gc n c)) (vc gc n c) → At 240 Q 18 (0, 0) [some (.ref 80), some (.int (nI n)), some (.int (nI (dnw (eqw h gc) (offn gc n) (vc gc n c)))), some (.int (nI c)), none, none, none, none, none, none] [] h3 := by
    intro m
    induction m with
    | zero =>
      intro c h3 ec M3 R3
      obtain rfl : c = 6 ^ n := ec
      refine go 60 (by decide) ?_
      simp only [KX, KY, KZ, KW, KV, Nat.reduceAdd, Nat.reduceSub, Nat.reduceLeDiff, true_and, and_true, true_or, or_true, or_self, reduceCtorEq, if_true, if_false, not_false_eq_true, eq_self, c240]
      refine s235 hn ?_
      refine go 60 (by decide) ?_
      simp only [KX, KY, KZ, KW, KV, Nat.reduceAdd, Nat.reduceSub, Nat.reduceLeDiff, true_and, and_true, true_or, or_true, or_self, reduceCtorEq, if_true, if_false, not_false_eq_true, eq_self, c240]
      rw [if_neg (nI_nlt (Nat.le_refl _) (by omega)), (vc_ok gc (by omega) n hn).1]
      exact k0 h3 M3
    | succ m ih =>
      intro c h3 ec M3 R3
      have hc : c < 6 ^ n := by omega
      have e9b : fi h3 80 9 = nI gc := by
        show fiC (h3.2.1 80) 9 = _
        rw [M3.2.2.1 80 (by decide) (by decide) (by decide)]
        exact e9
      refine go 60 (by decide) ?_
      simp only [KX, KY, KZ, KW, KV, Nat.reduceAdd, Nat.reduceSub, Nat.reduceLeDiff, true_and, and_true, true_or, or_true, or_self, reduceCtorEq, if_true, if_false, not_false_eq_true, eq_self, c240]
      refine s235 hn ?_
      refine go 60 (by decide) ?_
      simp only [KX, KY, KZ, KW, KV, Nat.reduceAdd, Nat.reduceSub, Nat.reduceLeDiff, true_and, and_true, true_or, or_true, or_self, reduceCtorEq, if_true, if_false, not_false_eq_true, eq_self, c240, (M3.1).e80]
      rw [if_pos (nI_lt hc (by omega))]
      refine s236 M3.1 e9b g6 hn (by omega) ?_
      cases a : AG gc n c
      · have v1 : vc gc n (c + 1) = vc gc n c := by
          show vc gc n c + (if AG gc n c then 1 else 0) = _
          rw [a]
          rfl
        have ih2 := ih (c + 1) h3 (by omega) M3 (by rw [v1]; exact R3)
        rw [v1] at ih2
        rw [show bI false = 0 from rfl]
        first
          | (with_reducible show At 240 _ 18 _ _ _ _)
          | (refine go 60 (by decide) ?_; simp only [KX, KY, KZ, KW, KV, Nat.reduceAdd, Nat.reduceSub, Nat.reduceLeDiff, true_and, and_true, true_or, or_true, or_self, reduceCtorEq, if_true, if_false, not_false_eq_true, eq_self, c240])
        first
          | (with_reducible show At 240 _ 18 _ _ _ _)
          | (refine go 60 (by decide) ?_; simp only [KX, KY, KZ, KW, KV, Nat.reduceAdd, Nat.reduceSub, Nat.reduceLeDiff, true_and, and_true, true_or, or_true, or_self, reduceCtorEq, if_true, if_false, not_false_eq_true, eq_self, c240])
        first
          | (with_reducible show At 240 _ 18 _ _ _ _)
          | (refine go 60 (by decide) ?_; simp only [KX, KY, KZ, KW, KV, Nat.reduceAdd, Nat.reduceSub, Nat.reduceLeDiff, true_and, and_true, true_or, or_true, or_self, reduceCtorEq, if_true, if_false, not_false_eq_true, eq_self, c240])
        rw [nI_1 c]
        exact At_le ih2 ⟨rfl, rfl, rfl, rfl, trivial⟩
      · have v1 : vc gc n (c + 1) = vc gc n c + 1 := by
          show vc gc n c + (if AG gc n c then 1 else 0) = _
          rw [a]
          rfl
        have wo : wv gc n c = offn gc n + vc gc n c := by
          rw [offn_off gc (by omega) n hn]
          exact ((vc_ok gc (by omega) n hn).2 c hc a).1
        have vl : vc gc n c ≤ c := vc_le gc n c
        have dl := dnw_le (eqw h gc) (offn gc n) (vc gc n c)
        rw [show bI true = 1 from rfl]
        refine go 60 (by decide) ?_
        simp only [KX, KY, KZ, KW, KV, Nat.reduceAdd, Nat.reduceSub, Nat.reduceLeDiff, true_and, and_true, true_or, or_true, or_self, reduceCtorEq, if_true, if_false, not_false_eq_true, eq_self, c240, (M3.1).e80]
        refine s234 (gc := gc) M3 Rh e90 g6 G hn hc (by rw [← AG_VD gc (by omega) n hn c hc]; exact a) (fun h4 M4 U4 L4 => ?_)
        have R4 : RI h gc (offn gc n) h4 (dnw (eqw h gc) (offn gc n) (vc gc n c)) (vc gc n c) := by
          unfold RI
          rw [show al h4 102 = al h3 102 by show alC (h4.2.1 102) = alC (h3.2.1 102); rw [U4 102 (by decide)], show al h4 103 = al h3 103 by show alC (h4.2.1 103) = alC (h3.2.1 103); rw [U4 103 (by decide)]]
          exact R3
        have L4 : LR h4 n (TW h gc (wv gc n c)) := L4
        have row : ∀ x, x < 91 → fl_has (ai h4 88) (91 * (4 + n) + x) = bI ((TW h gc (wv gc n c)) x) := fun x hx => by
          unfold fl_has
          rw [L4 x hx]
          cases (TW h gc (wv gc n c)) x <;> decide
        have hs102 : ∀ g, Sh (ma_set h4 102 (.inl (.long, 216, .inr (.inl g)))) := fun g => sh_set M4.1 rfl
        have RIn : (isn (al h4 102) (al h4 103) (bt (TW h gc (wv gc n c)) 0 60) (bt (TW h gc (wv gc n c)) 60 31) (dnw (eqw h gc) (offn gc n) (vc gc n c))) = false → RI h gc (offn gc n) h4 (dnw (eqw h gc) (offn gc n) (vc gc n c)) (vc gc n c + 1) := fun b => ⟨fun k hk => by
            obtain ⟨j, hj, a, b⟩ := R4.1 k hk
            exact ⟨j, by omega, a, b⟩, fun j hj => by
            rcases Nat.lt_or_ge j (vc gc n c) with y | y
            · exact R4.2 j y
            · obtain rfl : j = vc gc n c := by omega
              rw [← wo]
              have nb : ¬ ∀ k, k < (dnw (eqw h gc) (offn gc n) (vc gc n c)) → ¬ (al h4 102 k = bt (TW h gc (wv gc n c)) 0 60 ∧ al h4 103 k = bt (TW h gc (wv gc n c)) 60 31) := fun w => by
                rw [(isn_all _).mpr w] at b
                exact absurd b (by decide)
              exact Classical.byContradiction fun w => nb fun k hk z => w ⟨k, hk, z⟩⟩
        have RIy : (isn (al h4 102) (al h4 103) (bt (TW h gc (wv gc n c)) 0 60) (bt (TW h gc (wv gc n c)) 60 31) (dnw (eqw h gc) (offn gc n) (vc gc n c))) = true → RI h gc (offn gc n) (ma_set (ma_set h4 102 (.inl (.long, 216, .inr (.inl (vp_updL (al h4 102) (dnw (eqw h gc) (offn gc n) (vc gc n c)) (bt (TW h gc (wv gc n c)) 0 60)))))) 103 (.inl (.long, 216, .inr (.inl (vp_updL (al h4 103) (dnw (eqw h gc) (offn gc n) (vc gc n c)) (bt (TW h gc (wv gc n c)) 60 31)))))) ((dnw (eqw h gc) (offn gc n) (vc gc n c)) + 1) (vc gc n c + 1) := fun _ => by
          have a102 : al (ma_set (ma_set h4 102 (.inl (.long, 216, .inr (.inl (vp_updL (al h4 102) (dnw (eqw h gc) (offn gc n) (vc gc n c)) (bt (TW h gc (wv gc n c)) 0 60)))))) 103 (.inl (.long, 216, .inr (.inl (vp_updL (al h4 103) (dnw (eqw h gc) (offn gc n) (vc gc n c)) (bt (TW h gc (wv gc n c)) 60 31)))))) 102 = vp_updL (al h4 102) (dnw (eqw h gc) (offn gc n) (vc gc n c)) (bt (TW h gc (wv gc n c)) 0 60) := by rw [al_ne _ _ (by decide), al_at]
          have a103 : al (ma_set (ma_set h4 102 (.inl (.long, 216, .inr (.inl (vp_updL (al h4 102) (dnw (eqw h gc) (offn gc n) (vc gc n c)) (bt (TW h gc (wv gc n c)) 0 60)))))) 103 (.inl (.long, 216, .inr (.inl (vp_updL (al h4 103) (dnw (eqw h gc) (offn gc n) (vc gc n c)) (bt (TW h gc (wv gc n c)) 60 31)))))) 103 = vp_updL (al h4 103) (dnw (eqw h gc) (offn gc n) (vc gc n c)) (bt (TW h gc (wv gc n c)) 60 31) := by rw [al_at]
          unfold RI
          rw [a102, a103]
          refine ⟨fun k hk => ?_, fun j hj => ?_⟩
          · unfold vp_updL
            by_cases y : k = (dnw (eqw h gc) (offn gc n) (vc gc n c))
            · rw [if_pos y, if_pos y]
              exact ⟨vc gc n c, by omega, by rw [← wo], by rw [← wo]⟩
            · rw [if_neg y, if_neg y]
              obtain ⟨j, hj, a, b⟩ := R4.1 k (by omega)
              exact ⟨j, by omega, a, b⟩
          · rcases Nat.lt_or_ge j (vc gc n c) with y | y
            · obtain ⟨k, hk, a, b⟩ := R4.2 j y
              refine ⟨k, by omega, ?_⟩
              unfold vp_updL
              rw [if_neg (by omega), if_neg (by omega)]
              exact ⟨a, b⟩
            · obtain rfl : j = vc gc n c := by omega
              refine ⟨(dnw (eqw h gc) (offn gc n) (vc gc n c)), by omega, ?_⟩
              unfold vp_updL
              rw [if_pos rfl, if_pos rfl, ← wo]
              exact ⟨rfl, rfl⟩
        have pk : ∀ d k, k + d = (dnw (eqw h gc) (offn gc n) (vc gc n c)) → At 240 Q 77 (0, 0) [some (.ref 80), some (.int (nI n)), some (.int (nI (dnw (eqw h gc) (offn gc n) (vc gc n c)))), some (.int (nI c)), some (.long (bt (TW h gc (wv gc n c)) 0 60)), none, some (.long (bt (TW h gc (wv gc n c)) 60 31)), none, some (.int (bI (isn (al h4 102) (al h4 103) (bt (TW h gc (wv gc n c)) 0 60) (bt (TW h gc (wv gc n c)) 60 31) k))), some (.int (nI k))] [] h4 := by
          intro d
          induction d with
          | zero =>
            intro k ek
            obtain rfl : k = (dnw (eqw h gc) (offn gc n) (vc gc n c)) := by omega
            refine go 60 (by decide) ?_
            simp only [KX, KY, KZ, KW, KV, Nat.reduceAdd, Nat.reduceSub, Nat.reduceLeDiff, true_and, and_true, true_or, or_true, or_self, reduceCtorEq, if_true, if_false, not_false_eq_true, eq_self, c240, (M4.1).e80, (M4.1).e102, (M4.1).e103, show lN ((1 : Fin 2).val) = lN 1 from rfl, show lN ((0 : Fin 2).val) = lN 0 from rfl, (hs102 _).e80, (hs102 _).e103]
            rw [if_neg (nI_nlt (Nat.le_refl _) (by omega))]
            cases b : (isn (al h4 102) (al h4 103) (bt (TW h gc (wv gc n c)) 0 60) (bt (TW h gc (wv gc n c)) 60 31) (dnw (eqw h gc) (offn gc n) (vc gc n c)))
            · have ev : dnw (eqw h gc) (offn gc n) (vc gc n (c + 1)) = (dnw (eqw h gc) (offn gc n) (vc gc n c)) := by
                rw [v1]
                show dnw (eqw h gc) (offn gc n) (vc gc n c) + (if nw (eqw h gc) (offn gc n) (vc gc n c) (offn gc n + vc gc n c) then 1 else 0) = _
                rw [← wo, ← R4.new, b]
                rfl
              have ih2 := ih (c + 1) h4 (by omega) M4 (by rw [ev, v1]; exact RIn b)
              rw [ev] at ih2
              rw [if_pos (show bI false = 0 from rfl)]
              first
                | (with_reducible show At 240 _ 18 _ _ _ _)
                | (refine go 60 (by decide) ?_; simp only [KX, KY, KZ, KW, KV, Nat.reduceAdd, Nat.reduceSub, Nat.reduceLeDiff, true_and, and_true, true_or, or_true, or_self, reduceCtorEq, if_true, if_false, not_false_eq_true, eq_self, c240, (M4.1).e80, (M4.1).e102, (M4.1).e103, show lN ((1 : Fin 2).val) = lN 1 from rfl, show lN ((0 : Fin 2).val) = lN 0 from rfl])
              first
                | (with_reducible show At 240 _ 18 _ _ _ _)
                | (refine go 60 (by decide) ?_; simp only [KX, KY, KZ, KW, KV, Nat.reduceAdd, Nat.reduceSub, Nat.reduceLeDiff, true_and, and_true, true_or, or_true, or_self, reduceCtorEq, if_true, if_false, not_false_eq_true, eq_self, c240, (M4.1).e80, (M4.1).e102, (M4.1).e103, show lN ((1 : Fin 2).val) = lN 1 from rfl, show lN ((0 : Fin 2).val) = lN 0 from rfl])
              first
                | (with_reducible show At 240 _ 18 _ _ _ _)
                | (refine go 60 (by decide) ?_; simp only [KX, KY, KZ, KW, KV, Nat.reduceAdd, Nat.reduceSub, Nat.reduceLeDiff, true_and, and_true, true_or, or_true, or_self, reduceCtorEq, if_true, if_false, not_false_eq_true, eq_self, c240, (M4.1).e80, (M4.1).e102, (M4.1).e103, show lN ((1 : Fin 2).val) = lN 1 from rfl, show lN ((0 : Fin 2).val) = lN 0 from rfl])
              rw [nI_1 c]
              exact At_le ih2 ⟨rfl, rfl, rfl, rfl, trivial⟩
            · have ev : dnw (eqw h gc) (offn gc n) (vc gc n (c + 1)) = (dnw (eqw h gc) (offn gc n) (vc gc n c)) + 1 := by
                rw [v1]
                show dnw (eqw h gc) (offn gc n) (vc gc n c) + (if nw (eqw h gc) (offn gc n) (vc gc n c) (offn gc n + vc gc n c) then 1 else 0) = _
                rw [← wo, ← R4.new, b]
                rfl
              have ih2 := ih (c + 1) (ma_set (ma_set h4 102 (.inl (.long, 216, .inr (.inl (vp_updL (al h4 102) (dnw (eqw h gc) (offn gc n) (vc gc n c)) (bt (TW h gc (wv gc n c)) 0 60)))))) 103 (.inl (.long, 216, .inr (.inl (vp_updL (al h4 103) (dnw (eqw h gc) (offn gc n) (vc gc n c)) (bt (TW h gc (wv gc n c)) 60 31)))))) (by omega) ⟨sh_set (hs102 _) rfl, M4.2.1, fun a a1 a2 a3 => (ma_set_ne _ _ a3).trans ((ma_set_ne _ _ a2).trans (M4.2.2.1 a a1 a2 a3)), fun x hx => by rw [ai_ne _ _ (by decide), ai_ne _ _ (by decide)]; exact M4.2.2.2 x hx⟩ (by rw [ev, v1]; exact RIy b)
              rw [ev] at ih2
              rw [if_neg (show ¬ bI true = 0 by decide)]
              rw [nI_clamp (show (dnw (eqw h gc) (offn gc n) (vc gc n c)) < 2 ^ 31 by omega), al_ne _ _ (show 103 ≠ 102 by decide)]
              refine ⟨nI_in (show (dnw (eqw h gc) (offn gc n) (vc gc n c)) < 216 by omega) (by decide), nI_in (show (dnw (eqw h gc) (offn gc n) (vc gc n c)) < 216 by omega) (by decide), ?_⟩
              first
                | (with_reducible show At 240 _ 18 _ _ _ _)
                | (refine go 60 (by decide) ?_; simp only [KX, KY, KZ, KW, KV, Nat.reduceAdd, Nat.reduceSub, Nat.reduceLeDiff, true_and, and_true, true_or, or_true, or_self, reduceCtorEq, if_true, if_false, not_false_eq_true, eq_self, c240])
              first
                | (with_reducible show At 240 _ 18 _ _ _ _)
                | (refine go 60 (by decide) ?_; simp only [KX, KY, KZ, KW, KV, Nat.reduceAdd, Nat.reduceSub, Nat.reduceLeDiff, true_and, and_true, true_or, or_true, or_self, reduceCtorEq, if_true, if_false, not_false_eq_true, eq_self, c240])
              first
                | (with_reducible show At 240 _ 18 _ _ _ _)
                | (refine go 60 (by decide) ?_; simp only [KX, KY, KZ, KW, KV, Nat.reduceAdd, Nat.reduceSub, Nat.reduceLeDiff, true_and, and_true, true_or, or_true, or_self, reduceCtorEq, if_true, if_false, not_false_eq_true, eq_self, c240])
              rw [nI_1 c, nI_1 (dnw (eqw h gc) (offn gc n) (vc gc n c))]
              exact At_le ih2 ⟨rfl, rfl, rfl, rfl, trivial⟩
          | succ d ihk =>
            intro k ek
            refine go 60 (by decide) ?_
            simp only [KX, KY, KZ, KW, KV, Nat.reduceAdd, Nat.reduceSub, Nat.reduceLeDiff, true_and, and_true, true_or, or_true, or_self, reduceCtorEq, if_true, if_false, not_false_eq_true, eq_self, c240, (M4.1).e80, (M4.1).e102, (M4.1).e103, show lN ((1 : Fin 2).val) = lN 1 from rfl, show lN ((0 : Fin 2).val) = lN 0 from rfl]
            rw [if_pos (nI_lt (show k < (dnw (eqw h gc) (offn gc n) (vc gc n c)) by omega) (by omega))]
            cases b : (isn (al h4 102) (al h4 103) (bt (TW h gc (wv gc n c)) 0 60) (bt (TW h gc (wv gc n c)) 60 31) k)
            · have bf : (isn (al h4 102) (al h4 103) (bt (TW h gc (wv gc n c)) 0 60) (bt (TW h gc (wv gc n c)) 60 31) (dnw (eqw h gc) (offn gc n) (vc gc n c))) = false := by
                have := isn_false b ((dnw (eqw h gc) (offn gc n) (vc gc n c)) - k)
                rw [show k + ((dnw (eqw h gc) (offn gc n) (vc gc n c)) - k) = (dnw (eqw h gc) (offn gc n) (vc gc n c)) by omega] at this
                exact this
              have ih2 := ihk (k + 1) (by omega)
              rw [show (isn (al h4 102) (al h4 103) (bt (TW h gc (wv gc n c)) 0 60) (bt (TW h gc (wv gc n c)) 60 31) (k + 1)) = false from isn_false b 1] at ih2
              rw [if_pos (show bI false = 0 from rfl)]
              first
                | (with_reducible show At 240 _ 77 _ _ _ _)
                | (refine go 60 (by decide) ?_; simp only [KX, KY, KZ, KW, KV, Nat.reduceAdd, Nat.reduceSub, Nat.reduceLeDiff, true_and, and_true, true_or, or_true, or_self, reduceCtorEq, if_true, if_false, not_false_eq_true, eq_self, c240, (M4.1).e80, (M4.1).e102, (M4.1).e103, show lN ((1 : Fin 2).val) = lN 1 from rfl, show lN ((0 : Fin 2).val) = lN 0 from rfl])
              first
                | (with_reducible show At 240 _ 77 _ _ _ _)
                | (refine go 60 (by decide) ?_; simp only [KX, KY, KZ, KW, KV, Nat.reduceAdd, Nat.reduceSub, Nat.reduceLeDiff, true_and, and_true, true_or, or_true, or_self, reduceCtorEq, if_true, if_false, not_false_eq_true, eq_self, c240, (M4.1).e80, (M4.1).e102, (M4.1).e103, show lN ((1 : Fin 2).val) = lN 1 from rfl, show lN ((0 : Fin 2).val) = lN 0 from rfl])
              first
                | (with_reducible show At 240 _ 77 _ _ _ _)
                | (refine go 60 (by decide) ?_; simp only [KX, KY, KZ, KW, KV, Nat.reduceAdd, Nat.reduceSub, Nat.reduceLeDiff, true_and, and_true, true_or, or_true, or_self, reduceCtorEq, if_true, if_false, not_false_eq_true, eq_self, c240, (M4.1).e80, (M4.1).e102, (M4.1).e103, show lN ((1 : Fin 2).val) = lN 1 from rfl, show lN ((0 : Fin 2).val) = lN 0 from rfl])
              rw [nI_1 k]
              exact At_le ih2 ⟨rfl, rfl, rfl, rfl, rfl, rfl, rfl, rfl, trivial⟩
            · have ih2 := ihk (k + 1) (by omega)
              have e1 : (isn (al h4 102) (al h4 103) (bt (TW h gc (wv gc n c)) 0 60) (bt (TW h gc (wv gc n c)) 60 31) (k + 1)) = !(decide (al h4 102 k = bt (TW h gc (wv gc n c)) 0 60) && decide (al h4 103 k = bt (TW h gc (wv gc n c)) 60 31)) := by
                show ((isn (al h4 102) (al h4 103) (bt (TW h gc (wv gc n c)) 0 60) (bt (TW h gc (wv gc n c)) 60 31) k) && _) = _
                rw [b, Bool.true_and]
              rw [e1] at ih2
              rw [if_neg (show ¬ bI true = 0 by decide), nI_clamp (show k < 2 ^ 31 by omega)]
              refine ⟨nI_in (show k < 216 by omega) (by decide), ?_⟩
              by_cases z1 : al h4 102 k = bt (TW h gc (wv gc n c)) 0 60
              · rw [if_pos ((lg_cmp_eq _ _).mpr z1)]
                refine ⟨nI_in (show k < 216 by omega) (by decide), ?_⟩
                by_cases z2 : al h4 103 k = bt (TW h gc (wv gc n c)) 60 31
                · rw [if_pos ((lg_cmp_eq _ _).mpr z2)]
                  rw [decide_eq_true z1, decide_eq_true z2] at ih2
                  first
                    | (with_reducible show At 240 _ 77 _ _ _ _)
                    | (refine go 60 (by decide) ?_; simp only [KX, KY, KZ, KW, KV, Nat.reduceAdd, Nat.reduceSub, Nat.reduceLeDiff, true_and, and_true, true_or, or_true, or_self, reduceCtorEq, if_true, if_false, not_false_eq_true, eq_self, c240, (M4.1).e80, (M4.1).e102, (M4.1).e103, show lN ((1 : Fin 2).val) = lN 1 from rfl, show lN ((0 : Fin 2).val) = lN 0 from rfl])
                  first
                    | (with_reducible show At 240 _ 77 _ _ _ _)
                    | (refine go 60 (by decide) ?_; simp only [KX, KY, KZ, KW, KV, Nat.reduceAdd, Nat.reduceSub, Nat.reduceLeDiff, true_and, and_true, true_or, or_true, or_self, reduceCtorEq, if_true, if_false, not_false_eq_true, eq_self, c240, (M4.1).e80, (M4.1).e102, (M4.1).e103, show lN ((1 : Fin 2).val) = lN 1 from rfl, show lN ((0 : Fin 2).val) = lN 0 from rfl])
                  first
                    | (with_reducible show At 240 _ 77 _ _ _ _)
                    | (refine go 60 (by decide) ?_; simp only [KX, KY, KZ, KW, KV, Nat.reduceAdd, Nat.reduceSub, Nat.reduceLeDiff, true_and, and_true, true_or, or_true, or_self, reduceCtorEq, if_true, if_false, not_false_eq_true, eq_self, c240, (M4.1).e80, (M4.1).e102, (M4.1).e103, show lN ((1 : Fin 2).val) = lN 1 from rfl, show lN ((0 : Fin 2).val) = lN 0 from rfl])
                  rw [nI_1 k]
                  exact At_le ih2 ⟨rfl, rfl, rfl, rfl, rfl, rfl, rfl, rfl, trivial⟩
                · rw [if_neg (fun e => z2 ((lg_cmp_eq _ _).mp e))]
                  rw [decide_eq_true z1, decide_eq_false z2] at ih2
                  first
                    | (with_reducible show At 240 _ 77 _ _ _ _)
                    | (refine go 60 (by decide) ?_; simp only [KX, KY, KZ, KW, KV, Nat.reduceAdd, Nat.reduceSub, Nat.reduceLeDiff, true_and, and_true, true_or, or_true, or_self, reduceCtorEq, if_true, if_false, not_false_eq_true, eq_self, c240, (M4.1).e80, (M4.1).e102, (M4.1).e103, show lN ((1 : Fin 2).val) = lN 1 from rfl, show lN ((0 : Fin 2).val) = lN 0 from rfl])
                  first
                    | (with_reducible show At 240 _ 77 _ _ _ _)
                    | (refine go 60 (by decide) ?_; simp only [KX, KY, KZ, KW, KV, Nat.reduceAdd, Nat.reduceSub, Nat.reduceLeDiff, true_and, and_true, true_or, or_true, or_self, reduceCtorEq, if_true, if_false, not_false_eq_true, eq_self, c240, (M4.1).e80, (M4.1).e102, (M4.1).e103, show lN ((1 : Fin 2).val) = lN 1 from rfl, show lN ((0 : Fin 2).val) = lN 0 from rfl])
                  first
                    | (with_reducible show At 240 _ 77 _ _ _ _)
                    | (refine go 60 (by decide) ?_; simp only [KX, KY, KZ, KW, KV, Nat.reduceAdd, Nat.reduceSub, Nat.reduceLeDiff, true_and, and_true, true_or, or_true, or_self, reduceCtorEq, if_true, if_false, not_false_eq_true, eq_self, c240, (M4.1).e80, (M4.1).e102, (M4.1).e103, show lN ((1 : Fin 2).val) = lN 1 from rfl, show lN ((0 : Fin 2).val) = lN 0 from rfl])
                  rw [nI_1 k]
                  exact At_le ih2 ⟨rfl, rfl, rfl, rfl, rfl, rfl, rfl, rfl, trivial⟩
              · rw [if_neg (fun e => z1 ((lg_cmp_eq _ _).mp e))]
                rw [decide_eq_false z1, Bool.false_and] at ih2
                first
                  | (with_reducible show At 240 _ 77 _ _ _ _)
                  | (refine go 60 (by decide) ?_; simp only [KX, KY, KZ, KW, KV, Nat.reduceAdd, Nat.reduceSub, Nat.reduceLeDiff, true_and, and_true, true_or, or_true, or_self, reduceCtorEq, if_true, if_false, not_false_eq_true, eq_self, c240, (M4.1).e80, (M4.1).e102, (M4.1).e103, show lN ((1 : Fin 2).val) = lN 1 from rfl, show lN ((0 : Fin 2).val) = lN 0 from rfl])
                first
                  | (with_reducible show At 240 _ 77 _ _ _ _)
                  | (refine go 60 (by decide) ?_; simp only [KX, KY, KZ, KW, KV, Nat.reduceAdd, Nat.reduceSub, Nat.reduceLeDiff, true_and, and_true, true_or, or_true, or_self, reduceCtorEq, if_true, if_false, not_false_eq_true, eq_self, c240, (M4.1).e80, (M4.1).e102, (M4.1).e103, show lN ((1 : Fin 2).val) = lN 1 from rfl, show lN ((0 : Fin 2).val) = lN 0 from rfl])
                first
                  | (with_reducible show At 240 _ 77 _ _ _ _)
                  | (refine go 60 (by decide) ?_; simp only [KX, KY, KZ, KW, KV, Nat.reduceAdd, Nat.reduceSub, Nat.reduceLeDiff, true_and, and_true, true_or, or_true, or_self, reduceCtorEq, if_true, if_false, not_false_eq_true, eq_self, c240, (M4.1).e80, (M4.1).e102, (M4.1).e103, show lN ((1 : Fin 2).val) = lN 1 from rfl, show lN ((0 : Fin 2).val) = lN 0 from rfl])
                rw [nI_1 k]
                exact At_le ih2 ⟨rfl, rfl, rfl, rfl, rfl, rfl, rfl, rfl, trivial⟩
        have p2 : ∀ d j, j + d = 31 → At 240 Q 38 (0, 0) [some (.ref 80), some (.int (nI n)), some (.int (nI (dnw (eqw h gc) (offn gc n) (vc gc n c)))), some (.int (nI c)), some (.long (bt (TW h gc (wv gc n c)) 0 60)), none, some (.long (bt (TW h gc (wv gc n c)) 60 j)), none, some (.int (nI (60 + j))), none] [] h4 := by
          intro d
          induction d with
          | zero =>
            intro j ej
            obtain rfl : j = 31 := by omega
            refine go 60 (by decide) ?_
            simp only [KX, KY, KZ, KW, KV, Nat.reduceAdd, Nat.reduceSub, Nat.reduceLeDiff, true_and, and_true, true_or, or_true, or_self, reduceCtorEq, if_true, if_false, not_false_eq_true, eq_self, c240, (M4.1).e80, (M4.1).e102, (M4.1).e103, show lN ((1 : Fin 2).val) = lN 1 from rfl, show lN ((0 : Fin 2).val) = lN 0 from rfl]
            rw [if_neg (show ¬ nI (60 + 31) < (91 : Int32) from nI_nlt (a := 91) (b := 91) (Nat.le_refl _) (by decide))]
            first
              | (with_reducible show At 240 _ 77 _ _ _ _)
              | (refine go 60 (by decide) ?_; simp only [KX, KY, KZ, KW, KV, Nat.reduceAdd, Nat.reduceSub, Nat.reduceLeDiff, true_and, and_true, true_or, or_true, or_self, reduceCtorEq, if_true, if_false, not_false_eq_true, eq_self, c240, (M4.1).e80, (M4.1).e102, (M4.1).e103, show lN ((1 : Fin 2).val) = lN 1 from rfl, show lN ((0 : Fin 2).val) = lN 0 from rfl])
            first
              | (with_reducible show At 240 _ 77 _ _ _ _)
              | (refine go 60 (by decide) ?_; simp only [KX, KY, KZ, KW, KV, Nat.reduceAdd, Nat.reduceSub, Nat.reduceLeDiff, true_and, and_true, true_or, or_true, or_self, reduceCtorEq, if_true, if_false, not_false_eq_true, eq_self, c240, (M4.1).e80, (M4.1).e102, (M4.1).e103, show lN ((1 : Fin 2).val) = lN 1 from rfl, show lN ((0 : Fin 2).val) = lN 0 from rfl])
            first
              | (with_reducible show At 240 _ 77 _ _ _ _)
              | (refine go 60 (by decide) ?_; simp only [KX, KY, KZ, KW, KV, Nat.reduceAdd, Nat.reduceSub, Nat.reduceLeDiff, true_and, and_true, true_or, or_true, or_self, reduceCtorEq, if_true, if_false, not_false_eq_true, eq_self, c240, (M4.1).e80, (M4.1).e102, (M4.1).e103, show lN ((1 : Fin 2).val) = lN 1 from rfl, show lN ((0 : Fin 2).val) = lN 0 from rfl])
            exact At_le (pk (dnw (eqw h gc) (offn gc n) (vc gc n c)) 0 (by omega)) ⟨rfl, rfl, rfl, rfl, rfl, rfl, rfl, rfl, trivial⟩
          | succ d ihd =>
            intro j ej
            refine go 60 (by decide) ?_
            simp only [KX, KY, KZ, KW, KV, Nat.reduceAdd, Nat.reduceSub, Nat.reduceLeDiff, true_and, and_true, true_or, or_true, or_self, reduceCtorEq, if_true, if_false, not_false_eq_true, eq_self, c240, (M4.1).e80, (M4.1).e102, (M4.1).e103, show lN ((1 : Fin 2).val) = lN 1 from rfl, show lN ((0 : Fin 2).val) = lN 0 from rfl]
            rw [if_pos (show nI (60 + j) < (91 : Int32) from nI_lt (b := 91) (by omega) (by decide))]
            refine s232 ?_
            refine go 60 (by decide) ?_
            simp only [KX, KY, KZ, KW, KV, Nat.reduceAdd, Nat.reduceSub, Nat.reduceLeDiff, true_and, and_true, true_or, or_true, or_self, reduceCtorEq, if_true, if_false, not_false_eq_true, eq_self, c240, (M4.1).e80, (M4.1).e102, (M4.1).e103, show lN ((1 : Fin 2).val) = lN 1 from rfl, show lN ((0 : Fin 2).val) = lN 0 from rfl]
            refine s172 (A := 91 * (4 + n)) (M4.1).e80 rfl (M4.1).e88 (by omega) ?_
            rw [row _ (by omega)]
            have ih2 := ihd (j + 1) (by omega)
            cases b : (TW h gc (wv gc n c)) (60 + j)
            · rw [bt_no b] at ih2
              rw [show bI false = 0 from rfl]
              first
                | (with_reducible show At 240 _ 38 _ _ _ _)
                | (refine go 60 (by decide) ?_; simp only [KX, KY, KZ, KW, KV, Nat.reduceAdd, Nat.reduceSub, Nat.reduceLeDiff, true_and, and_true, true_or, or_true, or_self, reduceCtorEq, if_true, if_false, not_false_eq_true, eq_self, c240, (M4.1).e80, (M4.1).e102, (M4.1).e103, show lN ((1 : Fin 2).val) = lN 1 from rfl, show lN ((0 : Fin 2).val) = lN 0 from rfl])
              first
                | (with_reducible show At 240 _ 38 _ _ _ _)
                | (refine go 60 (by decide) ?_; simp only [KX, KY, KZ, KW, KV, Nat.reduceAdd, Nat.reduceSub, Nat.reduceLeDiff, true_and, and_true, true_or, or_true, or_self, reduceCtorEq, if_true, if_false, not_false_eq_true, eq_self, c240, (M4.1).e80, (M4.1).e102, (M4.1).e103, show lN ((1 : Fin 2).val) = lN 1 from rfl, show lN ((0 : Fin 2).val) = lN 0 from rfl])
              first
                | (with_reducible show At 240 _ 38 _ _ _ _)
                | (refine go 60 (by decide) ?_; simp only [KX, KY, KZ, KW, KV, Nat.reduceAdd, Nat.reduceSub, Nat.reduceLeDiff, true_and, and_true, true_or, or_true, or_self, reduceCtorEq, if_true, if_false, not_false_eq_true, eq_self, c240, (M4.1).e80, (M4.1).e102, (M4.1).e103, show lN ((1 : Fin 2).val) = lN 1 from rfl, show lN ((0 : Fin 2).val) = lN 0 from rfl])
              rw [show nI (60 + j) + 1 = nI (60 + (j + 1)) from nI_1 _]
              exact At_le ih2 ⟨rfl, rfl, rfl, rfl, rfl, rfl, rfl, trivial⟩
            · rw [bt_yes b] at ih2
              rw [show bI true = 1 from rfl]
              refine go 60 (by decide) ?_
              simp only [KX, KY, KZ, KW, KV, Nat.reduceAdd, Nat.reduceSub, Nat.reduceLeDiff, true_and, and_true, true_or, or_true, or_self, reduceCtorEq, if_true, if_false, not_false_eq_true, eq_self, c240, (M4.1).e80, (M4.1).e102, (M4.1).e103, show lN ((1 : Fin 2).val) = lN 1 from rfl, show lN ((0 : Fin 2).val) = lN 0 from rfl]
              rw [if_neg (show ¬ nI (60 + j) < (60 : Int32) from nI_nlt (b := 60) (by omega) (by omega))]
              first
                | (with_reducible show At 240 _ 56 _ _ _ _)
                | (refine go 60 (by decide) ?_; simp only [KX, KY, KZ, KW, KV, Nat.reduceAdd, Nat.reduceSub, Nat.reduceLeDiff, true_and, and_true, true_or, or_true, or_self, reduceCtorEq, if_true, if_false, not_false_eq_true, eq_self, c240, (M4.1).e80, (M4.1).e102, (M4.1).e103, show lN ((1 : Fin 2).val) = lN 1 from rfl, show lN ((0 : Fin 2).val) = lN 0 from rfl])
              first
                | (with_reducible show At 240 _ 56 _ _ _ _)
                | (refine go 60 (by decide) ?_; simp only [KX, KY, KZ, KW, KV, Nat.reduceAdd, Nat.reduceSub, Nat.reduceLeDiff, true_and, and_true, true_or, or_true, or_self, reduceCtorEq, if_true, if_false, not_false_eq_true, eq_self, c240, (M4.1).e80, (M4.1).e102, (M4.1).e103, show lN ((1 : Fin 2).val) = lN 1 from rfl, show lN ((0 : Fin 2).val) = lN 0 from rfl])
              first
                | (with_reducible show At 240 _ 56 _ _ _ _)
                | (refine go 60 (by decide) ?_; simp only [KX, KY, KZ, KW, KV, Nat.reduceAdd, Nat.reduceSub, Nat.reduceLeDiff, true_and, and_true, true_or, or_true, or_self, reduceCtorEq, if_true, if_false, not_false_eq_true, eq_self, c240, (M4.1).e80, (M4.1).e102, (M4.1).e103, show lN ((1 : Fin 2).val) = lN 1 from rfl, show lN ((0 : Fin 2).val) = lN 0 from rfl])
              refine go 60 (by decide) ?_
              simp only [KX, KY, KZ, KW, KV, Nat.reduceAdd, Nat.reduceSub, Nat.reduceLeDiff, true_and, and_true, true_or, or_true, or_self, reduceCtorEq, if_true, if_false, not_false_eq_true, eq_self, c240, (M4.1).e80, (M4.1).e102, (M4.1).e103, show lN ((1 : Fin 2).val) = lN 1 from rfl, show lN ((0 : Fin 2).val) = lN 0 from rfl]
              rw [if_neg (show ¬ nI (60 + j) < (60 : Int32) from nI_nlt (b := 60) (by omega) (by omega))]
              rw [sub60 j (by omega)]
              first
                | (with_reducible show At 240 _ 69 _ _ _ _)
                | (refine go 60 (by decide) ?_; simp only [KX, KY, KZ, KW, KV, Nat.reduceAdd, Nat.reduceSub, Nat.reduceLeDiff, true_and, and_true, true_or, or_true, or_self, reduceCtorEq, if_true, if_false, not_false_eq_true, eq_self, c240, (M4.1).e80, (M4.1).e102, (M4.1).e103, show lN ((1 : Fin 2).val) = lN 1 from rfl, show lN ((0 : Fin 2).val) = lN 0 from rfl])
              first
                | (with_reducible show At 240 _ 69 _ _ _ _)
                | (refine go 60 (by decide) ?_; simp only [KX, KY, KZ, KW, KV, Nat.reduceAdd, Nat.reduceSub, Nat.reduceLeDiff, true_and, and_true, true_or, or_true, or_self, reduceCtorEq, if_true, if_false, not_false_eq_true, eq_self, c240, (M4.1).e80, (M4.1).e102, (M4.1).e103, show lN ((1 : Fin 2).val) = lN 1 from rfl, show lN ((0 : Fin 2).val) = lN 0 from rfl])
              first
                | (with_reducible show At 240 _ 69 _ _ _ _)
                | (refine go 60 (by decide) ?_; simp only [KX, KY, KZ, KW, KV, Nat.reduceAdd, Nat.reduceSub, Nat.reduceLeDiff, true_and, and_true, true_or, or_true, or_self, reduceCtorEq, if_true, if_false, not_false_eq_true, eq_self, c240, (M4.1).e80, (M4.1).e102, (M4.1).e103, show lN ((1 : Fin 2).val) = lN 1 from rfl, show lN ((0 : Fin 2).val) = lN 0 from rfl])
              rw [l_or0]
              first
                | (with_reducible show At 240 _ 38 _ _ _ _)
                | (refine go 60 (by decide) ?_; simp only [KX, KY, KZ, KW, KV, Nat.reduceAdd, Nat.reduceSub, Nat.reduceLeDiff, true_and, and_true, true_or, or_true, or_self, reduceCtorEq, if_true, if_false, not_false_eq_true, eq_self, c240, (M4.1).e80, (M4.1).e102, (M4.1).e103, show lN ((1 : Fin 2).val) = lN 1 from rfl, show lN ((0 : Fin 2).val) = lN 0 from rfl])
              first
                | (with_reducible show At 240 _ 38 _ _ _ _)
                | (refine go 60 (by decide) ?_; simp only [KX, KY, KZ, KW, KV, Nat.reduceAdd, Nat.reduceSub, Nat.reduceLeDiff, true_and, and_true, true_or, or_true, or_self, reduceCtorEq, if_true, if_false, not_false_eq_true, eq_self, c240, (M4.1).e80, (M4.1).e102, (M4.1).e103, show lN ((1 : Fin 2).val) = lN 1 from rfl, show lN ((0 : Fin 2).val) = lN 0 from rfl])
              first
                | (with_reducible show At 240 _ 38 _ _ _ _)
                | (refine go 60 (by decide) ?_; simp only [KX, KY, KZ, KW, KV, Nat.reduceAdd, Nat.reduceSub, Nat.reduceLeDiff, true_and, and_true, true_or, or_true, or_self, reduceCtorEq, if_true, if_false, not_false_eq_true, eq_self, c240, (M4.1).e80, (M4.1).e102, (M4.1).e103, show lN ((1 : Fin 2).val) = lN 1 from rfl, show lN ((0 : Fin 2).val) = lN 0 from rfl])
              rw [show nI (60 + j) + 1 = nI (60 + (j + 1)) from nI_1 _]
              exact At_le ih2 ⟨rfl, rfl, rfl, rfl, rfl, rfl, rfl, trivial⟩
        have p1 : ∀ d x, x + d = 60 → At 240 Q 38 (0, 0) [some (.ref 80), some (.int (nI n)), some (.int (nI (dnw (eqw h gc) (offn gc n) (vc gc n c)))), some (.int (nI c)), some (.long (bt (TW h gc (wv gc n c)) 0 x)), none, some (.long (lN 0)), none, some (.int (nI x)), none] [] h4 := by
          intro d
          induction d with
          | zero =>
            intro x ex
            obtain rfl : x = 60 := by omega
            exact At_le (p2 31 0 rfl) ⟨rfl, rfl, rfl, rfl, rfl, rfl, rfl, trivial⟩
          | succ d ihd =>
            intro x ex
            refine go 60 (by decide) ?_
            simp only [KX, KY, KZ, KW, KV, Nat.reduceAdd, Nat.reduceSub, Nat.reduceLeDiff, true_and, and_true, true_or, or_true, or_self, reduceCtorEq, if_true, if_false, not_false_eq_true, eq_self, c240, (M4.1).e80, (M4.1).e102, (M4.1).e103, show lN ((1 : Fin 2).val) = lN 1 from rfl, show lN ((0 : Fin 2).val) = lN 0 from rfl]
            rw [if_pos (show nI x < (91 : Int32) from nI_lt (b := 91) (by omega) (by decide))]
            refine s232 ?_
            refine go 60 (by decide) ?_
            simp only [KX, KY, KZ, KW, KV, Nat.reduceAdd, Nat.reduceSub, Nat.reduceLeDiff, true_and, and_true, true_or, or_true, or_self, reduceCtorEq, if_true, if_false, not_false_eq_true, eq_self, c240, (M4.1).e80, (M4.1).e102, (M4.1).e103, show lN ((1 : Fin 2).val) = lN 1 from rfl, show lN ((0 : Fin 2).val) = lN 0 from rfl]
            refine s172 (A := 91 * (4 + n)) (M4.1).e80 rfl (M4.1).e88 (by omega) ?_
            rw [row _ (by omega)]
            have ih2 := ihd (x + 1) (by omega)
            cases b : (TW h gc (wv gc n c)) x
            · rw [bt_no (by rw [Nat.zero_add]; exact b)] at ih2
              rw [show bI false = 0 from rfl]
              first
                | (with_reducible show At 240 _ 38 _ _ _ _)
                | (refine go 60 (by decide) ?_; simp only [KX, KY, KZ, KW, KV, Nat.reduceAdd, Nat.reduceSub, Nat.reduceLeDiff, true_and, and_true, true_or, or_true, or_self, reduceCtorEq, if_true, if_false, not_false_eq_true, eq_self, c240, (M4.1).e80, (M4.1).e102, (M4.1).e103, show lN ((1 : Fin 2).val) = lN 1 from rfl, show lN ((0 : Fin 2).val) = lN 0 from rfl])
              first
                | (with_reducible show At 240 _ 38 _ _ _ _)
                | (refine go 60 (by decide) ?_; simp only [KX, KY, KZ, KW, KV, Nat.reduceAdd, Nat.reduceSub, Nat.reduceLeDiff, true_and, and_true, true_or, or_true, or_self, reduceCtorEq, if_true, if_false, not_false_eq_true, eq_self, c240, (M4.1).e80, (M4.1).e102, (M4.1).e103, show lN ((1 : Fin 2).val) = lN 1 from rfl, show lN ((0 : Fin 2).val) = lN 0 from rfl])
              first
                | (with_reducible show At 240 _ 38 _ _ _ _)
                | (refine go 60 (by decide) ?_; simp only [KX, KY, KZ, KW, KV, Nat.reduceAdd, Nat.reduceSub, Nat.reduceLeDiff, true_and, and_true, true_or, or_true, or_self, reduceCtorEq, if_true, if_false, not_false_eq_true, eq_self, c240, (M4.1).e80, (M4.1).e102, (M4.1).e103, show lN ((1 : Fin 2).val) = lN 1 from rfl, show lN ((0 : Fin 2).val) = lN 0 from rfl])
              rw [nI_1 x]
              exact At_le ih2 ⟨rfl, rfl, rfl, rfl, rfl, rfl, rfl, trivial⟩
            · rw [bt_yes (by rw [Nat.zero_add]; exact b)] at ih2
              rw [show bI true = 1 from rfl]
              refine go 60 (by decide) ?_
              simp only [KX, KY, KZ, KW, KV, Nat.reduceAdd, Nat.reduceSub, Nat.reduceLeDiff, true_and, and_true, true_or, or_true, or_self, reduceCtorEq, if_true, if_false, not_false_eq_true, eq_self, c240, (M4.1).e80, (M4.1).e102, (M4.1).e103, show lN ((1 : Fin 2).val) = lN 1 from rfl, show lN ((0 : Fin 2).val) = lN 0 from rfl]
              rw [if_pos (show nI x < (60 : Int32) from nI_lt (b := 60) (by omega) (by decide))]
              first
                | (with_reducible show At 240 _ 56 _ _ _ _)
                | (refine go 60 (by decide) ?_; simp only [KX, KY, KZ, KW, KV, Nat.reduceAdd, Nat.reduceSub, Nat.reduceLeDiff, true_and, and_true, true_or, or_true, or_self, reduceCtorEq, if_true, if_false, not_false_eq_true, eq_self, c240, (M4.1).e80, (M4.1).e102, (M4.1).e103, show lN ((1 : Fin 2).val) = lN 1 from rfl, show lN ((0 : Fin 2).val) = lN 0 from rfl])
              first
                | (with_reducible show At 240 _ 56 _ _ _ _)
                | (refine go 60 (by decide) ?_; simp only [KX, KY, KZ, KW, KV, Nat.reduceAdd, Nat.reduceSub, Nat.reduceLeDiff, true_and, and_true, true_or, or_true, or_self, reduceCtorEq, if_true, if_false, not_false_eq_true, eq_self, c240, (M4.1).e80, (M4.1).e102, (M4.1).e103, show lN ((1 : Fin 2).val) = lN 1 from rfl, show lN ((0 : Fin 2).val) = lN 0 from rfl])
              first
                | (with_reducible show At 240 _ 56 _ _ _ _)
                | (refine go 60 (by decide) ?_; simp only [KX, KY, KZ, KW, KV, Nat.reduceAdd, Nat.reduceSub, Nat.reduceLeDiff, true_and, and_true, true_or, or_true, or_self, reduceCtorEq, if_true, if_false, not_false_eq_true, eq_self, c240, (M4.1).e80, (M4.1).e102, (M4.1).e103, show lN ((1 : Fin 2).val) = lN 1 from rfl, show lN ((0 : Fin 2).val) = lN 0 from rfl])
              refine go 60 (by decide) ?_
              simp only [KX, KY, KZ, KW, KV, Nat.reduceAdd, Nat.reduceSub, Nat.reduceLeDiff, true_and, and_true, true_or, or_true, or_self, reduceCtorEq, if_true, if_false, not_false_eq_true, eq_self, c240, (M4.1).e80, (M4.1).e102, (M4.1).e103, show lN ((1 : Fin 2).val) = lN 1 from rfl, show lN ((0 : Fin 2).val) = lN 0 from rfl]
              rw [if_pos (show nI x < (60 : Int32) from nI_lt (b := 60) (by omega) (by decide))]
              first
                | (with_reducible show At 240 _ 69 _ _ _ _)
                | (refine go 60 (by decide) ?_; simp only [KX, KY, KZ, KW, KV, Nat.reduceAdd, Nat.reduceSub, Nat.reduceLeDiff, true_and, and_true, true_or, or_true, or_self, reduceCtorEq, if_true, if_false, not_false_eq_true, eq_self, c240, (M4.1).e80, (M4.1).e102, (M4.1).e103, show lN ((1 : Fin 2).val) = lN 1 from rfl, show lN ((0 : Fin 2).val) = lN 0 from rfl])
              first
                | (with_reducible show At 240 _ 69 _ _ _ _)
                | (refine go 60 (by decide) ?_; simp only [KX, KY, KZ, KW, KV, Nat.reduceAdd, Nat.reduceSub, Nat.reduceLeDiff, true_and, and_true, true_or, or_true, or_self, reduceCtorEq, if_true, if_false, not_false_eq_true, eq_self, c240, (M4.1).e80, (M4.1).e102, (M4.1).e103, show lN ((1 : Fin 2).val) = lN 1 from rfl, show lN ((0 : Fin 2).val) = lN 0 from rfl])
              first
                | (with_reducible show At 240 _ 69 _ _ _ _)
                | (refine go 60 (by decide) ?_; simp only [KX, KY, KZ, KW, KV, Nat.reduceAdd, Nat.reduceSub, Nat.reduceLeDiff, true_and, and_true, true_or, or_true, or_self, reduceCtorEq, if_true, if_false, not_false_eq_true, eq_self, c240, (M4.1).e80, (M4.1).e102, (M4.1).e103, show lN ((1 : Fin 2).val) = lN 1 from rfl, show lN ((0 : Fin 2).val) = lN 0 from rfl])
              skip
              first
                | (with_reducible show At 240 _ 38 _ _ _ _)
                | (refine go 60 (by decide) ?_; simp only [KX, KY, KZ, KW, KV, Nat.reduceAdd, Nat.reduceSub, Nat.reduceLeDiff, true_and, and_true, true_or, or_true, or_self, reduceCtorEq, if_true, if_false, not_false_eq_true, eq_self, c240, (M4.1).e80, (M4.1).e102, (M4.1).e103, show lN ((1 : Fin 2).val) = lN 1 from rfl, show lN ((0 : Fin 2).val) = lN 0 from rfl])
              first
                | (with_reducible show At 240 _ 38 _ _ _ _)
                | (refine go 60 (by decide) ?_; simp only [KX, KY, KZ, KW, KV, Nat.reduceAdd, Nat.reduceSub, Nat.reduceLeDiff, true_and, and_true, true_or, or_true, or_self, reduceCtorEq, if_true, if_false, not_false_eq_true, eq_self, c240, (M4.1).e80, (M4.1).e102, (M4.1).e103, show lN ((1 : Fin 2).val) = lN 1 from rfl, show lN ((0 : Fin 2).val) = lN 0 from rfl])
              first
                | (with_reducible show At 240 _ 38 _ _ _ _)
                | (refine go 60 (by decide) ?_; simp only [KX, KY, KZ, KW, KV, Nat.reduceAdd, Nat.reduceSub, Nat.reduceLeDiff, true_and, and_true, true_or, or_true, or_self, reduceCtorEq, if_true, if_false, not_false_eq_true, eq_self, c240, (M4.1).e80, (M4.1).e102, (M4.1).e103, show lN ((1 : Fin 2).val) = lN 1 from rfl, show lN ((0 : Fin 2).val) = lN 0 from rfl])
              rw [l_or0, nI_1 x]
              exact At_le ih2 ⟨rfl, rfl, rfl, rfl, rfl, rfl, rfl, trivial⟩
        first
          | (with_reducible show At 240 _ 38 _ _ _ _)
          | (refine go 60 (by decide) ?_; simp only [KX, KY, KZ, KW, KV, Nat.reduceAdd, Nat.reduceSub, Nat.reduceLeDiff, true_and, and_true, true_or, or_true, or_self, reduceCtorEq, if_true, if_false, not_false_eq_true, eq_self, c240, show lN ((1 : Fin 2).val) = lN 1 from rfl, show lN ((0 : Fin 2).val) = lN 0 from rfl])
        first
          | (with_reducible show At 240 _ 38 _ _ _ _)
          | (refine go 60 (by decide) ?_; simp only [KX, KY, KZ, KW, KV, Nat.reduceAdd, Nat.reduceSub, Nat.reduceLeDiff, true_and, and_true, true_or, or_true, or_self, reduceCtorEq, if_true, if_false, not_false_eq_true, eq_self, c240, show lN ((1 : Fin 2).val) = lN 1 from rfl, show lN ((0 : Fin 2).val) = lN 0 from rfl])
        first
          | (with_reducible show At 240 _ 38 _ _ _ _)
          | (refine go 60 (by decide) ?_; simp only [KX, KY, KZ, KW, KV, Nat.reduceAdd, Nat.reduceSub, Nat.reduceLeDiff, true_and, and_true, true_or, or_true, or_self, reduceCtorEq, if_true, if_false, not_false_eq_true, eq_self, c240, show lN ((1 : Fin 2).val) = lN 1 from rfl, show lN ((0 : Fin 2).val) = lN 0 from rfl])
        exact At_le (p1 60 0 rfl) ⟨rfl, rfl, rfl, rfl, rfl, rfl, rfl, trivial⟩
  refine ma_enter (m := 240) (Or.inl (by decide)) (by show 2 ≤ mt_n 240; decide +kernel) ?_
  show At 240 Q 0 (mt_c 240) [some (.ref 80), some (.int (nI n)), none, none, none, none, none, none, none, none] [] h1
  refine go 60 (by decide) ?_
  simp only [KX, KY, KZ, KW, KV, Nat.reduceAdd, Nat.reduceSub, Nat.reduceLeDiff, true_and, and_true, true_or, or_true, or_self, reduceCtorEq, if_true, if_false, not_false_eq_true, eq_self, c240]
  refine s162y (nI_pos (by omega)) (nI_le (b := 3) (by omega) (by decide)) ?_
  refine go 60 (by decide) ?_
  simp only [KX, KY, KZ, KW, KV, Nat.reduceAdd, Nat.reduceSub, Nat.reduceLeDiff, true_and, and_true, true_or, or_true, or_self, reduceCtorEq, if_true, if_false, not_false_eq_true, eq_self, c240, (M0.1).e80, e9]
  have l0 := lp (6 ^ n) 0 h1 (Nat.zero_add _) M0 ⟨fun k hk => absurd hk (Nat.not_lt_zero k), fun k hk => absurd hk (Nat.not_lt_zero k)⟩
  by_cases c : n = 0
  · rw [if_pos (show nI n ≤ 0 by rw [c]; decide)]
    first
      | (with_reducible show At 240 _ 18 _ _ _ _)
      | (refine go 60 (by decide) ?_; simp only [KX, KY, KZ, KW, KV, Nat.reduceAdd, Nat.reduceSub, Nat.reduceLeDiff, true_and, and_true, true_or, or_true, or_self, reduceCtorEq, if_true, if_false, not_false_eq_true, eq_self, c240])
    first
      | (with_reducible show At 240 _ 18 _ _ _ _)
      | (refine go 60 (by decide) ?_; simp only [KX, KY, KZ, KW, KV, Nat.reduceAdd, Nat.reduceSub, Nat.reduceLeDiff, true_and, and_true, true_or, or_true, or_self, reduceCtorEq, if_true, if_false, not_false_eq_true, eq_self, c240])
    first
      | (with_reducible show At 240 _ 18 _ _ _ _)
      | (refine go 60 (by decide) ?_; simp only [KX, KY, KZ, KW, KV, Nat.reduceAdd, Nat.reduceSub, Nat.reduceLeDiff, true_and, and_true, true_or, or_true, or_self, reduceCtorEq, if_true, if_false, not_false_eq_true, eq_self, c240])
    exact At_le l0 ⟨rfl, rfl, rfl, rfl, trivial⟩
  · rw [if_neg (show ¬ nI n ≤ 0 from nI_ge (a := 0) (by omega) (by omega)), if_neg (show ¬ nI gc = 0 from fun z => absurd ((nI_eq (a := gc) (b := 0) (by omega) (by decide)).mp z) (by have := gn (by omega); omega))]
    first
      | (with_reducible show At 240 _ 18 _ _ _ _)
      | (refine go 60 (by decide) ?_; simp only [KX, KY, KZ, KW, KV, Nat.reduceAdd, Nat.reduceSub, Nat.reduceLeDiff, true_and, and_true, true_or, or_true, or_self, reduceCtorEq, if_true, if_false, not_false_eq_true, eq_self, c240])
    first
      | (with_reducible show At 240 _ 18 _ _ _ _)
      | (refine go 60 (by decide) ?_; simp only [KX, KY, KZ, KW, KV, Nat.reduceAdd, Nat.reduceSub, Nat.reduceLeDiff, true_and, and_true, true_or, or_true, or_self, reduceCtorEq, if_true, if_false, not_false_eq_true, eq_self, c240])
    first
      | (with_reducible show At 240 _ 18 _ _ _ _)
      | (refine go 60 (by decide) ?_; simp only [KX, KY, KZ, KW, KV, Nat.reduceAdd, Nat.reduceSub, Nat.reduceLeDiff, true_and, and_true, true_or, or_true, or_self, reduceCtorEq, if_true, if_false, not_false_eq_true, eq_self, c240])
    exact At_le l0 ⟨rfl, rfl, rfl, rfl, trivial⟩
