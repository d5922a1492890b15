/-! judge answers alike -/
def jm (n c : Nat) (a b r k : Nat → Int32) : Nat → Nat → Int32
  | 0, _ => if n < c then 222 else 0
  | f + 1, i => if c ≤ i then nI (i + 1) else if a i = r i then (if b i = k i then jm n c a b r k f (i + 1) else nI (i + 1)) else nI (i + 1)
theorem jm_skip {n c : Nat} {a b r k : Nat → Int32} : ∀ m f, (∀ j, j < m → j < c ∧ a j = r j ∧ b j = k j) → jm n c a b r k (m + f) 0 = jm n c a b r k f m
  | 0, f, _ => by rw [Nat.zero_add]
  | m + 1, f, w => by
    have ih := jm_skip (n := n) m (f + 1) (fun j hj => w j (by omega))
    obtain ⟨w1, w2, w3⟩ := w m (by omega)
    rw [show m + 1 + f = m + (f + 1) by omega, ih]
    show (if c ≤ m then nI (m + 1) else if a m = r m then (if b m = k m then jm n c a b r k f (m + 1) else nI (m + 1)) else nI (m + 1)) = _
    rw [if_neg (by omega), if_pos w2, if_pos w3]
theorem cnt_mono (K : Nat → Int32) (i : Nat) : ∀ n, cnt K i ≤ cnt K (i + n)
  | 0 => Nat.le_refl _
  | n + 1 => by
    have := cnt_mono K i n
    show _ ≤ (if K (i + n) ≤ 0 then cnt K (i + n) else cnt K (i + n) + 1)
    split <;> omega
theorem rr_at {K : Nat → Int32} {i : Nat} (z : ¬ K i ≤ 0) : ∀ n, rr K (i + 1 + n) (cnt K i) = nI i ∧ rk K (i + 1 + n) (cnt K i) = K i
  | 0 => by
    have b : rr K (i + 1) = upd (rr K i) (cnt K i) (nI i) := if_neg z
    have c : rk K (i + 1) = upd (rk K i) (cnt K i) (K i) := if_neg z
    show rr K (i + 1) _ = _ ∧ rk K (i + 1) _ = _
    rw [b, c]
    exact ⟨upd_at _ _ _, upd_at _ _ _⟩
  | n + 1 => by
    obtain ⟨h1, h2⟩ := rr_at z n
    have m1 := cnt_mono K (i + 1) n
    have m0 : cnt K (i + 1) = cnt K i + 1 := if_neg z
    show (if K (i + 1 + n) ≤ 0 then rr K (i + 1 + n) else upd (rr K (i + 1 + n)) (cnt K (i + 1 + n)) (nI (i + 1 + n))) (cnt K i) = _ ∧ (if K (i + 1 + n) ≤ 0 then rk K (i + 1 + n) else upd (rk K (i + 1 + n)) (cnt K (i + 1 + n)) (K (i + 1 + n))) (cnt K i) = _
    split
    · exact ⟨h1, h2⟩
    · rw [upd_ne _ _ (by omega), upd_ne _ _ (by omega)]
      exact ⟨h1, h2⟩
theorem s133 {h : ma_H} {Q : ma_Q} {x : Int32} {f n : Nat} {K : Nat → Int32} (H : Sh h) (R : Rr h) (l : f < 4) (q : x = nI f) (n6 : n ≤ 6) (e : fi h 0 8 = nI n) (hK : ∀ i, i < 6 → su (fl_ringIce (ai h (37 + 3 * f)) (nI i)) 91 = K i) (k : Q (some (.int (jm n (cnt K 6) (fun i => ai h (12 + i) 0) (fun i => ai h (12 + i) 1) (rr K 6) (rk K 6) n 0))) h) : ma_X 133 [.ref 0, .int x] h Q := by
  have lp : ∀ m i, i + m = 6 → (∀ j, j < cnt K i → j < n → ai h (12 + j) 0 = rr K 6 j ∧ ai h (12 + j) 1 = rk K 6 j) → At 133 Q 12 (0, 0) [some (.ref 0), some (.int x), some (.ref (36 + 3 * f)), some (.int (nI (cnt K i))), some (.int (nI i)), none] [] h := by
    intro m
    induction m with
    | zero =>
      intro i em w
      obtain rfl : i = 6 := by omega
      have hc := cnt_le K 6
      refine go 60 (by decide) ?_
      simp only [KX, KY, KZ, KW, KV, Nat.reduceAdd, Nat.reduceSub, Nat.reduceLeDiff, true_and, and_true, true_or, or_true, or_self, reduceCtorEq, if_true, if_false, not_false_eq_true, eq_self, c133, H.e0, e]
      rw [if_neg (show ¬ nI 6 < (6 : Int32) from nI_nlt (Nat.le_refl _) (by decide))]
      by_cases c1 : n ≤ cnt K 6
      · have sk := jm_skip (n := n) (c := cnt K 6) (a := fun i => ai h (12 + i) 0) (b := fun i => ai h (12 + i) 1) (r := rr K 6) (k := rk K 6) n 0 (fun j hj => ⟨by omega, w j (by omega) hj⟩)
        rw [Nat.add_zero] at sk
        rw [sk] at k
        rw [if_pos (nI_le c1 (by omega))]
        by_cases c2 : n < cnt K 6
        · rw [show jm n (cnt K 6) (fun i => ai h (12 + i) 0) (fun i => ai h (12 + i) 1) (rr K 6) (rk K 6) 0 n = 222 from if_pos c2] at k
          rw [if_pos (nI_lt c2 (by omega))]
          exact k
        · rw [show jm n (cnt K 6) (fun i => ai h (12 + i) 0) (fun i => ai h (12 + i) 1) (rr K 6) (rk K 6) 0 n = 0 from if_neg c2] at k
          rw [if_neg (nI_nlt (by omega) (by omega))]
          exact k
      · have sk := jm_skip (n := n) (c := cnt K 6) (a := fun i => ai h (12 + i) 0) (b := fun i => ai h (12 + i) 1) (r := rr K 6) (k := rk K 6) (cnt K 6) (n - cnt K 6) (fun j hj => ⟨hj, w j hj (by omega)⟩)
        rw [show cnt K 6 + (n - cnt K 6) = n by omega] at sk
        obtain ⟨d, hd⟩ : ∃ d, n - cnt K 6 = d + 1 := ⟨n - cnt K 6 - 1, by omega⟩
        rw [hd] at sk
        rw [sk, show jm n (cnt K 6) (fun i => ai h (12 + i) 0) (fun i => ai h (12 + i) 1) (rr K 6) (rk K 6) (d + 1) (cnt K 6) = nI (cnt K 6 + 1) from if_pos (Nat.le_refl _)] at k
        rw [if_neg (nI_ge (by omega) (by omega)), nI_1]
        exact k
    | succ m ih =>
      intro i em w
      have hi : i < 6 := by omega
      have hc := cnt_le K i
      have hc6 := cnt_mono K i (m + 1)
      rw [show i + (m + 1) = 6 by omega] at hc6
      have tc : (nI (cnt K i)).toNatClampNeg = cnt K i := nI_clamp (by omega)
      have er : ar h 11 (cnt K i) = some (12 + cnt K i) := R.2.2.1 _ (by omega)
      have e12 := H.rw (show cnt K i < 6 by omega)
      have t0 : Int32.toNatClampNeg 0 = 0 := rfl
      have t1 : Int32.toNatClampNeg 1 = 1 := rfl
      have v0 : vp_in 0 2 := nI_in (c := 0) (by decide) (by decide)
      have v1 : vp_in 1 2 := nI_in (c := 1) (by decide) (by decide)
      have vc : vp_in (nI (cnt K i)) 6 := nI_in (by omega) (by decide)
      refine go 60 (by decide) ?_
      simp only [KX, KY, KZ, KW, KV, Nat.reduceAdd, Nat.reduceSub, Nat.reduceLeDiff, true_and, and_true, true_or, or_true, or_self, reduceCtorEq, if_true, if_false, not_false_eq_true, eq_self, c133, (H.fn l).1]
      rw [if_pos (show nI i < (6 : Int32) from nI_lt hi (by decide))]
      refine s24 (H.fn l).1 (H.fn l).2.1 ?_
      rw [hK i hi]
      refine go 60 (by decide) ?_
      simp only [KX, KY, KZ, KW, KV, Nat.reduceAdd, Nat.reduceSub, Nat.reduceLeDiff, true_and, and_true, true_or, or_true, or_self, reduceCtorEq, if_true, if_false, not_false_eq_true, eq_self, c133, H.e0, H.e11, e, tc, er, rf_some, e12, t0, t1]
      by_cases z : K i ≤ 0
      · rw [if_pos z, nI_1]
        have c1 : cnt K (i + 1) = cnt K i := if_pos z
        have ih2 := ih (i + 1) (by omega) (fun j hj => by rw [c1] at hj; exact w j hj)
        rw [c1] at ih2
        exact At_le ih2 ⟨rfl, rfl, rfl, rfl, rfl, trivial⟩
      · rw [if_neg z]
        have c1 : cnt K (i + 1) = cnt K i + 1 := if_neg z
        obtain ⟨r1, r2⟩ := rr_at (K := K) z m
        rw [show i + 1 + m = 6 by omega] at r1 r2
        have on_ : (cnt K i < n → ai h (12 + cnt K i) 0 = nI i ∧ ai h (12 + cnt K i) 1 = K i) → At 133 Q 12 (0, 0) [some (.ref 0), some (.int x), some (.ref (36 + 3 * f)), some (.int (nI (cnt K (i + 1)))), some (.int (nI (i + 1))), none] [] h := fun g => ih (i + 1) (by omega) (fun j hj hn => by
          rw [c1] at hj
          by_cases ej : j = cnt K i
          · subst ej; rw [r1, r2]; exact g hn
          · exact w j (by omega) hn)
        rw [c1] at on_
        have out : cnt K i < n → ¬ (ai h (12 + cnt K i) 0 = nI i ∧ ai h (12 + cnt K i) 1 = K i) → Q (some (.int (nI (cnt K i + 1)))) h := fun cn g => by
          have sk := jm_skip (n := n) (c := cnt K 6) (a := fun i => ai h (12 + i) 0) (b := fun i => ai h (12 + i) 1) (r := rr K 6) (k := rk K 6) (cnt K i) (n - cnt K i) (fun j hj => ⟨by omega, w j hj (by omega)⟩)
          rw [show cnt K i + (n - cnt K i) = n by omega] at sk
          obtain ⟨d, hd⟩ : ∃ d, n - cnt K i = d + 1 := ⟨n - cnt K i - 1, by omega⟩
          have m1 := cnt_mono K (i + 1) m
          rw [show i + 1 + m = 6 by omega, c1] at m1
          have d2 : jm n (cnt K 6) (fun i => ai h (12 + i) 0) (fun i => ai h (12 + i) 1) (rr K 6) (rk K 6) (d + 1) (cnt K i) = nI (cnt K i + 1) := by
            show (if cnt K 6 ≤ cnt K i then nI (cnt K i + 1) else if ai h (12 + cnt K i) 0 = rr K 6 (cnt K i) then (if ai h (12 + cnt K i) 1 = rk K 6 (cnt K i) then _ else nI (cnt K i + 1)) else nI (cnt K i + 1)) = _
            rw [if_neg (by omega), r1, r2]
            by_cases g1 : ai h (12 + cnt K i) 0 = nI i
            · rw [if_pos g1, if_neg (fun g2 => g ⟨g1, g2⟩)]
            · rw [if_neg g1]
          rw [hd] at sk
          rw [sk, d2] at k
          exact k
        by_cases cn : cnt K i < n
        · rw [if_pos (nI_lt cn (by omega)), nI_1, nI_1]
          refine ⟨vc, v0, ?_⟩
          by_cases g1 : ai h (12 + cnt K i) 0 = nI i
          · rw [if_pos g1]
            refine ⟨vc, v1, ?_⟩
            by_cases g2 : ai h (12 + cnt K i) 1 = K i
            · rw [if_pos g2]
              exact At_le (on_ (fun _ => ⟨g1, g2⟩)) ⟨rfl, rfl, rfl, rfl, rfl, trivial⟩
            · rw [if_neg g2]
              exact out cn (fun g => g2 g.2)
          · rw [if_neg g1]
            exact out cn (fun g => g1 g.1)
        · rw [if_neg (nI_nlt (by omega) (by omega)), nI_1, nI_1]
          exact At_le (on_ (fun g => absurd g cn)) ⟨rfl, rfl, rfl, rfl, rfl, trivial⟩
  refine ma_enter (m := 133) (Or.inl (by decide)) (by show 2 ≤ mt_n 133; decide +kernel) ?_
  show At 133 Q 0 (mt_c 133) [some (.ref 0), some (.int x), none, none, none, none] [] h
  refine go 60 (by decide) ?_
  simp only [KX, KY, KZ, KW, KV, Nat.reduceAdd, Nat.reduceSub, Nat.reduceLeDiff, true_and, and_true, true_or, or_true, or_self, reduceCtorEq, if_true, if_false, not_false_eq_true, eq_self, c133, H.e0]
  refine s145e H R l q ?_
  refine go 60 (by decide) ?_
  simp only [KX, KY, KZ, KW, KV, Nat.reduceAdd, Nat.reduceSub, Nat.reduceLeDiff, true_and, and_true, true_or, or_true, or_self, reduceCtorEq, if_true, if_false, not_false_eq_true, eq_self, c133]
  exact lp 6 0 rfl (fun j hj => absurd hj (Nat.not_lt_zero j))
