/-! ways: the class goes on -/
def seed0 : Bs := fun c => decide (c = 45)
def TF (st : Bs → Nat → Bs) (gc : Nat) : Nat → Nat → Bs
  | 0, _ => seed0
  | n + 1, w => if w = 0 then seed0 else st (TF st gc n ((w - 1) / gc)) ((w - 1) % gc)
def Pn (gc : Nat) : Nat → Nat
  | 0 => 1
  | n + 1 => 1 + gc * Pn gc n
theorem TF_child (st : Bs → Nat → Bs) {gc k : Nat} (hk : k < gc) (n w : Nat) : TF st gc (n + 1) (w * gc + 1 + k) = st (TF st gc n w) k := by
  show (if w * gc + 1 + k = 0 then seed0 else st (TF st gc n ((w * gc + 1 + k - 1) / gc)) ((w * gc + 1 + k - 1) % gc)) = _
  rw [if_neg (by omega), show w * gc + 1 + k - 1 = k + w * gc by omega, Nat.add_mul_div_right k w (by omega), Nat.div_eq_of_lt hk, Nat.zero_add, Nat.add_mul_mod_self_right, Nat.mod_eq_of_lt hk]
theorem TF_stab (st : Bs → Nat → Bs) (gc : Nat) : ∀ n w, w < Pn gc n → TF st gc n w = TF st gc (n + 1) w
  | 0, w, h => by
    have h : w < 1 := h
    obtain rfl : w = 0 := by omega
    rfl
  | n + 1, w, h => by
    have h : w < 1 + gc * Pn gc n := h
    show (if w = 0 then seed0 else st (TF st gc n ((w - 1) / gc)) ((w - 1) % gc)) = (if w = 0 then seed0 else st (TF st gc (n + 1) ((w - 1) / gc)) ((w - 1) % gc))
    by_cases c : w = 0
    · rw [if_pos c, if_pos c]
    · rw [if_neg c, if_neg c, TF_stab st gc n _ (Nat.div_lt_of_lt_mul (by omega))]
def wst (h : ma_H) (S : Bs) (d : Nat) : Bs := fun c => S c || gS (ai h 90 (2 * d)).toNatClampNeg (ai h 90 (2 * d + 1)) S c
def TW (h : ma_H) (gc w : Nat) : Bs := TF (wst h) gc 3 w
theorem Pn2 (gc : Nat) : Pn gc 2 = 1 + gc * (1 + gc * 1) := rfl
theorem TW_child (h : ma_H) {gc k w : Nat} (hk : k < gc) (hw : w < Pn gc 2) : TW h gc (w * gc + 1 + k) = wst h (TW h gc w) k := by
  show TF (wst h) gc (2 + 1) (w * gc + 1 + k) = wst h (TF (wst h) gc 3 w) k
  rw [TF_child _ hk, TF_stab _ _ 2 w hw]
theorem TW_0 (h : ma_H) (gc : Nat) : TW h gc 0 = seed0 := rfl
theorem w84 : ∀ c, c < 91 → (ma_cell c = 84 ↔ c = 45) := by decide +kernel
theorem seed_hS {g : Nat → Int32} {c : Nat} (hc : c < 91) : hS (upd (fl_set g (-1) 91) 84 0) c = seed0 c := by
  unfold hS seed0 upd
  by_cases z : c = 45
  · rw [if_pos ((w84 c hc).mpr z), decide_eq_true z]
    decide
  · rw [if_neg (fun w => z ((w84 c hc).mp w)), fl_set_lo hc 91 (Nat.le_refl _) hc, decide_eq_false z]
    decide
theorem seed_ok {g : Nat → Int32} (ok : fl_ok g) : fl_ok (upd (fl_set g (-1) 91) 84 0) := by
  have e : (84 : Nat) = ma_cell 45 := by decide +kernel
  rw [e]
  refine fl_upd_ok ⟨fun i hi => fl_set_ne (by decide) (ok.1 i hi) 91, fun q hq w => ?_⟩ (by decide) (by decide)
  have s : ∀ n, n ≤ 91 → fl_set g (-1) n q = g q := by
    intro n
    induction n with
    | zero => intro _; rfl
    | succ n ih =>
      intro hn
      show upd (fl_set g (-1) n) (ma_cell n) (-1) q = _
      unfold upd
      rw [if_neg (w n (by omega))]
      exact ih (by omega)
  rw [s 91 (Nat.le_refl _)]
  exact ok.2 q hq w
/-- the first m ways stand -/
def CW (h : ma_H) (gc : Nat) (hh : ma_H) (m : Nat) : Prop := Sh hh ∧ hh.1 = h.1 ∧ (∀ a, a ≠ 29 → a ≠ 30 → a ≠ 31 → a ≠ 32 → hh.2.1 a = h.2.1 a) ∧ fl_ok (ai hh 32) ∧ ∀ w, w < m → al hh 29 w = bt (TW h gc w) 0 64 ∧ al hh 30 w = bt (TW h gc w) 64 27
theorem bt_c {S T : Bs} {off n : Nat} (hn : n ≤ 64) (e : ∀ j, j < n → S (off + j) = T (off + j)) : bt S off n = bt T off n := (bt_eq hn).mpr e
theorem s156 {h : ma_H} {Q : ma_Q} (H : Sh h) (ok : fl_ok (ai h 32)) (gc : Nat) (k : ∀ h2, CW h gc h2 1 → Q none h2) : ma_X 156 [.ref 0] h Q := by
  have H1 : Sh (ma_set (ma_set h 32 (.inl (.int, 169, .inl (upd (fl_set (ai h 32) (-1) 91) 84 0)))) 31 (.inr (2, [.int 0, .ref 32, .ref 33]))) := sh_set (sh_set H rfl) rfl
  have hs29 : ∀ g, Sh (ma_set (ma_set (ma_set h 32 (.inl (.int, 169, .inl (upd (fl_set (ai h 32) (-1) 91) 84 0)))) 31 (.inr (2, [.int 0, .ref 32, .ref 33]))) 29 (.inl (.long, 259, .inr (.inl g)))) := fun g => sh_set H1 rfl
  have e31 : (ma_set (ma_set h 32 (.inl (.int, 169, .inl (upd (fl_set (ai h 32) (-1) 91) 84 0)))) 31 (.inr (2, [.int 0, .ref 32, .ref 33]))).2.1 31 = .inr (2, [.int 0, .ref 32, .ref 33]) := ma_set_at _ _ _
  have e32 : (ma_set (ma_set h 32 (.inl (.int, 169, .inl (upd (fl_set (ai h 32) (-1) 91) 84 0)))) 31 (.inr (2, [.int 0, .ref 32, .ref 33]))).2.1 32 = .inl (.int, 169, .inl (upd (fl_set (ai h 32) (-1) 91) 84 0)) := (ma_set_ne _ _ (by decide)).trans (ma_set_at _ _ _)
  have a29 : al (ma_set (ma_set h 32 (.inl (.int, 169, .inl (upd (fl_set (ai h 32) (-1) 91) 84 0)))) 31 (.inr (2, [.int 0, .ref 32, .ref 33]))) 29 = al h 29 := (al_ne _ _ (by decide)).trans (al_ne _ _ (by decide))
  have a30 : ∀ c, al (ma_set (ma_set (ma_set h 32 (.inl (.int, 169, .inl (upd (fl_set (ai h 32) (-1) 91) 84 0)))) 31 (.inr (2, [.int 0, .ref 32, .ref 33]))) 29 c) 30 = al h 30 := fun c => (al_ne _ _ (by decide)).trans ((al_ne _ _ (by decide)).trans (al_ne _ _ (by decide)))
  refine ma_enter (m := 156) (Or.inl (by decide)) (by show 1 ≤ mt_n 156; decide +kernel) ?_
  show At 156 Q 0 (mt_c 156) [some (.ref 0)] [] h
  refine go 60 (by decide) ?_
  simp only [KX, KY, KZ, KW, KV, Nat.reduceAdd, Nat.reduceSub, Nat.reduceLeDiff, true_and, and_true, true_or, or_true, or_self, reduceCtorEq, if_true, if_false, not_false_eq_true, eq_self, c156, H.e0, H.e31]
  have e1 := H.e31
  refine s15 (a := 31) (s := 32) (rc := 33) (mn := fi h 31 0) (g := ai h 32) H.e31 H.e32 (by decide) ok ?_
  refine go 60 (by decide) ?_
  simp only [KX, KY, KZ, KW, KV, Nat.reduceAdd, Nat.reduceSub, Nat.reduceLeDiff, true_and, and_true, true_or, or_true, or_self, reduceCtorEq, if_true, if_false, not_false_eq_true, eq_self, c156, H1.e0, H1.e29, H1.e31]
  refine s36_0 e31 e32 ?_
  refine go 60 (by decide) ?_
  simp only [KX, KY, KZ, KW, KV, Nat.reduceAdd, Nat.reduceSub, Nat.reduceLeDiff, true_and, and_true, true_or, or_true, or_self, reduceCtorEq, if_true, if_false, not_false_eq_true, eq_self, c156, H1.e0, H1.e29, (hs29 _).e0, (hs29 _).e30, (hs29 _).e31]
  refine ⟨nI_in (c := 0) (by decide) (by decide), ?_⟩
  try (refine go 60 (by decide) ?_; simp only [KX, KY, KZ, KW, KV, Nat.reduceAdd, Nat.reduceSub, Nat.reduceLeDiff, true_and, and_true, true_or, or_true, or_self, reduceCtorEq, if_true, if_false, not_false_eq_true, eq_self, c156, (hs29 _).e0, (hs29 _).e30, (hs29 _).e31])
  refine s36_1 (a := 31) (s := 32) (rc := 33) (mn := 0) ((ma_set_ne _ _ (by decide)).trans e31) ((ma_set_ne _ _ (by decide)).trans e32) ?_
  refine go 60 (by decide) ?_
  simp only [KX, KY, KZ, KW, KV, Nat.reduceAdd, Nat.reduceSub, Nat.reduceLeDiff, true_and, and_true, true_or, or_true, or_self, reduceCtorEq, if_true, if_false, not_false_eq_true, eq_self, c156, (hs29 _).e0, (hs29 _).e30]
  refine ⟨nI_in (c := 0) (by decide) (by decide), ?_⟩
  refine k _ ⟨sh_set (hs29 _) rfl, rfl, fun a a1 a2 a3 a4 => ?_, ?_, fun w hw => ?_⟩
  · rw [ma_set_ne _ _ a2, ma_set_ne _ _ a1, ma_set_ne _ _ a3, ma_set_ne _ _ a4]
  · rw [ai_ne _ _ (by decide), ai_ne _ _ (by decide), ai_ne _ _ (by decide), ai_at]
    exact seed_ok ok
  · obtain rfl : w = 0 := by omega
    rw [al_at, al_ne _ _ (by decide), al_at, TW_0]
    exact ⟨(if_pos rfl).trans (bt_c (by decide) fun j hj => seed_hS (by omega)), (if_pos rfl).trans (bt_c (by decide) fun j hj => seed_hS (by omega))⟩
theorem s157 {h h2 : ma_H} {Q : ma_Q} {gc w : Nat} (C : CW h gc h2 (1 + gc * w)) (hw : w < 1 + gc * w) (hw2 : w < Pn gc 2) (w42 : w ≤ 42) (g6 : gc ≤ 6) (eg : fi h 34 2 = nI gc) (G : ∀ i, i < gc → ∃ r kk a, ar h 48 i = some r ∧ 115 ≤ r ∧ r < h.1 ∧ kk < 6 ∧ a < 64 ∧ h.2.1 r = g_obj kk i a ∧ ai h 90 (2 * i) = nI kk ∧ ai h 90 (2 * i + 1) = nI a) (k0 : ∀ h3, CW h gc h3 (1 + gc * (w + 1)) → Q none h3) : ma_X 157 [.ref 0, .int (nI w)] h2 Q := by
  obtain ⟨C1, c2, c3, c4, c5⟩ := C
  have lp : ∀ n k h3, k + n = gc → (Sh h3 ∧ h3.1 = h.1 ∧ (∀ a, a ≠ 29 → a ≠ 30 → a ≠ 31 → a ≠ 32 → h3.2.1 a = h.2.1 a) ∧ fl_ok (ai h3 32) ∧ (∀ p, p < 169 → ai h3 32 p = cS (TW h gc w) p) ∧ ∀ v, v < w * gc + 1 + k → al h3 29 v = bt (TW h gc v) 0 64 ∧ al h3 30 v = bt (TW h gc v) 64 27) → At 157 Q 19 (0, 0) [some (.ref 0), some (.int (nI w)), some (.int (nI k)), none, none] [] h3 := by
    intro n
    induction n with
    | zero =>
      intro k h3 ek ⟨D1, d2, d3, d4, d5, d6⟩
      obtain rfl : k = gc := by omega
      have f2 : fi h3 34 2 = nI k := by
        show fiC (h3.2.1 34) 2 = _
        rw [d3 34 (by decide) (by decide) (by decide) (by decide)]
        exact eg
      refine go 60 (by decide) ?_
      simp only [KX, KY, KZ, KW, KV, Nat.reduceAdd, Nat.reduceSub, Nat.reduceLeDiff, true_and, and_true, true_or, or_true, or_self, reduceCtorEq, if_true, if_false, not_false_eq_true, eq_self, c157, D1.e0, D1.e34, f2]
      rw [if_neg (nI_nlt (Nat.le_refl _) (by omega))]
      exact k0 h3 ⟨D1, d2, d3, d4, fun v hv => d6 v (by rw [Nat.mul_succ, Nat.mul_comm k w] at hv; omega)⟩
    | succ n ih =>
      intro k h3 ek ⟨D1, d2, d3, d4, d5, d6⟩
      have f2 : fi h3 34 2 = nI gc := by
        show fiC (h3.2.1 34) 2 = _
        rw [d3 34 (by decide) (by decide) (by decide) (by decide)]
        exact eg
      have hs29 : ∀ g, Sh (ma_set h3 29 (.inl (.long, 259, .inr (.inl g)))) := fun g => sh_set D1 rfl
      have em : nI w * nI gc = nI (w * gc) := nI_mul w gc
      have e1m : nI (w * gc) + 1 = nI (w * gc + 1) := nI_1 _
      have hk : k < gc := by omega
      have hn : w * gc + 1 + k < 259 := by
        have := Nat.mul_le_mul (show w ≤ 42 by omega) g6
        omega
      obtain ⟨r, kk, a, er, r115, -, hkk, ha, eo, f90, f91⟩ := G k hk
      have er3 : ar h3 48 k = some r := by
        show arC (h3.2.1 48) k = _
        rw [d3 48 (by decide) (by decide) (by decide) (by decide)]
        exact er
      have eo3 : h3.2.1 r = .inr (g_cls kk, [.int (nI kk), .int (nI k), .int (nI a), .ref 27]) := (d3 r (by omega) (by omega) (by omega) (by omega)).trans eo
      have hw1 : w < w * gc + 1 + k := by
        have := Nat.mul_le_mul (Nat.le_refl w) (show 1 ≤ gc by omega)
        omega
      have ee : ∀ c, c < 91 → fzB (ai h3 32) kk (nI a) c = gS (ai h 90 (2 * k)).toNatClampNeg (ai h 90 (2 * k + 1)) (TW h gc w) c := fun c hc => by
        rw [f90, f91, nI_clamp (show kk < 2 ^ 31 by omega)]
        unfold fzB gS
        rw [fz_c d5 kk (nI a) hc]
      have or0 : bt (TW h gc w) 0 64 ||| bt (fzB (ai h3 32) kk (nI a)) 0 64 = bt (TW h gc (w * gc + 1 + k)) 0 64 := by
        rw [bt_or _ _ (by decide), TW_child h hk hw2]
        exact bt_c (by decide) fun j hj => by
          show (TW h gc w (0 + j) || fzB (ai h3 32) kk (nI a) (0 + j)) = (TW h gc w (0 + j) || _)
          rw [ee _ (by omega)]
      have or1 : bt (TW h gc w) 64 27 ||| bt (fzB (ai h3 32) kk (nI a)) 64 27 = bt (TW h gc (w * gc + 1 + k)) 64 27 := by
        rw [bt_or _ _ (by decide), TW_child h hk hw2]
        exact bt_c (by decide) fun j hj => by
          show (TW h gc w (64 + j) || fzB (ai h3 32) kk (nI a) (64 + j)) = (TW h gc w (64 + j) || _)
          rw [ee _ (by omega)]
      refine go 60 (by decide) ?_
      simp only [KX, KY, KZ, KW, KV, Nat.reduceAdd, Nat.reduceSub, Nat.reduceLeDiff, true_and, and_true, true_or, or_true, or_self, reduceCtorEq, if_true, if_false, not_false_eq_true, eq_self, c157, D1.e0, D1.e34, D1.e29, D1.e30, f2, em, e1m, show lN ((1 : Fin 2).val) = lN 1 from rfl, show lN ((0 : Fin 2).val) = lN 0 from rfl]
      rw [if_pos (nI_lt hk (by omega))]
      have ei : nI (w * gc + 1) + nI k = nI (w * gc + 1 + k) := nI_add _ _
      refine s95 D1 f2 g6 hk rfl er3 ?_
      refine go 60 (by decide) ?_
      simp only [KX, KY, KZ, KW, KV, Nat.reduceAdd, Nat.reduceSub, Nat.reduceLeDiff, true_and, and_true, true_or, or_true, or_self, reduceCtorEq, if_true, if_false, not_false_eq_true, eq_self, c157, D1.e0, D1.e34, D1.e29, D1.e30, f2, em, e1m, show lN ((1 : Fin 2).val) = lN 1 from rfl, show lN ((0 : Fin 2).val) = lN 0 from rfl, D1.e31, eo3, (vt289 kk hkk).2.2.1, show mt_c 43 = (0, 0) from rfl]
      rw [ei]
      rw [if_pos (show nI (w * gc + 1 + k) < (259 : Int32) from nI_lt (b := 259) hn (by decide)), nI_clamp (show w < 2 ^ 31 by omega), (d6 w hw1).1]
      refine ⟨nI_in (show w < 259 by omega) (by decide), ?_⟩
      have eo4 : ∀ c, (ma_set h3 29 c).2.1 r = _ := fun c => (ma_set_ne _ _ (by omega)).trans eo3
      refine s43_0 D1.e31 D1.e32 hkk eo3 ?_
      refine go 60 (by decide) ?_
      simp only [KX, KY, KZ, KW, KV, Nat.reduceAdd, Nat.reduceSub, Nat.reduceLeDiff, true_and, and_true, true_or, or_true, or_self, reduceCtorEq, if_true, if_false, not_false_eq_true, eq_self, c157, D1.e0, D1.e34, D1.e29, D1.e30, f2, em, e1m, show lN ((1 : Fin 2).val) = lN 1 from rfl, show lN ((0 : Fin 2).val) = lN 0 from rfl, D1.e31, eo3, eo4, (vt289 kk hkk).2.2.1, show mt_c 43 = (0, 0) from rfl, (hs29 _).e0, (hs29 _).e30, (hs29 _).e31, (hs29 _).e34]
      rw [or0, nI_clamp (show w * gc + 1 + k < 2 ^ 31 by omega), al_ne _ _ (show 30 ≠ 29 by decide), nI_clamp (show w < 2 ^ 31 by omega), (d6 w hw1).2]
      refine ⟨nI_in hn (by decide), nI_in (show w < 259 by omega) (by decide), ?_⟩
      refine s43_1 ((ma_set_ne (a := 29) _ _ (by decide)).trans D1.e31) ((ma_set_ne (a := 29) _ _ (by decide)).trans D1.e32) hkk ((ma_set_ne (a := 29) _ _ (by omega)).trans eo3) ?_
      refine go 60 (by decide) ?_
      simp only [KX, KY, KZ, KW, KV, Nat.reduceAdd, Nat.reduceSub, Nat.reduceLeDiff, true_and, and_true, true_or, or_true, or_self, reduceCtorEq, if_true, if_false, not_false_eq_true, eq_self, c157, (hs29 _).e30]
      rw [or1, nI_clamp (show w * gc + 1 + k < 2 ^ 31 by omega)]
      refine ⟨nI_in hn (by decide), ?_⟩
      first
        | (with_reducible show At 157 _ 19 _ _ _ _)
        | (refine go 60 (by decide) ?_; simp only [KX, KY, KZ, KW, KV, Nat.reduceAdd, Nat.reduceSub, Nat.reduceLeDiff, true_and, and_true, true_or, or_true, or_self, reduceCtorEq, if_true, if_false, not_false_eq_true, eq_self, c157])
      first
        | (with_reducible show At 157 _ 19 _ _ _ _)
        | (refine go 60 (by decide) ?_; simp only [KX, KY, KZ, KW, KV, Nat.reduceAdd, Nat.reduceSub, Nat.reduceLeDiff, true_and, and_true, true_or, or_true, or_self, reduceCtorEq, if_true, if_false, not_false_eq_true, eq_self, c157])
      first
        | (with_reducible show At 157 _ 19 _ _ _ _)
        | (refine go 60 (by decide) ?_; simp only [KX, KY, KZ, KW, KV, Nat.reduceAdd, Nat.reduceSub, Nat.reduceLeDiff, true_and, and_true, true_or, or_true, or_self, reduceCtorEq, if_true, if_false, not_false_eq_true, eq_self, c157])
      rw [nI_1 k, al_ne _ _ (show 30 ≠ 29 by decide)]
      refine At_le (ih (k + 1) _ (by omega) ⟨sh_set (hs29 _) rfl, d2, fun a a1 a2 a3 a4 => ?_, ?_, fun p hp => ?_, fun v hv => ?_⟩) ⟨rfl, rfl, rfl, trivial⟩
      · rw [ma_set_ne _ _ a2, ma_set_ne _ _ a1]
        exact d3 a a1 a2 a3 a4
      · rw [ai_ne _ _ (by decide), ai_ne _ _ (by decide)]
        exact d4
      · rw [ai_ne _ _ (by decide), ai_ne _ _ (by decide)]
        exact d5 p hp
      · rw [al_at, al_ne _ _ (by decide), al_at]
        unfold vp_updL
        by_cases z : v = w * gc + 1 + k
        · rw [if_pos z, if_pos z, z]
          exact ⟨rfl, rfl⟩
        · rw [if_neg z, if_neg z]
          exact d6 v (by omega)
  refine ma_enter (m := 157) (Or.inl (by decide)) (by show 2 ≤ mt_n 157; decide +kernel) ?_
  show At 157 Q 0 (mt_c 157) [some (.ref 0), some (.int (nI w)), none, none, none] [] h2
  refine go 60 (by decide) ?_
  simp only [KX, KY, KZ, KW, KV, Nat.reduceAdd, Nat.reduceSub, Nat.reduceLeDiff, true_and, and_true, true_or, or_true, or_self, reduceCtorEq, if_true, if_false, not_false_eq_true, eq_self, c157, C1.e0, C1.e29, C1.e30, C1.e31]
  rw [if_neg (nI_pos (show w < 2 ^ 31 by omega)), if_pos (show nI w < (259 : Int32) from nI_lt (b := 259) (by omega) (by decide)), nI_clamp (show w < 2 ^ 31 by omega), (c5 w hw).1, (c5 w hw).2]
  refine ⟨nI_in (show w < 259 by omega) (by decide), nI_in (show w < 259 by omega) (by decide), ?_⟩
  refine s37 C1.e31 C1.e32 (by decide) c4 ?_
  refine go 60 (by decide) ?_
  simp only [KX, KY, KZ, KW, KV, Nat.reduceAdd, Nat.reduceSub, Nat.reduceLeDiff, true_and, and_true, true_or, or_true, or_self, reduceCtorEq, if_true, if_false, not_false_eq_true, eq_self, c157]
  refine At_le (lp gc 0 _ (by omega) ⟨sh_set C1 rfl, c2, fun a a1 a2 a3 a4 => (ma_set_ne _ _ a4).trans (c3 a a1 a2 a3 a4), ?_, fun p hp => ?_, fun v hv => ?_⟩) ⟨rfl, rfl, rfl, trivial⟩
  · rw [ai_at]
    exact fl_tb_ok c4
  · rw [ai_at]
    exact fl_tb_cS c4 p hp
  · rw [al_ne _ _ (by decide), al_ne _ _ (by decide)]
    exact c5 v (by rw [Nat.mul_comm]; omega)
