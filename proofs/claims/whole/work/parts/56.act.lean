/-! act answers alike, the end -/
theorem p140 {h : ma_H} {s y x : Int32} (I : Inv h) : Pair h 140 269 [.int s, .int y, .int x] := by
  intro Q k
  have H0 := hb_sh I.sh (0, ai h 28) 0
  rcases icasS s with ⟨s', hs, qs, x0, x4, x3, vs, ts⟩ | ⟨o1, o2⟩
  · obtain ⟨n, n6, e1, e2, g⟩ := I.ng.at
    -- nothing stands there
    have nul : ∀ on : Int32, (on < 0 ∨ ¬ on ≤ 5) → (∀ Q : ma_Q, Q (some .null) (hb h (0, ai h 28) 0) → ma_X 152 [.ref 0, .int s] (hb h (0, ai h 28) 0) Q) → (∀ Q : ma_Q, Q (some (.int on)) (ma_set (hb h (0, ai h 28) 0) 80 (.inr (12, (mO (hb h (0, ai h 28) 0)).set 53 (.int 0)))) → ma_X 255 [.ref 80, .int s] (ma_set (hb h (0, ai h 28) 0) 80 (.inr (12, (mO (hb h (0, ai h 28) 0)).set 53 (.int 0)))) Q) → ma_X 140 [.ref 0, .int s, .int y, .int x] h Q := fun on o G K => s140n I.sh G (k _ _ (by repeat (first | exact e80_I I | exact e80_S (by assumption) | exact e80_I (by assumption) | exact e80_n I.sh | refine e80_s (by omega) ?_)) fun Q2 k2 => s269n H0 x0 x3 K (Or.inr o) (k2 _ I.act0))
    rcases I.rv s' hs with ⟨a1, a2⟩ | ⟨a1, a2, a3⟩ | ⟨t, ht, a1, a2, a3, a4⟩
    · exact nul (-1) (Or.inl (by decide)) (fun Q kq => s152n H0 hs x0 x4 x3 vs ts (show ¬ ai h 25 s' = 0 by rw [a1]; decide) kq) (fun Q kq => s255e (m0_sh H0) hs vs ts (show ¬ ai h 109 s' = 0 by rw [a2]; decide) (show ai h 109 s' < 0 by rw [a2]; decide) kq)
    · rcases icasN (ai h 26 s') n (by omega) with ⟨i, hi, qi, -⟩ | ⟨u1, u2⟩
      · obtain ⟨r, kk, a, er, r115, rlt, hk, ha, eo, f1, f2⟩ := g i hi
        have G : ∀ Q : ma_Q, Q (some (.ref r)) (hb h (0, ai h 28) 0) → ma_X 152 [.ref 0, .int s] (hb h (0, ai h 28) 0) Q := fun Q kq => s152 H0 hs x0 x4 x3 vs ts (show ai h 25 s' = 0 from a1) (show fi h 34 2 = nI n from e1) n6 hi (show ai h 26 s' = nI i from qi) (show ar h 48 i = some r from er) kq
        have K : ∀ (T : TT) (pp : Int32) (Q : ma_Q), Q (some (.int (nI kk))) (ma_set (hb h T pp) 80 (.inr (12, (mO (hb h T pp)).set 53 (.int 0)))) → ma_X 255 [.ref 80, .int s] (ma_set (hb h T pp) 80 (.inr (12, (mO (hb h T pp)).set 53 (.int 0)))) Q := fun T pp Q kq => s255 (m0_sh (hb_sh I.sh T pp)) hs vs ts (show ai h 109 s' = 0 from a2) (show fi h 80 9 = nI n from e2) n6 hi (show ai h 110 s' = nI i by rw [← a3]; exact qi) (show ai h 90 (2 * i) = nI kk from f1) kq
        rcases icasB y 3 (by decide) with ⟨y', hy, qy, -⟩ | ⟨w1, w2⟩
        · subst qy
          refine s140 I.sh r115 hk eo G hy (k _ _ (by repeat (first | exact e80_I I | exact e80_S (by assumption) | exact e80_I (by assumption) | exact e80_n I.sh | refine e80_s (by omega) ?_)) fun Q2 k2 => ?_)
          refine s269 (hb_sh I.sh _ _) x0 x3 ts vs hk (by omega) (show ai h 110 s' = nI i by rw [← a3]; exact qi) (show ai h 90 (2 * i + 1) = nI a from f2) (K _ _) hy ?_
          have t0 : TR (0, ai h 28) (0, ai h 112) := ⟨rfl, fun j hj => absurd hj (Nat.not_lt_zero j)⟩
          obtain ⟨v1, t1⟩ := tr_acv t0 y' kk (nI i) (nI a) x
          show Q2 (some (.int (actv (acv y' kk (nI i) (nI a) x (0, ai h 112)).1 _))) _
          rw [← v1]
          exact k2 _ (I.act1 t1 (acv_le (Nat.zero_le _)) _ _ _ _ _)
        · exact s140o I.sh w1 r115 hk eo G (k _ _ (by repeat (first | exact e80_I I | exact e80_S (by assumption) | exact e80_I (by assumption) | exact e80_n I.sh | refine e80_s (by omega) ?_)) fun Q2 k2 => s269n H0 x0 x3 (K _ _) (Or.inl w1) (k2 _ I.act0))
      · exact nul (-1) (Or.inl (by decide)) (fun Q kq => s152o H0 hs x0 x4 x3 vs ts (show ai h 25 s' = 0 from a1) (show fi h 34 2 = nI n from e1) (show ai h 26 s' < 0 ∨ ¬ ai h 26 s' < nI n from u1) kq) (fun Q kq => s255o (m0_sh H0) hs vs ts (show ai h 109 s' = 0 from a2) (show fi h 80 9 = nI n from e2) (show ai h 110 s' < 0 ∨ ¬ ai h 110 s' ≤ nI n - 1 by rw [← a3]; exact u2) kq)
    · exact nul 9 (Or.inr (by decide)) (fun Q kq => s152n H0 hs x0 x4 x3 vs ts (show ¬ ai h 25 s' = 0 by rw [a1]; exact nI_ne0 (by omega) (by omega)) kq) (fun Q kq => s255r (m0_sh H0) hs vs ts (show ¬ ai h 109 s' = 0 by rw [a2]; decide) (show ¬ ai h 109 s' < 0 by rw [a2]; decide) kq)
  · exact s140n I.sh (fun Q kq => s152b H0 o2 kq) (k _ _ (by repeat (first | exact e80_I I | exact e80_S (by assumption) | exact e80_I (by assumption) | exact e80_n I.sh | refine e80_s (by omega) ?_)) fun Q2 k2 => s269b H0 o1 (k2 _ I.act0))
