/-! odds answers alike -/
/-- the two ways to one fraction -/
theorem odds_eq {g K : Nat → Int32} {ms : Nat} (m4 : ms ≤ 4) (m30 : sn (kbn K) 91 ≤ 30) :
    (pn (fun i => if oc i < 15 then Ao g K ms i else 1) 91 < 2 ^ 63 ∧ pn (fun i => if oc i < 15 then 4 ^ sx (kbn K) i else 1) 91 < 2 ^ 63) ∧ (4 ^ kbn K 45 * pn (fun i => if om i < 15 then Ao g K ms i else 1) 91 < 2 ^ 63 ∧ 4 ^ sn (kbn K) 91 < 2 ^ 63) ∧
    (hlv 62 (pn (fun i => if oc i < 15 then Ao g K ms i else 1) 91) (pn (fun i => if oc i < 15 then 4 ^ sx (kbn K) i else 1) 91)).1 = (4 ^ kbn K 45 * pn (fun i => if om i < 15 then Ao g K ms i else 1) 91) / Nat.gcd (4 ^ kbn K 45 * pn (fun i => if om i < 15 then Ao g K ms i else 1) 91) (4 ^ sn (kbn K) 91) ∧
    (hlv 62 (pn (fun i => if oc i < 15 then Ao g K ms i else 1) 91) (pn (fun i => if oc i < 15 then 4 ^ sx (kbn K) i else 1) 91)).2 = 4 ^ sn (kbn K) 91 / Nat.gcd (4 ^ kbn K 45 * pn (fun i => if om i < 15 then Ao g K ms i else 1) 91) (4 ^ sn (kbn K) 91) := by
  have ec := pn_reps oc_ok (fun o ho => (rl_lt o ho).1) (Ao g K ms)
  have eb := pn_reps oc_ok (fun o ho => (rl_lt o ho).1) (fun i => 4 ^ sx (kbn K) i)
  have em := pn_reps om_ok (fun o ho => (rl_lt o ho).2) (Ao g K ms)
  have emc : pn (fun o => Ao g K ms (mrl.getD o 0)) 15 = pn (fun o => Ao g K ms (crl.getD o 0)) 15 := pn_c 15 fun o ho => by
    unfold Ao
    rw [sx_m (hbn g) ho, sx_m (kbn K) ho]
  have ebp : pn (fun o => 4 ^ sx (kbn K) (crl.getD o 0)) 15 = 4 ^ sn (fun o => sx (kbn K) (crl.getD o 0)) 15 := pn_pow 4 _ 15
  have s91 := sn_91 (kbn K)
  rw [ec, eb, em, emc, ebp]
  have le : pn (fun o => Ao g K ms (crl.getD o 0)) 15 ≤ 4 ^ sn (fun o => sx (kbn K) (crl.getD o 0)) 15 := by
    rw [← ebp]
    exact pn_le 15 fun o ho => AL_le ms (by omega) _ (by have := sx6 (hbn1 g) (crl.getD o 0); omega) _ (by have := sx6 (kbn1 K) (crl.getD o 0); omega)
  generalize pn (fun o => Ao g K ms (crl.getD o 0)) 15 = A at le ⊢
  rw [s91] at m30 ⊢
  generalize sn (fun o => sx (kbn K) (crl.getD o 0)) 15 = S at le m30 ⊢
  generalize kbn K 45 = c at m30 ⊢
  have p1 : 4 ^ S ≤ 4 ^ 30 := Nat.pow_le_pow_right (by decide) (by omega)
  have p2 : 4 ^ (c + S) ≤ 4 ^ 30 := Nat.pow_le_pow_right (by decide) m30
  have p3 : 4 ^ c * A ≤ 4 ^ (c + S) := by
    rw [Nat.pow_add]
    exact Nat.mul_le_mul (Nat.le_refl _) le
  have e4 : 4 ^ 30 < 2 ^ 63 := by decide
  have e2 : 4 ^ S = 2 ^ (2 * S) := by
    rw [Nat.pow_mul]
  obtain ⟨t, x, y, h1, h2, h3, h4⟩ := hlv_ok 62 (2 * S) A (by omega)
  obtain ⟨l1, l2⟩ := low_eq (a := A) (c := 4 ^ c) (Nat.pow_pos (by decide)) h2 h3 h4
  refine ⟨⟨by omega, by omega⟩, ⟨by omega, by omega⟩, ?_, ?_⟩
  · rw [Nat.pow_add, e2, h1, l1]
  · rw [Nat.pow_add, e2, h1, l2]
theorem p127 {h : ma_H} {x y z : Int32} (I : Inv h) : PairL h 127 231 [.int x, .int y, .int z] := by
  intro Q k
  obtain ⟨n, n6, e1, e2, g⟩ := I.ng.at
  have G : ∀ i, i < n → ∃ r, ar h 48 i = some r := fun i hi => by obtain ⟨r, -, -, er, -⟩ := g i hi; exact ⟨r, er⟩
  have bad : ((x < 0 ∨ ¬ x < 4) ∨ (y < 0 ∨ ¬ y < nI n) ∨ (z < 0 ∨ ¬ z ≤ 1)) → ((x < 0 ∨ ¬ x ≤ 3) ∨ (y < 0 ∨ ¬ y ≤ nI n - 1) ∨ (z < 0 ∨ ¬ z ≤ 1)) → ma_X 127 [.ref 0, .int x, .int y, .int z] h Q := fun o1 o2 => s127n I.sh I.rr e1 n6 G o1 (k _ _ (by repeat (first | exact e80_I I | exact e80_S (by assumption) | exact e80_I (by assumption) | exact e80_n I.sh | refine e80_s (by omega) ?_)) fun Q2 k2 => s231n I.sh e2 o2 (k2 _ I))
  rcases icasB x 3 (by decide) with ⟨f, l, q, -⟩ | ⟨o1, o2⟩
  · rcases icasN y n (by omega) with ⟨i, hi, q2, -⟩ | ⟨o1, o2⟩
    · by_cases z0 : z < 0
      · exact bad (Or.inr (Or.inr (Or.inl z0))) (Or.inr (Or.inr (Or.inl z0)))
      by_cases z1 : ¬ z ≤ 1
      · exact bad (Or.inr (Or.inr (Or.inr z1))) (Or.inr (Or.inr (Or.inr z1)))
      have z1 := Decidable.not_not.mp z1
      obtain ⟨r, kk, a, er, r115, -, hk, ha, eo, f1, f2⟩ := g i hi
      obtain ⟨⟨ms, m4, s1, s2⟩, -⟩ := I.nm
      have esu : su (fz (ai h (37 + 3 * f)) kk (nI a)) 91 = nI (sn (kbn (fz (ai h (37 + 3 * f)) kk (nI a))) 91) := su_sn 91 (fun i _ => by
        unfold kbn
        rcases fz01 (ai h (37 + 3 * f)) kk (nI a) i with w | w
        · rw [w, if_pos rfl]
          rfl
        · rw [w, if_neg (by decide)]
          rfl)
      have m91 : sn (kbn (fz (ai h (37 + 3 * f)) kk (nI a))) 91 ≤ 91 := sn_1 (kbn1 _) 91
      have H1 : Sh (ma_set h 55 (.inl (.int, 91, .inl (lf (fz (ai h (37 + 3 * f)) kk (nI a)) (ai h 55) 91).2))) := sh_set I.sh rfl
      have R1 : Rt (ma_set h 55 (.inl (.int, 91, .inl (lf (fz (ai h (37 + 3 * f)) kk (nI a)) (ai h 55) 91).2))) := I.rt.cong fun a ha => ma_set_ne _ _ (by omega)
      have c88 : ai (ma_set h 55 (.inl (.int, 91, .inl (lf (fz (ai h (37 + 3 * f)) kk (nI a)) (ai h 55) 91).2))) 88 = ai h 88 := ai_ne _ _ (by decide)
      have c90 : ai (ma_set h 55 (.inl (.int, 91, .inl (lf (fz (ai h (37 + 3 * f)) kk (nI a)) (ai h 55) 91).2))) 90 = ai h 90 := ai_ne _ _ (by decide)
      have eg : ∀ j, j < 91 → ai h (37 + 3 * f) (ma_cell j) = ai (ma_set h 55 (.inl (.int, 91, .inl (lf (fz (ai h (37 + 3 * f)) kk (nI a)) (ai h 55) 91).2))) 88 (91 * f + j) := fun j hj => by
        rw [c88]
        exact I.nf.eq l hj
      by_cases m30 : sn (kbn (fz (ai h (37 + 3 * f)) kk (nI a))) 91 ≤ 30
      · obtain ⟨⟨b1, b2⟩, ⟨b3, b4⟩, v1, v2⟩ := odds_eq (g := ai h (37 + 3 * f)) m4 m30
        refine s127 I.sh I.rr l q e1 n6 hi q2 er r115 hk eo z0 z1 s1 m4 (by rw [esu]; exact nI_le (b := 30) m30 (by decide)) b1 b2 (k _ _ (by repeat (first | exact e80_I I | exact e80_S (by assumption) | exact e80_I (by assumption) | exact e80_n I.sh | refine e80_s (by omega) ?_)) fun Q2 k2 => ?_)
        refine s231 (g := ai h (37 + 3 * f)) (n := n) (gi := i) H1 R1 (I.nf.ok l) eg ha l q q2 ((fi_ne _ _ _ (by decide)).trans e2) n6 hi hk (by rw [c90]; exact f1) (by rw [c90]; exact f2) z0 z1 ((fi_ne _ _ _ (by decide)).trans s2) m4 m30 b3 b4 ?_
        rw [← v1, ← v2]
        exact k2 _ ⟨(sh_set (sh_set (sh_set I.sh rfl) rfl) rfl), I.rr, I.rt, ⟨(I.nf.cong (fun a ha => by simp (disch := omega) only [ma_set_ne])), (I.ng.cong2 (Nat.le_refl _) rfl rfl (fun a ha => by simp (disch := omega) only [ma_set_ne])), I.nm, I.na, I.nl⟩, (I.rk.cong2 (Nat.le_refl _) rfl rfl (fun a ha => by simp (disch := omega) only [ma_set_ne])), I.rp, (I.rw.cong2 rfl rfl (fun a ha => by simp (disch := omega) only [ma_set_ne])), (I.rs.cong (fun a ha => by simp (disch := omega) only [ma_set_ne])), I.rv, I.ra, I.rc⟩
      · refine s127s I.sh I.rr l q e1 n6 hi q2 er r115 hk eo z0 z1 (by rw [esu]; exact nI_ge (a := 30) (by omega) (by omega)) (k _ _ (by repeat (first | exact e80_I I | exact e80_S (by assumption) | exact e80_I (by assumption) | exact e80_n I.sh | refine e80_s (by omega) ?_)) fun Q2 k2 => ?_)
        refine s231s (g := ai h (37 + 3 * f)) (n := n) (gi := i) H1 R1 (I.nf.ok l) eg ha l q q2 ((fi_ne _ _ _ (by decide)).trans e2) n6 hi hk (by rw [c90]; exact f1) (by rw [c90]; exact f2) z0 z1 m30 ?_
        exact k2 _ ⟨(sh_set (sh_set I.sh rfl) rfl), I.rr, I.rt, ⟨(I.nf.cong (fun a ha => by simp (disch := omega) only [ma_set_ne])), (I.ng.cong2 (Nat.le_refl _) rfl rfl (fun a ha => by simp (disch := omega) only [ma_set_ne])), I.nm, I.na, I.nl⟩, (I.rk.cong2 (Nat.le_refl _) rfl rfl (fun a ha => by simp (disch := omega) only [ma_set_ne])), I.rp, (I.rw.cong2 rfl rfl (fun a ha => by simp (disch := omega) only [ma_set_ne])), (I.rs.cong (fun a ha => by simp (disch := omega) only [ma_set_ne])), I.rv, I.ra, I.rc⟩
    · exact bad (Or.inr (Or.inl o1)) (Or.inr (Or.inl o2))
  · exact bad (Or.inl o2) (Or.inl o1)
