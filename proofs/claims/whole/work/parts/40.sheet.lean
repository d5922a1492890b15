/-! SHEETS: sheet answers alike -/
theorem Inv.sheet {h : ma_H} (I : Inv h) {f n : Nat} (l : f < 4) {y sz : Int32} (hy : y = -1 ∨ ∃ t, t < 4 ∧ y = nI t) (hn : n ≤ 40) (hz : sz = nI n) : Inv (ma_set (ma_set (ma_set (ma_set (ma_set (ma_set h 23 (.inl (.int, 4, .inl (upd (ai h 23) f y)))) 24 (.inl (.int, 4, .inl (upd (ai h 24) f sz)))) (19 + f) (.inl (.int, 40, .inl (upN (ai h (19 + f)) (fun c => c) (fun _ => 0) 40)))) 106 (.inl (.int, 4, .inl (upd (ai h 106) f y)))) 107 (.inl (.int, 4, .inl (upd (ai h 107) f sz)))) 108 (.inl (.long, 160, .inr (.inl (upZ (al h 108) (fun c => 40 * f + c) 40))))) := by
  refine ⟨sh_set (sh_set (sh_set (sh_set (sh_set (sh_set I.sh rfl) rfl) (nf_i l _)) rfl) rfl) rfl, (I.rr.cong (fun a ha => by simp (disch := omega) only [ma_set_ne])), (I.rt.cong (fun a ha => by simp (disch := omega) only [ma_set_ne])), ⟨(I.nf.cong (fun a ha => by simp (disch := omega) only [ma_set_ne])), (I.ng.cong (Nat.le_refl _) (fun a ha => by simp (disch := omega) only [ma_set_ne])), (I.nm.cong (fun a ha => by simp (disch := omega) only [ma_set_ne])), (I.na.cong (fun a ha => by simp (disch := omega) only [ma_set_ne])), (I.nl.cong (fun a ha => by simp (disch := omega) only [ma_set_ne]))⟩, (I.rk.cong (Nat.le_refl _) (fun a ha => by simp (disch := omega) only [ma_set_ne])), (I.rp.cong (fun a ha => by simp (disch := omega) only [ma_set_ne])), (I.rw.cong (fun a ha => by simp (disch := omega) only [ma_set_ne])), ?_, (I.rv.cong (fun a ha => by simp (disch := omega) only [ma_set_ne])), (I.ra.cong (fun a ha => by simp (disch := omega) only [ma_set_ne])), (I.rc.cong (fun a ha => by simp (disch := omega) only [ma_set_ne]))⟩
  intro s hs
  obtain ⟨b1, b2, b3, b4, b5⟩ := I.rs s hs
  simp (disch := omega) only [ai_ne, ai_at, al_at, al_ne]
  by_cases e : s = f
  · subst e
    rw [ai_at]
    have u : ∀ (g : Nat → Int32) (v : Int32), upd g s v s = v := fun g v => if_pos rfl
    rw [u, u, u, u]
    refine ⟨rfl, hy, rfl, ⟨n, hn, hz⟩, fun i hi => ?_⟩
    rw [upZ_at (p := fun c => 40 * s + c) 40 i hi, upN_at (p := fun c => c) 40 (fun i j _ _ e => e) i hi]
    rfl
  · have u : ∀ (g : Nat → Int32) (v : Int32), upd g f v s = g s := fun g v => if_neg e
    rw [u, u, u, u]
    refine ⟨b1, b2, b3, b4, fun i hi => ?_⟩
    simp (disch := omega) only [ai_ne]
    rw [upZ_ne 40 (fun j hj => by omega)]
    exact b5 i hi
theorem p135 {h : ma_H} {x y z : Int32} (I : Inv h) : Pair h 135 249 [.int x, .int y, .int z] := by
  intro Q k
  rcases icasB x 3 (by decide) with ⟨f, l, q, -⟩ | ⟨o1, o2⟩
  · have bad : ((y < -1 ∨ ¬ y ≤ 3) ∨ (¬ y < 0 ∧ ¬ z ≤ 40)) → ma_X 135 [.ref 0, .int x, .int y, .int z] h Q := fun o => s135m I.sh l q o (k _ _ (by repeat (first | exact e80_I I | exact e80_S (by assumption) | exact e80_I (by assumption) | exact e80_n I.sh | refine e80_s (by omega) ?_)) fun Q2 k2 => s249m I.sh l q o (k2 _ I))
    rcases i_in01 y (-1) 3 with ⟨-, o⟩ | ⟨-, y1, y3⟩
    · exact bad (Or.inl o)
    · by_cases y0 : y < 0
      · have hy : y = -1 ∨ ∃ t, t < 4 ∧ y = nI t := by
          refine Or.inl ?_
          apply Int32.toInt_inj.mp
          rw [Int32.lt_iff_toInt_lt] at y0 y1
          have m1 : (-1 : Int32).toInt = -1 := rfl
          have m0 : (0 : Int32).toInt = 0 := rfl
          omega
        refine s135a I.sh l q I.rr y1 y3 y0 (k _ _ (by repeat (first | exact e80_I I | exact e80_S (by assumption) | exact e80_I (by assumption) | exact e80_n I.sh | refine e80_s (by omega) ?_)) fun Q2 k2 => ?_)
        have e4 : ai (ma_set (ma_set h 23 (.inl (.int, 4, .inl (upd (ai h 23) f y)))) 24 (.inl (.int, 4, .inl (upd (ai h 24) f 0)))) (19 + f) = ai h (19 + f) := by simp (disch := omega) only [ai_ne]
        rw [e4]
        have H1 : Sh (ma_set (ma_set (ma_set h 23 (.inl (.int, 4, .inl (upd (ai h 23) f y)))) 24 (.inl (.int, 4, .inl (upd (ai h 24) f 0)))) (19 + f) (.inl (.int, 40, .inl (upN (ai h (19 + f)) (fun c => c) (fun _ => 0) 40)))) := sh_set (sh_set (sh_set I.sh rfl) rfl) (nf_i l _)
        refine s249a H1 l q y1 y3 y0 ?_
        have e1 : ai (ma_set (ma_set (ma_set h 23 (.inl (.int, 4, .inl (upd (ai h 23) f y)))) 24 (.inl (.int, 4, .inl (upd (ai h 24) f 0)))) (19 + f) (.inl (.int, 40, .inl (upN (ai h (19 + f)) (fun c => c) (fun _ => 0) 40)))) 106 = ai h 106 := by simp (disch := omega) only [ai_ne]
        have e2 : ai (ma_set (ma_set (ma_set h 23 (.inl (.int, 4, .inl (upd (ai h 23) f y)))) 24 (.inl (.int, 4, .inl (upd (ai h 24) f 0)))) (19 + f) (.inl (.int, 40, .inl (upN (ai h (19 + f)) (fun c => c) (fun _ => 0) 40)))) 107 = ai h 107 := by simp (disch := omega) only [ai_ne]
        rw [e1, e2]
        have e3 : al (ma_set (ma_set (ma_set (ma_set (ma_set h 23 (.inl (.int, 4, .inl (upd (ai h 23) f y)))) 24 (.inl (.int, 4, .inl (upd (ai h 24) f 0)))) (19 + f) (.inl (.int, 40, .inl (upN (ai h (19 + f)) (fun c => c) (fun _ => 0) 40)))) 106 (.inl (.int, 4, .inl (upd (ai h 106) f y)))) 107 (.inl (.int, 4, .inl (upd (ai h 107) f 0)))) 108 = al h 108 := by simp (disch := omega) only [al_ne]
        rw [e3]
        exact k2 _ (I.sheet l hy (n := 0) (by decide) rfl)
      · have hy : y = -1 ∨ ∃ t, t < 4 ∧ y = nI t := by
          obtain ⟨t, ht, e⟩ := nI_of2 (M := 3) (n := 3) rfl y0 y3
          exact Or.inr ⟨t, by omega, e⟩
        by_cases z4 : z ≤ 40
        · by_cases z0 : z < 0
          · exact s135z I.sh l q y0 y1 y3 z0 z4 (k _ _ (by repeat (first | exact e80_I I | exact e80_S (by assumption) | exact e80_I (by assumption) | exact e80_n I.sh | refine e80_s (by omega) ?_)) fun Q2 k2 => s249z I.sh l q y0 y1 y3 z0 z4 (k2 _ I))
          · obtain ⟨n, hn, hz⟩ := nI_of2 (M := 40) (n := 40) rfl z0 z4
            refine s135b I.sh l q I.rr y1 y3 y0 z0 z4 (k _ _ (by repeat (first | exact e80_I I | exact e80_S (by assumption) | exact e80_I (by assumption) | exact e80_n I.sh | refine e80_s (by omega) ?_)) fun Q2 k2 => ?_)
            have e4 : ai (ma_set (ma_set h 23 (.inl (.int, 4, .inl (upd (ai h 23) f y)))) 24 (.inl (.int, 4, .inl (upd (ai h 24) f z)))) (19 + f) = ai h (19 + f) := by simp (disch := omega) only [ai_ne]
            rw [e4]
            have H1 : Sh (ma_set (ma_set (ma_set h 23 (.inl (.int, 4, .inl (upd (ai h 23) f y)))) 24 (.inl (.int, 4, .inl (upd (ai h 24) f z)))) (19 + f) (.inl (.int, 40, .inl (upN (ai h (19 + f)) (fun c => c) (fun _ => 0) 40)))) := sh_set (sh_set (sh_set I.sh rfl) rfl) (nf_i l _)
            refine s249b H1 l q y1 y3 y0 z0 z4 ?_
            have e1 : ai (ma_set (ma_set (ma_set h 23 (.inl (.int, 4, .inl (upd (ai h 23) f y)))) 24 (.inl (.int, 4, .inl (upd (ai h 24) f z)))) (19 + f) (.inl (.int, 40, .inl (upN (ai h (19 + f)) (fun c => c) (fun _ => 0) 40)))) 106 = ai h 106 := by simp (disch := omega) only [ai_ne]
            have e2 : ai (ma_set (ma_set (ma_set h 23 (.inl (.int, 4, .inl (upd (ai h 23) f y)))) 24 (.inl (.int, 4, .inl (upd (ai h 24) f z)))) (19 + f) (.inl (.int, 40, .inl (upN (ai h (19 + f)) (fun c => c) (fun _ => 0) 40)))) 107 = ai h 107 := by simp (disch := omega) only [ai_ne]
            rw [e1, e2]
            have e3 : al (ma_set (ma_set (ma_set (ma_set (ma_set h 23 (.inl (.int, 4, .inl (upd (ai h 23) f y)))) 24 (.inl (.int, 4, .inl (upd (ai h 24) f z)))) (19 + f) (.inl (.int, 40, .inl (upN (ai h (19 + f)) (fun c => c) (fun _ => 0) 40)))) 106 (.inl (.int, 4, .inl (upd (ai h 106) f y)))) 107 (.inl (.int, 4, .inl (upd (ai h 107) f z)))) 108 = al h 108 := by simp (disch := omega) only [al_ne]
            rw [e3]
            exact k2 _ (I.sheet l hy hn hz)
        · exact bad (Or.inr ⟨y0, z4⟩)
  · exact s135n o2 (k _ _ (by repeat (first | exact e80_I I | exact e80_S (by assumption) | exact e80_I (by assumption) | exact e80_n I.sh | refine e80_s (by omega) ?_)) fun Q2 k2 => s249n o1 (k2 _ I))
