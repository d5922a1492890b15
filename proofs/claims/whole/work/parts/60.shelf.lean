/-! shelf answers alike -/
def RvF (a b c d e : Nat → Int32) : Prop := ∀ s, s < 4 → (a s = -1 ∧ c s = -1) ∨ (a s = 0 ∧ c s = 0 ∧ b s = d s) ∨ ∃ t, t < 4 ∧ a s = nI (10 + t) ∧ c s = 1 ∧ d s = nI t ∧ b s = e s
theorem RvF_upd {a b c d e a' b' c' d' e' : Nat → Int32} (R : RvF a b c d e) (s : Nat) (w : ∀ j, j ≠ s → a' j = a j ∧ b' j = b j ∧ c' j = c j ∧ d' j = d j ∧ e' j = e j) (v : (a' s = -1 ∧ c' s = -1) ∨ (a' s = 0 ∧ c' s = 0 ∧ b' s = d' s) ∨ ∃ t, t < 4 ∧ a' s = nI (10 + t) ∧ c' s = 1 ∧ d' s = nI t ∧ b' s = e' s) : RvF a' b' c' d' e' := by
  intro j hj
  by_cases c1 : j = s
  · subst c1
    exact v
  · obtain ⟨w1, w2, w3, w4, w5⟩ := w j c1
    rw [w1, w2, w3, w4, w5]
    exact R j hj
theorem upd_at (g : Nat → Int32) (s : Nat) (v : Int32) : upd g s v s = v := if_pos rfl
theorem upd_ne (g : Nat → Int32) {s j : Nat} (v : Int32) (h : j ≠ s) : upd g s v j = g j := if_neg h
theorem upd_upd (g : Nat → Int32) (s : Nat) (v w : Int32) : upd (upd g s v) s w = upd g s w := by
  funext j
  unfold upd
  split <;> rfl
theorem p138 {h : ma_H} {x y z : Int32} (I : Inv h) : Pair h 138 254 [.int x, .int y, .int z] := by
  intro Q k
  have H := I.sh
  rcases icasS x with ⟨s, hs, qs, x0, x4, x3, vx, tx⟩ | ⟨o1, o2⟩
  · obtain ⟨n, n6, e1, e2, g⟩ := I.ng.at
    rcases icase2 y with ⟨rfl, -⟩ | ⟨rfl, -⟩ | ⟨rfl, -⟩ | o | ⟨o3, o4, n0, n1, n2⟩
    · rcases icasN z n (by omega) with ⟨i, hi, qi, z0, -, z3, -⟩ | ⟨u1, u2⟩
      · obtain ⟨r, kk, a, er, -⟩ := g i hi
        refine s138g H hs x0 x4 x3 vx tx e1 n6 hi qi er (k _ _ (by repeat (first | exact e80_I I | exact e80_S (by assumption) | exact e80_I (by assumption) | exact e80_n I.sh | refine e80_s (by omega) ?_)) fun Q2 k2 => ?_)
        refine s254g (sh_set (sh_set H rfl) rfl) hs x0 x4 x3 vx tx (show fi h 80 9 = nI n from e2) z0 z3 ?_
        refine k2 _ ⟨(sh_set (sh_set (sh_set (sh_set (sh_set I.sh rfl) rfl) rfl) rfl) rfl), I.rr, I.rt, ⟨(I.nf.cong (fun a ha => by simp (disch := omega) only [ma_set_ne])), (I.ng.cong2 (Nat.le_refl _) rfl rfl (fun a ha => by simp (disch := omega) only [ma_set_ne])), I.nm, I.na, I.nl⟩, (I.rk.cong2 (Nat.le_refl _) rfl rfl (fun a ha => by simp (disch := omega) only [ma_set_ne])), I.rp, (I.rw.cong2 rfl rfl (fun a ha => by simp (disch := omega) only [ma_set_ne])), (I.rs.cong (fun a ha => by simp (disch := omega) only [ma_set_ne])), (show RvF _ _ _ _ _ from RvF_upd (show RvF _ _ _ _ _ from I.rv) s (fun j hj => ⟨(upd_ne _ _ hj).trans (upd_ne _ _ hj), upd_ne _ _ hj, upd_ne _ _ hj, upd_ne _ _ hj, upd_ne _ _ hj⟩) (Or.inr (Or.inl ⟨upd_at _ _ _, upd_at _ _ _, (upd_at _ _ _).trans (upd_at _ _ _).symm⟩))), I.ra, I.rc⟩
      · exact s138gn H hs x0 x4 x3 vx tx e1 u1 (k _ _ (by repeat (first | exact e80_I I | exact e80_S (by assumption) | exact e80_I (by assumption) | exact e80_n I.sh | refine e80_s (by omega) ?_)) fun Q2 k2 => s254gn H hs x0 x4 x3 vx tx e2 u2 (k2 _ I))
    · rcases icasS z with ⟨s2, hs2, qs2, z0, z4, z3, vz, tz⟩ | ⟨w1, w2⟩
      · obtain ⟨r1, r2, r3, -, -⟩ := I.rs s2 hs2
        rcases r2 with r2 | ⟨t, ht, r2⟩
        · have so : ai h 23 s2 < 0 := by rw [r2]; decide
          refine s138e H hs x0 x4 x3 vx tx hs2 z0 z4 z3 vz tz so (k _ _ (by repeat (first | exact e80_I I | exact e80_S (by assumption) | exact e80_I (by assumption) | exact e80_n I.sh | refine e80_s (by omega) ?_)) fun Q2 k2 => ?_)
          refine s254e (sh_set H rfl) hs x0 x4 x3 vx tx hs2 z0 z4 z3 vz tz (show ai h 106 s2 < 0 by rw [← r1]; exact so) ?_
          refine k2 _ ⟨(sh_set (sh_set (sh_set (sh_set I.sh rfl) rfl) rfl) rfl), I.rr, I.rt, ⟨(I.nf.cong (fun a ha => by simp (disch := omega) only [ma_set_ne])), (I.ng.cong2 (Nat.le_refl _) rfl rfl (fun a ha => by simp (disch := omega) only [ma_set_ne])), I.nm, I.na, I.nl⟩, (I.rk.cong2 (Nat.le_refl _) rfl rfl (fun a ha => by simp (disch := omega) only [ma_set_ne])), I.rp, (I.rw.cong2 rfl rfl (fun a ha => by simp (disch := omega) only [ma_set_ne])), (I.rs.cong (fun a ha => by simp (disch := omega) only [ma_set_ne])), (show RvF _ _ _ _ _ from RvF_upd (show RvF _ _ _ _ _ from I.rv) s (fun j hj => ⟨upd_ne _ _ hj, rfl, upd_ne _ _ hj, upd_ne _ _ hj, upd_ne _ _ hj⟩) (Or.inl ⟨upd_at _ _ _, upd_at _ _ _⟩)), I.ra, I.rc⟩
        · have so : ¬ ai h 23 s2 < 0 := by rw [r2]; exact nI_pos (by omega)
          refine s138t H hs x0 x4 x3 vx tx hs2 z0 z4 z3 vz tz so (k _ _ (by repeat (first | exact e80_I I | exact e80_S (by assumption) | exact e80_I (by assumption) | exact e80_n I.sh | refine e80_s (by omega) ?_)) fun Q2 k2 => ?_)
          refine s254t (sh_set (sh_set H rfl) rfl) hs x0 x4 x3 vx tx hs2 z0 z4 z3 vz tz (show ¬ ai h 106 s2 < 0 by rw [← r1]; exact so) ?_
          refine k2 _ ⟨(sh_set (sh_set (sh_set (sh_set (sh_set I.sh rfl) rfl) rfl) rfl) rfl), I.rr, I.rt, ⟨(I.nf.cong (fun a ha => by simp (disch := omega) only [ma_set_ne])), (I.ng.cong2 (Nat.le_refl _) rfl rfl (fun a ha => by simp (disch := omega) only [ma_set_ne])), I.nm, I.na, I.nl⟩, (I.rk.cong2 (Nat.le_refl _) rfl rfl (fun a ha => by simp (disch := omega) only [ma_set_ne])), I.rp, (I.rw.cong2 rfl rfl (fun a ha => by simp (disch := omega) only [ma_set_ne])), (I.rs.cong (fun a ha => by simp (disch := omega) only [ma_set_ne])), (show RvF _ _ _ _ _ from RvF_upd (show RvF _ _ _ _ _ from I.rv) s (fun j hj => ⟨(upd_ne _ _ hj).trans (upd_ne _ _ hj), upd_ne _ _ hj, upd_ne _ _ hj, upd_ne _ _ hj, upd_ne _ _ hj⟩) (Or.inr (Or.inr ⟨t, ht, (upd_at _ _ _).trans (by rw [r2]; exact nI_add 10 t), upd_at _ _ _, (upd_at _ _ _).trans (show ai h 106 s2 = nI t by rw [← r1]; exact r2), (upd_at _ _ _).trans (r3.trans (upd_at _ _ _).symm)⟩))), I.ra, I.rc⟩
      · exact s138tn H hs x0 x4 x3 vx tx w2 (k _ _ (by repeat (first | exact e80_I I | exact e80_S (by assumption) | exact e80_I (by assumption) | exact e80_n I.sh | refine e80_s (by omega) ?_)) fun Q2 k2 => s254tn H hs x0 x4 x3 vx tx w1 (k2 _ I))
    · refine s138_2 H hs x0 x4 x3 vx tx (k _ _ (by repeat (first | exact e80_I I | exact e80_S (by assumption) | exact e80_I (by assumption) | exact e80_n I.sh | refine e80_s (by omega) ?_)) fun Q2 k2 => ?_)
      refine s254_2 (sh_set H rfl) hs x0 x4 x3 vx tx ?_
      refine k2 _ ⟨(sh_set (sh_set (sh_set (sh_set I.sh rfl) rfl) rfl) rfl), I.rr, I.rt, ⟨(I.nf.cong (fun a ha => by simp (disch := omega) only [ma_set_ne])), (I.ng.cong2 (Nat.le_refl _) rfl rfl (fun a ha => by simp (disch := omega) only [ma_set_ne])), I.nm, I.na, I.nl⟩, (I.rk.cong2 (Nat.le_refl _) rfl rfl (fun a ha => by simp (disch := omega) only [ma_set_ne])), I.rp, (I.rw.cong2 rfl rfl (fun a ha => by simp (disch := omega) only [ma_set_ne])), (I.rs.cong (fun a ha => by simp (disch := omega) only [ma_set_ne])), (show RvF _ _ _ _ _ from RvF_upd (show RvF _ _ _ _ _ from I.rv) s (fun j hj => ⟨upd_ne _ _ hj, rfl, upd_ne _ _ hj, upd_ne _ _ hj, upd_ne _ _ hj⟩) (Or.inl ⟨upd_at _ _ _, upd_at _ _ _⟩)), I.ra, I.rc⟩
    · exact s138b H (Or.inr (Or.inl o)) (k _ _ (by repeat (first | exact e80_I I | exact e80_S (by assumption) | exact e80_I (by assumption) | exact e80_n I.sh | refine e80_s (by omega) ?_)) fun Q2 k2 => s254b H (Or.inr ⟨by rintro rfl; exact absurd o (by decide), by rintro rfl; exact absurd o (by decide), by rintro rfl; exact absurd o (by decide)⟩) (k2 _ I))
    · exact s138b H (Or.inr (Or.inr o4)) (k _ _ (by repeat (first | exact e80_I I | exact e80_S (by assumption) | exact e80_I (by assumption) | exact e80_n I.sh | refine e80_s (by omega) ?_)) fun Q2 k2 => s254b H (Or.inr ⟨n0, n1, n2⟩) (k2 _ I))
  · exact s138b H (Or.inl o2) (k _ _ (by repeat (first | exact e80_I I | exact e80_S (by assumption) | exact e80_I (by assumption) | exact e80_n I.sh | refine e80_s (by omega) ?_)) fun Q2 k2 => s254b H (Or.inl o1) (k2 _ I))
