/-! law: the LAW that is kept, on both sides -/
theorem seg_sub {g : Nat → Int32} {a : Nat} {A B C : List Int32} (h : seg g a (A ++ (B ++ C))) : seg g (a + A.length) B := fun i v e => by
  have hi : i < B.length := (List.getElem?_eq_some_iff.mp e).1
  have := h (A.length + i) v (by
    rw [List.getElem?_append_right (Nat.le_add_right _ _), Nat.add_sub_cancel_left, List.getElem?_append_left hi]
    exact e)
  rw [Nat.add_assoc]
  exact this
theorem seg_c {g g2 : Nat → Int32} {n : Nat} {A : List Int32} (h : seg g 0 A) (l : A.length ≤ n) (e : ∀ i, i < n → g2 i = g i) : seg g2 0 A := fun i v x => by
  have hi : i < A.length := (List.getElem?_eq_some_iff.mp x).1
  rw [Nat.zero_add, e i (by omega)]
  have := h i v x
  rw [Nat.zero_add] at this
  exact this
theorem LC_in {q : Nat → Nat} : ∀ d i, ∃ R, LC q (i + 1 + d) = LC q i ++ ((pCl q (LK q i)).1.2.2.1 ++ R)
  | 0, i => ⟨[], by rw [List.append_nil]; rfl⟩
  | d + 1, i => by
    obtain ⟨R, e⟩ := LC_in d i
    refine ⟨R ++ (pCl q (LK q (i + 1 + d))).1.2.2.1, ?_⟩
    show LC q (i + 1 + d) ++ _ = _
    rw [e, List.append_assoc, List.append_assoc]
    rfl
theorem LM_in {q : Nat → Nat} : ∀ d i, ∃ R, LM q (i + 1 + d) = LM q i ++ ((pCl q (LK q i)).1.2.2.2 ++ R)
  | 0, i => ⟨[], by rw [List.append_nil]; rfl⟩
  | d + 1, i => by
    obtain ⟨R, e⟩ := LM_in d i
    refine ⟨R ++ (pCl q (LK q (i + 1 + d))).1.2.2.2, ?_⟩
    show LM q (i + 1 + d) ++ _ = _
    rw [e, List.append_assoc, List.append_assoc]
    rfl
/-- what a CLAUSE that fits comes to -/
theorem pCl_ev {q : Nat → Nat} (hq : ∀ k, q k < 4006) {k : Nat} (ok : (pCl q k).1.1 = true) : (pCl q k).2 ≤ 6 ∧ TKo (pCl q k).1 ∧ ∀ F, ∃ st, ev F 30 (pCl q k).1.2.2.1 [] = some st ∧ ev F 90 (pCl q k).1.2.2.2 [] = some st ∧ st.length ≤ 1 := by
  have h6 : (pHd q k).2.2 ≤ 6 := by
    unfold pHd
    split
    · split
      · show q (k + 1) - 3000 ≤ 6
        omega
      · exact Nat.zero_le _
    · split
      · exact Nat.le_refl _
      · exact Nat.le_refl _
  unfold pCl at ok ⊢
  by_cases a : (pHd q k).1 = true
  · rw [if_pos a] at ok ⊢
    by_cases b : (pBd q (pHd q k).2.1 (pHd q k).2.2).1 = true
    · rw [if_pos b] at ok ⊢
      by_cases c : q (pBd q (pHd q k).2.1 (pHd q k).2.2).2.1 = 59
      · rw [if_pos c]
        refine ⟨h6, ?_, ?_⟩
        · show TKo (pBd q (pHd q k).2.1 (pHd q k).2.2)
          unfold pBd
          split
          · split
            · exact TK0 hq _
            · exact TKo.nil
          · exact TKo.nil
        · show ∀ F, ∃ st, ev F 30 (pBd q (pHd q k).2.1 (pHd q k).2.2).2.2.1 [] = some st ∧ ev F 90 (pBd q (pHd q k).2.1 (pHd q k).2.2).2.2.2 [] = some st ∧ st.length ≤ 1
          unfold pBd at b ⊢
          by_cases d : (pHd q k).2.2 = 6 ∨ q (pHd q k).2.1 ≠ 59
          · rw [if_pos d] at b ⊢
            by_cases x : q (pHd q k).2.1 = 259
            · rw [if_pos x] at b ⊢
              intro F
              obtain ⟨v, hv⟩ := EV0 b F
              exact ⟨[v], (hv 30 [] (by decide)).1, (hv 90 [] (by decide)).2, Nat.le_refl _⟩
            · rw [if_neg x] at b
              exact absurd b Bool.false_ne_true
          · rw [if_neg d]
            exact fun F => ⟨[], rfl, rfl, Nat.zero_le _⟩
      · rw [if_neg c] at ok
        exact absurd ok Bool.false_ne_true
    · rw [if_neg b] at ok
      exact absurd ok Bool.false_ne_true
  · rw [if_neg a] at ok
    exact absurd ok Bool.false_ne_true
theorem kd_ok {u : Nat} (h : u ≤ 6) : kd u = -1 ∨ ∃ v, v ≤ 5 ∧ kd u = nI v := by
  by_cases z : u = 6
  · exact Or.inl (if_pos z)
  · exact Or.inr ⟨u, by omega, if_neg z⟩
/-- the LAW on both sides -/
theorem mkWl {q : Nat → Nat} {K : Nat} (hq : ∀ k, q k < 4006) (eK : q K = 256) (K2 : K ≤ 200) {cl mcl : Int32} {used ce code clause signs : Nat → Int32} (e1 : cl = nI (LN q)) (e2 : mcl = nI (LN q)) (S1 : seg code 0 ((LC q (LN q)).map tc)) (U1 : ∀ j, j < LN q → used j = kd (pCl q (LK q j)).2 ∧ ce j = nI (LC q (j + 1)).length) (C : CT q (LN q) clause) (S2 : seg signs 0 (tms (LM q (LN q)))) (l2 : (tms (LM q (LN q))).length ≤ 200) : Wl cl used ce code mcl clause signs := by
  obtain ⟨n8, -, nal⟩ := LN_all (q := q) 8 0 rfl
  refine ⟨LN q, n8, e1, e2, fun i => (LC q i).length, fun i => (tms (LM q i)).length, fun i => (pCl q (LK q i)).1.2.2.1, fun i => (pCl q (LK q i)).1.2.2.2, rfl, fun i hi => ⟨?_, ?_⟩⟩
  · obtain ⟨-, ok⟩ := nal i (Nat.zero_le _) hi
    obtain ⟨u6, ⟨t1, t2⟩, E⟩ := pCl_ev hq ok
    obtain ⟨c1, c2, c3⟩ := C i hi
    obtain ⟨x1, x2⟩ := U1 i hi
    obtain ⟨k1, k2⟩ := LK_ok eK (i + 1)
    obtain ⟨R, eR⟩ := LC_in (q := q) (LN q - (i + 1)) i
    rw [show i + 1 + (LN q - (i + 1)) = LN q by omega] at eR
    obtain ⟨R2, eR2⟩ := LM_in (q := q) (LN q - (i + 1)) i
    rw [show i + 1 + (LN q - (i + 1)) = LN q by omega] at eR2
    have el : (LC q (i + 1)).length = (LC q i).length + (pCl q (LK q i)).1.2.2.1.length := by
      show (LC q i ++ (pCl q (LK q i)).1.2.2.1).length = _
      rw [List.length_append]
    have em : (tms (LM q (i + 1))).length = (tms (LM q i)).length + (tms (pCl q (LK q i)).1.2.2.2).length := by
      show (tms (LM q i ++ (pCl q (LK q i)).1.2.2.2)).length = _
      rw [tms_ap, List.length_append]
    rw [eR, List.map_append, List.map_append] at S1
    rw [eR2, tms_ap, tms_ap] at S2 l2
    have S1 := seg_sub S1
    have S2 := seg_sub S2
    rw [List.length_map, Nat.zero_add] at S1
    rw [Nat.zero_add] at S2
    rw [List.length_append, List.length_append] at l2
    refine ⟨x1.trans c1.symm, ?_, ?_, ?_, S1, c2, ?_, ?_, S2, t1, t2, E⟩
    · rw [x1]
      exact kd_ok u6
    · rw [x2, el]
    · dsimp only
      rw [← el]
      omega
    · rw [c3, em]
    · dsimp only
      omega
  · show (LC q i ++ (pCl q (LK q i)).1.2.2.1).length = _
    rw [List.length_append]
