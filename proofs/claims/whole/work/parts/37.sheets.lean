/-! SHEETS: item, put -/
theorem m11 : ((-11 : Int32) = 0) = False := by decide
theorem m13 : ((-13 : Int32) = 0) = False := by decide
theorem s248y {h : ma_H} {Q : ma_Q} {v : Int32} (h1 : ¬ v < 0) (h2 : v ≤ 3) (k : Q (some (.int 1)) h) : ma_X 248 [.int v] h Q := by
  refine ma_enter (m := 248) (Or.inl (by decide)) (by show 1 ≤ mt_n 248; decide +kernel) ?_
  show At 248 Q 0 (mt_c 248) [some (.int v)] [] h
  refine go 60 (by decide) ?_
  simp only [KX, KY, KZ, KW, KV, Nat.reduceAdd, Nat.reduceSub, Nat.reduceLeDiff, true_and, and_true, true_or, or_true, or_self, reduceCtorEq, if_true, if_false, not_false_eq_true, eq_self, c248]
  refine s162y h1 h2 ?_
  refine go 60 (by decide) ?_
  simp only [KX, KY, KZ, KW, KV, Nat.reduceAdd, Nat.reduceSub, Nat.reduceLeDiff, true_and, and_true, true_or, or_true, or_self, reduceCtorEq, if_true, if_false, not_false_eq_true, eq_self, c248]
  exact k
theorem s248n {h : ma_H} {Q : ma_Q} {v : Int32} (h1 : v < 0 ∨ ¬ v ≤ 3) (k : Q (some (.int 0)) h) : ma_X 248 [.int v] h Q := by
  refine ma_enter (m := 248) (Or.inl (by decide)) (by show 1 ≤ mt_n 248; decide +kernel) ?_
  show At 248 Q 0 (mt_c 248) [some (.int v)] [] h
  refine go 60 (by decide) ?_
  simp only [KX, KY, KZ, KW, KV, Nat.reduceAdd, Nat.reduceSub, Nat.reduceLeDiff, true_and, and_true, true_or, or_true, or_self, reduceCtorEq, if_true, if_false, not_false_eq_true, eq_self, c248]
  refine s162n h1 ?_
  refine go 60 (by decide) ?_
  simp only [KX, KY, KZ, KW, KV, Nat.reduceAdd, Nat.reduceSub, Nat.reduceLeDiff, true_and, and_true, true_or, or_true, or_self, reduceCtorEq, if_true, if_false, not_false_eq_true, eq_self, c248]
  exact k
theorem ix40 {x z : Int32} {f j : Nat} (e : x = nI f) (e2 : z = nI j) (hf : f < 4) (hj : j < 40) : vp_in (40 * x + z) 160 ∧ (40 * x + z).toNatClampNeg = 40 * f + j := by
  subst e e2
  rw [show (40 : Int32) * nI f = nI (40 * f) from nI_mul 40 f, nI_add]
  exact ⟨nI_in (by omega) (by decide), nI_clamp (by omega)⟩
def nar (t : Nat) (v : Int32) : Int32 := match t with
  | 0 => v.toInt8.toInt32
  | 1 => v.toInt16.toInt32
  | _ => v
theorem s251c {h : ma_H} {Q : ma_Q} {x y : Int32} {f : Nat} (H : Sh h) (hf : f < 4) (q : x = nI f) (k1 : ai h 106 f < 0 → Q (some (.int (-11))) h) (k2 : ¬ ai h 106 f < 0 → ¬ ai h 106 f = y → Q (some (.int (-13))) h) (k3 : ¬ ai h 106 f < 0 → ai h 106 f = y → Q (some (.int 0)) h) : ma_X 251 [.ref 80, .int x, .int y] h Q := by
  have tx : x.toNatClampNeg = f := by subst q; exact nI_clamp (by omega)
  have vx : vp_in x 4 := by subst q; exact nI_in hf (by decide)
  refine ma_enter (m := 251) (Or.inl (by decide)) (by show 3 ≤ mt_n 251; decide +kernel) ?_
  show At 251 Q 0 (mt_c 251) [some (.ref 80), some (.int x), some (.int y)] [] h
  refine go 60 (by decide) ?_
  simp only [KX, KY, KZ, KW, KV, Nat.reduceAdd, Nat.reduceSub, Nat.reduceLeDiff, true_and, and_true, true_or, or_true, or_self, reduceCtorEq, if_true, if_false, not_false_eq_true, eq_self, c251, H.e80, H.e106, tx]
  refine ⟨vx, ?_⟩
  split
  · exact k1 (by assumption)
  · refine ⟨vx, ?_⟩
    split
    · exact k3 (by assumption) (by assumption)
    · exact k2 (by assumption) (by assumption)
theorem s151_0 {h : ma_H} {Q : ma_Q} {v : Int32} (k : Q (some (.int (nar 0 v))) h) : ma_X 151 [.int v, .int 0] h Q := by
  refine ma_enter (m := 151) (Or.inl (by decide)) (by show 2 ≤ mt_n 151; decide +kernel) ?_
  show At 151 Q 0 (mt_c 151) [some (.int v), some (.int 0)] [] h
  refine go 60 (by decide) ?_
  simp only [KX, KY, KZ, KW, KV, Nat.reduceAdd, Nat.reduceSub, Nat.reduceLeDiff, true_and, and_true, true_or, or_true, or_self, reduceCtorEq, if_true, if_false, not_false_eq_true, eq_self, c151, show (Op.lookupswitch.offset [((.ofNat 0), (.ofNat 2)), ((.ofNat 1), (.ofNat 5))] (.ofNat 8) (Int32.toInt 0)).toNat = 2 from rfl]
  exact k
theorem s151_1 {h : ma_H} {Q : ma_Q} {v : Int32} (k : Q (some (.int (nar 1 v))) h) : ma_X 151 [.int v, .int 1] h Q := by
  refine ma_enter (m := 151) (Or.inl (by decide)) (by show 2 ≤ mt_n 151; decide +kernel) ?_
  show At 151 Q 0 (mt_c 151) [some (.int v), some (.int 1)] [] h
  refine go 60 (by decide) ?_
  simp only [KX, KY, KZ, KW, KV, Nat.reduceAdd, Nat.reduceSub, Nat.reduceLeDiff, true_and, and_true, true_or, or_true, or_self, reduceCtorEq, if_true, if_false, not_false_eq_true, eq_self, c151, show (Op.lookupswitch.offset [((.ofNat 0), (.ofNat 2)), ((.ofNat 1), (.ofNat 5))] (.ofNat 8) (Int32.toInt 1)).toNat = 5 from rfl]
  exact k
theorem s151_2 {h : ma_H} {Q : ma_Q} {v : Int32} (k : Q (some (.int (nar 2 v))) h) : ma_X 151 [.int v, .int 2] h Q := by
  refine ma_enter (m := 151) (Or.inl (by decide)) (by show 2 ≤ mt_n 151; decide +kernel) ?_
  show At 151 Q 0 (mt_c 151) [some (.int v), some (.int 2)] [] h
  refine go 60 (by decide) ?_
  simp only [KX, KY, KZ, KW, KV, Nat.reduceAdd, Nat.reduceSub, Nat.reduceLeDiff, true_and, and_true, true_or, or_true, or_self, reduceCtorEq, if_true, if_false, not_false_eq_true, eq_self, c151, show (Op.lookupswitch.offset [((.ofNat 0), (.ofNat 2)), ((.ofNat 1), (.ofNat 5))] (.ofNat 8) (Int32.toInt 2)).toNat = 8 from rfl]
  exact k
theorem s151_3 {h : ma_H} {Q : ma_Q} {v : Int32} (k : Q (some (.int (nar 3 v))) h) : ma_X 151 [.int v, .int 3] h Q := by
  refine ma_enter (m := 151) (Or.inl (by decide)) (by show 2 ≤ mt_n 151; decide +kernel) ?_
  show At 151 Q 0 (mt_c 151) [some (.int v), some (.int 3)] [] h
  refine go 60 (by decide) ?_
  simp only [KX, KY, KZ, KW, KV, Nat.reduceAdd, Nat.reduceSub, Nat.reduceLeDiff, true_and, and_true, true_or, or_true, or_self, reduceCtorEq, if_true, if_false, not_false_eq_true, eq_self, c151, show (Op.lookupswitch.offset [((.ofNat 0), (.ofNat 2)), ((.ofNat 1), (.ofNat 5))] (.ofNat 8) (Int32.toInt 3)).toNat = 8 from rfl]
  exact k
theorem s151 {h : ma_H} {Q : ma_Q} {v S : Int32} {t : Nat} (ht : t < 4) (e : S = nI t) (k : Q (some (.int (nar t v))) h) : ma_X 151 [.int v, .int S] h Q := by
  subst e
  match t, ht with
  | 0, _ => exact s151_0 k
  | 1, _ => exact s151_1 k
  | 2, _ => exact s151_2 k
  | 3, _ => exact s151_3 k
theorem p137_a {h : ma_H} {x y z : Int32} {f_x f_z n : Nat} (l_x : f_x < 4) (q_x : x = nI f_x) (a_x : ¬ x < 0) (b_x : x < 4) (c_x : x ≤ 3) (v_x : vp_in x 4) (t_x : x.toNatClampNeg = f_x) (r6 : ai h 107 f_x = nI n) (n40 : n ≤ 40) (l_z : f_z < n) (q_z : z = nI f_z) (a_z : ¬ z < 0) (b_z : z < nI n) (c_z : z ≤ nI n - 1) (t_z : z.toNatClampNeg = f_z) (I : Inv h) : Pair h 137 252 [.int x, .int y, .int z] := by
  intro Q k
  obtain ⟨r1, r2, r3, -, r5⟩ := I.rs f_x l_x
  refine ma_enter (m := 137) (Or.inl (by decide)) (by show 4 ≤ mt_n 137; decide +kernel) ?_
  show At 137 Q 0 (mt_c 137) [some (.ref 0), some (.int x), some (.int y), some (.int z)] [] h
  have G1 : ∀ {k b L st h}, wk1 137 Q 60 k b L st h → At 137 Q k b L st h := fun hx => go 60 (by decide) hx
  repeat' first
    | ((first | (with_reducible refine G1 ?_) | (with_reducible refine G2 ?_)); simp only [↓KX, ↓KY, ↓KZ, ↓KW, ↓KV, Nat.reduceAdd, Nat.reduceSub, Nat.reduceLeDiff, true_and, and_true, true_or, or_true, or_self, reduceCtorEq, if_true, if_false, not_false_eq_true, eq_self, c137, c252, ma_get, Nat.reduceEqDiff, ↓reduceIte, Int32.reduceLT, Int32.reduceLE, I.sh.e0, I.sh.e80, I.sh.e18, I.sh.e23, I.sh.e24, I.sh.e106, I.sh.e107, I.sh.e108, t_x, r1, r3, r6, (I.rr.2.2.2 f_x l_x), rf_some, (I.sh.si l_x), m11, m13, t_z, (ix40 q_x q_z l_x (show f_z < 40 by omega)).2, r5 f_z (show f_z < 40 by omega), Int32.toInt32_toInt64])
    | assumption
    | contradiction
    | (exfalso; first | exact absurd (by assumption) (p_x.resolve_left (by assumption)) | exact absurd (by assumption) (p_y.resolve_left (by assumption)) | exact absurd (by assumption) (o_x.resolve_left (by assumption)) | exact absurd (by assumption) (o_y.resolve_left (by assumption)))
    | refine ⟨v_x, ?_⟩
    | refine ⟨by subst q_z; exact nI_in (by omega) (by decide), ?_⟩
    | refine ⟨(ix40 q_x q_z l_x (by omega)).1, ?_⟩
    | split
    | (with_reducible refine s148y a_x b_x ?_)
    | (with_reducible refine s248y a_x c_x ?_)
    | (with_reducible refine s251c I.sh l_x q_x (fun _ => ?_) (fun _ _ => ?_) (fun _ _ => ?_))
    | (with_reducible refine s162y (by assumption) (by assumption) ?_)
    | (with_reducible refine s162n (by assumption) ?_)
    | (with_reducible refine s162n (Or.inl (by assumption)) ?_)
    | (with_reducible refine s162n (Or.inr (by assumption)) ?_)
    | (with_reducible refine s171y (by assumption) (by assumption) ?_)
    | (with_reducible refine s171n (Or.inl (by assumption)) ?_)
    | (with_reducible refine s171n (Or.inr (by assumption)) ?_)
    | (with_reducible refine s170n (by assumption) ?_)
    | (with_reducible refine s170y (by assumption) (by assumption) ?_)
    | (with_reducible refine s162c (fun _ _ => ?_) (fun _ => ?_))
    | (with_reducible refine s171c (fun _ _ => ?_) (fun _ => ?_))
    | (with_reducible refine s147c (fun _ _ _ _ => ?_) (fun o_a => ?_))
    | (with_reducible refine s146y (by assumption) (by assumption) ?_)
    | (with_reducible refine s146n (by assumption) ?_)
    | (with_reducible refine s146c (fun _ _ => ?_) (fun _ => ?_))
    | (with_reducible refine s145 I.sh I.rr (by assumption) ?_)
    | (with_reducible refine s145e I.sh I.rr (by assumption) (by assumption) ?_)
    | (with_reducible refine s145n I.sh (by assumption) ?_)
    | (with_reducible refine s148y (by assumption) (by assumption) ?_)
    | (with_reducible refine s148n (by assumption) ?_)
    | (with_reducible refine s149y (by assumption) (by assumption) ?_)
    | (with_reducible refine s149n (by assumption) ?_)
    | ((with_reducible refine k _ _ (by repeat (first | exact e80_I I | exact e80_S (by assumption) | exact e80_I (by assumption) | exact e80_n I.sh | refine e80_s (by omega) ?_)) fun Q2 k2 => ?_); have G2 : ∀ {k b L st h}, wk1 252 Q2 60 k b L st h → At 252 Q2 k b L st h := fun hx => go 60 (by decide) hx; refine ma_enter (m := 252) (Or.inl (by decide)) (by show 4 ≤ mt_n 252; decide +kernel) ?_; show At 252 Q2 0 (mt_c 252) [some (.ref 80), some (.int x), some (.int y), some (.int z), none] [] _)
    | with_reducible exact k2 _ I
    | split
    | rfl
theorem p137_b {h : ma_H} {x y z : Int32} {f_x n : Nat} (l_x : f_x < 4) (q_x : x = nI f_x) (a_x : ¬ x < 0) (b_x : x < 4) (c_x : x ≤ 3) (v_x : vp_in x 4) (t_x : x.toNatClampNeg = f_x) (r6 : ai h 107 f_x = nI n) (p_y : z < 0 ∨ ¬ z < nI n) (o_y : z < 0 ∨ ¬ z ≤ nI n - 1) (I : Inv h) : Pair h 137 252 [.int x, .int y, .int z] := by
  intro Q k
  obtain ⟨r1, r2, r3, -, r5⟩ := I.rs f_x l_x
  refine ma_enter (m := 137) (Or.inl (by decide)) (by show 4 ≤ mt_n 137; decide +kernel) ?_
  show At 137 Q 0 (mt_c 137) [some (.ref 0), some (.int x), some (.int y), some (.int z)] [] h
  have G1 : ∀ {k b L st h}, wk1 137 Q 60 k b L st h → At 137 Q k b L st h := fun hx => go 60 (by decide) hx
  repeat' first
    | ((first | (with_reducible refine G1 ?_) | (with_reducible refine G2 ?_)); simp only [↓KX, ↓KY, ↓KZ, ↓KW, ↓KV, Nat.reduceAdd, Nat.reduceSub, Nat.reduceLeDiff, true_and, and_true, true_or, or_true, or_self, reduceCtorEq, if_true, if_false, not_false_eq_true, eq_self, c137, c252, ma_get, Nat.reduceEqDiff, ↓reduceIte, Int32.reduceLT, Int32.reduceLE, I.sh.e0, I.sh.e80, I.sh.e18, I.sh.e23, I.sh.e24, I.sh.e106, I.sh.e107, I.sh.e108, t_x, r1, r3, r6, (I.rr.2.2.2 f_x l_x), rf_some, (I.sh.si l_x), m11, m13])
    | assumption
    | contradiction
    | (exfalso; first | exact absurd (by assumption) (p_x.resolve_left (by assumption)) | exact absurd (by assumption) (p_y.resolve_left (by assumption)) | exact absurd (by assumption) (o_x.resolve_left (by assumption)) | exact absurd (by assumption) (o_y.resolve_left (by assumption)))
    | refine ⟨v_x, ?_⟩
    | split
    | (with_reducible refine s148y a_x b_x ?_)
    | (with_reducible refine s248y a_x c_x ?_)
    | (with_reducible refine s251c I.sh l_x q_x (fun _ => ?_) (fun _ _ => ?_) (fun _ _ => ?_))
    | (with_reducible refine s162y (by assumption) (by assumption) ?_)
    | (with_reducible refine s162n (by assumption) ?_)
    | (with_reducible refine s162n (Or.inl (by assumption)) ?_)
    | (with_reducible refine s162n (Or.inr (by assumption)) ?_)
    | (with_reducible refine s171y (by assumption) (by assumption) ?_)
    | (with_reducible refine s171n (Or.inl (by assumption)) ?_)
    | (with_reducible refine s171n (Or.inr (by assumption)) ?_)
    | (with_reducible refine s170n (by assumption) ?_)
    | (with_reducible refine s170y (by assumption) (by assumption) ?_)
    | (with_reducible refine s162c (fun _ _ => ?_) (fun _ => ?_))
    | (with_reducible refine s171c (fun _ _ => ?_) (fun _ => ?_))
    | (with_reducible refine s147c (fun _ _ _ _ => ?_) (fun o_a => ?_))
    | (with_reducible refine s146y (by assumption) (by assumption) ?_)
    | (with_reducible refine s146n (by assumption) ?_)
    | (with_reducible refine s146c (fun _ _ => ?_) (fun _ => ?_))
    | (with_reducible refine s145 I.sh I.rr (by assumption) ?_)
    | (with_reducible refine s145e I.sh I.rr (by assumption) (by assumption) ?_)
    | (with_reducible refine s145n I.sh (by assumption) ?_)
    | (with_reducible refine s148y (by assumption) (by assumption) ?_)
    | (with_reducible refine s148n (by assumption) ?_)
    | (with_reducible refine s149y (by assumption) (by assumption) ?_)
    | (with_reducible refine s149n (by assumption) ?_)
    | ((with_reducible refine k _ _ (by repeat (first | exact e80_I I | exact e80_S (by assumption) | exact e80_I (by assumption) | exact e80_n I.sh | refine e80_s (by omega) ?_)) fun Q2 k2 => ?_); have G2 : ∀ {k b L st h}, wk1 252 Q2 60 k b L st h → At 252 Q2 k b L st h := fun hx => go 60 (by decide) hx; refine ma_enter (m := 252) (Or.inl (by decide)) (by show 4 ≤ mt_n 252; decide +kernel) ?_; show At 252 Q2 0 (mt_c 252) [some (.ref 80), some (.int x), some (.int y), some (.int z), none] [] _)
    | with_reducible exact k2 _ I
    | split
    | rfl
theorem p137_c {h : ma_H} {x y z : Int32} (o_x : x < 0 ∨ ¬ x ≤ 3) (p_x : x < 0 ∨ ¬ x < 4) (I : Inv h) : Pair h 137 252 [.int x, .int y, .int z] := by
  intro Q k
  refine ma_enter (m := 137) (Or.inl (by decide)) (by show 4 ≤ mt_n 137; decide +kernel) ?_
  show At 137 Q 0 (mt_c 137) [some (.ref 0), some (.int x), some (.int y), some (.int z)] [] h
  have G1 : ∀ {k b L st h}, wk1 137 Q 60 k b L st h → At 137 Q k b L st h := fun hx => go 60 (by decide) hx
  repeat' first
    | ((first | (with_reducible refine G1 ?_) | (with_reducible refine G2 ?_)); simp only [↓KX, ↓KY, ↓KZ, ↓KW, ↓KV, Nat.reduceAdd, Nat.reduceSub, Nat.reduceLeDiff, true_and, and_true, true_or, or_true, or_self, reduceCtorEq, if_true, if_false, not_false_eq_true, eq_self, c137, c252, ma_get, Nat.reduceEqDiff, ↓reduceIte, Int32.reduceLT, Int32.reduceLE, I.sh.e0, I.sh.e80, I.sh.e18, I.sh.e23, I.sh.e24, I.sh.e106, I.sh.e107, I.sh.e108])
    | assumption
    | contradiction
    | (exfalso; first | exact absurd (by assumption) (p_x.resolve_left (by assumption)) | exact absurd (by assumption) (p_y.resolve_left (by assumption)) | exact absurd (by assumption) (o_x.resolve_left (by assumption)) | exact absurd (by assumption) (o_y.resolve_left (by assumption)))
    | split
    | (with_reducible refine s148n p_x ?_)
    | (with_reducible refine s248n o_x ?_)
    | (with_reducible refine s162y (by assumption) (by assumption) ?_)
    | (with_reducible refine s162n (by assumption) ?_)
    | (with_reducible refine s162n (Or.inl (by assumption)) ?_)
    | (with_reducible refine s162n (Or.inr (by assumption)) ?_)
    | (with_reducible refine s171y (by assumption) (by assumption) ?_)
    | (with_reducible refine s171n (Or.inl (by assumption)) ?_)
    | (with_reducible refine s171n (Or.inr (by assumption)) ?_)
    | (with_reducible refine s170n (by assumption) ?_)
    | (with_reducible refine s170y (by assumption) (by assumption) ?_)
    | (with_reducible refine s162c (fun _ _ => ?_) (fun _ => ?_))
    | (with_reducible refine s171c (fun _ _ => ?_) (fun _ => ?_))
    | (with_reducible refine s147c (fun _ _ _ _ => ?_) (fun o_a => ?_))
    | (with_reducible refine s146y (by assumption) (by assumption) ?_)
    | (with_reducible refine s146n (by assumption) ?_)
    | (with_reducible refine s146c (fun _ _ => ?_) (fun _ => ?_))
    | (with_reducible refine s145 I.sh I.rr (by assumption) ?_)
    | (with_reducible refine s145e I.sh I.rr (by assumption) (by assumption) ?_)
    | (with_reducible refine s145n I.sh (by assumption) ?_)
    | (with_reducible refine s148y (by assumption) (by assumption) ?_)
    | (with_reducible refine s148n (by assumption) ?_)
    | (with_reducible refine s149y (by assumption) (by assumption) ?_)
    | (with_reducible refine s149n (by assumption) ?_)
    | ((with_reducible refine k _ _ (by repeat (first | exact e80_I I | exact e80_S (by assumption) | exact e80_I (by assumption) | exact e80_n I.sh | refine e80_s (by omega) ?_)) fun Q2 k2 => ?_); have G2 : ∀ {k b L st h}, wk1 252 Q2 60 k b L st h → At 252 Q2 k b L st h := fun hx => go 60 (by decide) hx; refine ma_enter (m := 252) (Or.inl (by decide)) (by show 4 ≤ mt_n 252; decide +kernel) ?_; show At 252 Q2 0 (mt_c 252) [some (.ref 80), some (.int x), some (.int y), some (.int z), none] [] _)
    | with_reducible exact k2 _ I
    | split
    | rfl
theorem p137 {h : ma_H} {x y z : Int32} (I : Inv h) : Pair h 137 252 [.int x, .int y, .int z] := by
  have w_x : (∃ f, f < 4 ∧ x = nI f ∧ ¬ x < 0 ∧ x < 4 ∧ x ≤ 3 ∧ vp_in x 4 ∧ x.toNatClampNeg = f) ∨ ((x < 0 ∨ ¬ x ≤ 3) ∧ (x < 0 ∨ ¬ x < 4)) := icasB x 3 (by decide)
  rcases w_x with ⟨f_x, l_x, q_x, a_x, b_x, c_x, v_x, t_x⟩ | ⟨o_x, p_x⟩
  · obtain ⟨r1, r2, r3, ⟨n, n40, r4⟩, r5⟩ := I.rs f_x l_x
    have r6 := r3.symm.trans r4
    rcases icasN z n (by omega) with ⟨f_z, l_z, q_z, a_z, b_z, c_z, t_z⟩ | ⟨p_z, o_z⟩
    · exact p137_a l_x q_x a_x b_x c_x v_x t_x r6 n40 l_z q_z a_z b_z c_z t_z I
    · exact p137_b l_x q_x a_x b_x c_x v_x t_x r6 p_z o_z I
  · exact p137_c o_x p_x I
