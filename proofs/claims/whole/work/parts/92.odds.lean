/-! odds: the class -/
def hbn (g : Nat → Int32) (c : Nat) : Nat := if g (ma_cell c) < 0 then 0 else 1
def kbn (K : Nat → Int32) (c : Nat) : Nat := if K c = 0 then 0 else 1
def Ao (g K : Nat → Int32) (ms i : Nat) : Nat := AL ms (sx (hbn g) i) (sx (kbn K) i)
theorem hbn1 (g : Nat → Int32) (c : Nat) : hbn g c ≤ 1 := by
  unfold hbn
  split
  · exact Nat.zero_le _
  · exact Nat.le_refl _
theorem kbn1 (K : Nat → Int32) (c : Nat) : kbn K c ≤ 1 := by
  unfold kbn
  split
  · exact Nat.zero_le _
  · exact Nat.le_refl _
theorem sn_1 {f : Nat → Nat} (w : ∀ i, f i ≤ 1) : ∀ n, sn f n ≤ n
  | 0 => Nat.le_refl _
  | n + 1 => Nat.add_le_add (sn_1 w n) (w n)
theorem sx6 {f : Nat → Nat} (w : ∀ i, f i ≤ 1) (c : Nat) : sx f c ≤ 6 := sn_1 (fun t => w _) 6
theorem mim0 (c t : Nat) : m_im c t 0 = m_imN c t := by
  unfold m_im
  rw [if_pos rfl]
theorem oc_cls : ∀ i, i < 91 → (oc i < 15 ↔ ¬ nI (ma_cell i) - nI (ma_cell i) / 13 * 13 - 6 ≤ 0 ∧ ¬ nI (ma_cell i) / 13 - 6 < 0) := by decide +kernel
theorem four_sub : ∀ ms, ms < 5 → (4 : Int32) - nI ms = nI (4 - ms) := by decide +kernel
theorem s155 {h : ma_H} {Q : ma_Q} {b e : Nat} (he : e < 100) (k : Q (some (.long (lN (b ^ e)))) h) : ma_X 155 [.long (lN b), .int (nI e)] h Q := by
  have lp : ∀ n i, i + n = e → At 155 Q 4 (0, 0) [some (.long (lN b)), none, some (.int (nI e)), some (.long (lN (b ^ i))), none, some (.int (nI i))] [] h := by
    intro n
    induction n with
    | zero =>
      intro i ei
      obtain rfl : i = e := by omega
      refine go 60 (by decide) ?_
      simp only [KX, KY, KZ, KW, KV, Nat.reduceAdd, Nat.reduceSub, Nat.reduceLeDiff, true_and, and_true, true_or, or_true, or_self, reduceCtorEq, if_true, if_false, not_false_eq_true, eq_self, c155, show lN ((1 : Fin 2).val) = lN 1 from rfl, show lN ((0 : Fin 2).val) = lN 0 from rfl]
      rw [if_neg (nI_nlt (Nat.le_refl _) (by omega))]
      exact k
    | succ n ih =>
      intro i ei
      refine go 60 (by decide) ?_
      simp only [KX, KY, KZ, KW, KV, Nat.reduceAdd, Nat.reduceSub, Nat.reduceLeDiff, true_and, and_true, true_or, or_true, or_self, reduceCtorEq, if_true, if_false, not_false_eq_true, eq_self, c155, show lN ((1 : Fin 2).val) = lN 1 from rfl, show lN ((0 : Fin 2).val) = lN 0 from rfl]
      rw [if_pos (nI_lt (show i < e by omega) (by omega)), lN_mul, ← Nat.pow_succ, nI_1 i]
      exact ih (i + 1) (by omega)
  refine ma_enter (m := 155) (Or.inl (by decide)) (by show 3 ≤ mt_n 155; decide +kernel) ?_
  show At 155 Q 0 (mt_c 155) [some (.long (lN b)), none, some (.int (nI e)), none, none, none] [] h
  refine go 60 (by decide) ?_
  simp only [KX, KY, KZ, KW, KV, Nat.reduceAdd, Nat.reduceSub, Nat.reduceLeDiff, true_and, and_true, true_or, or_true, or_self, reduceCtorEq, if_true, if_false, not_false_eq_true, eq_self, c155, show lN ((1 : Fin 2).val) = lN 1 from rfl, show lN ((0 : Fin 2).val) = lN 0 from rfl]
  exact lp e 0 (by omega)
theorem s229 {h : ma_H} {Q : ma_Q} {b e : Nat} (he : e < 100) (k : Q (some (.long (lN (b ^ e)))) h) : ma_X 229 [.long (lN b), .int (nI e)] h Q := by
  have lp : ∀ n i, i + n = e → At 229 Q 4 (0, 0) [some (.long (lN b)), none, some (.int (nI e)), some (.long (lN (b ^ i))), none, some (.int (nI i))] [] h := by
    intro n
    induction n with
    | zero =>
      intro i ei
      obtain rfl : i = e := by omega
      refine go 60 (by decide) ?_
      simp only [KX, KY, KZ, KW, KV, Nat.reduceAdd, Nat.reduceSub, Nat.reduceLeDiff, true_and, and_true, true_or, or_true, or_self, reduceCtorEq, if_true, if_false, not_false_eq_true, eq_self, c229, show lN ((1 : Fin 2).val) = lN 1 from rfl, show lN ((0 : Fin 2).val) = lN 0 from rfl]
      rw [if_neg (nI_nlt (Nat.le_refl _) (by omega))]
      exact k
    | succ n ih =>
      intro i ei
      refine go 60 (by decide) ?_
      simp only [KX, KY, KZ, KW, KV, Nat.reduceAdd, Nat.reduceSub, Nat.reduceLeDiff, true_and, and_true, true_or, or_true, or_self, reduceCtorEq, if_true, if_false, not_false_eq_true, eq_self, c229, show lN ((1 : Fin 2).val) = lN 1 from rfl, show lN ((0 : Fin 2).val) = lN 0 from rfl]
      rw [if_pos (nI_lt (show i < e by omega) (by omega)), lN_mul, ← Nat.pow_succ, nI_1 i]
      exact ih (i + 1) (by omega)
  refine ma_enter (m := 229) (Or.inl (by decide)) (by show 3 ≤ mt_n 229; decide +kernel) ?_
  show At 229 Q 0 (mt_c 229) [some (.long (lN b)), none, some (.int (nI e)), none, none, none] [] h
  refine go 60 (by decide) ?_
  simp only [KX, KY, KZ, KW, KV, Nat.reduceAdd, Nat.reduceSub, Nat.reduceLeDiff, true_and, and_true, true_or, or_true, or_self, reduceCtorEq, if_true, if_false, not_false_eq_true, eq_self, c229, show lN ((1 : Fin 2).val) = lN 1 from rfl, show lN ((0 : Fin 2).val) = lN 0 from rfl]
  exact lp e 0 (by omega)
theorem s154 {h : ma_H} {Q : ma_Q} {ms hh cc : Nat} (H : Sh h) (em : fi h 34 6 = nI ms) (m4 : ms ≤ 4) (h6 : hh ≤ 6) (c6 : cc ≤ 6) (k : Q (some (.long (lN (AL ms hh cc)))) h) : ma_X 154 [.ref 0, .int (nI hh), .int (nI cc)] h Q := by
  unfold AL at k
  refine ma_enter (m := 154) (Or.inl (by decide)) (by show 3 ≤ mt_n 154; decide +kernel) ?_
  show At 154 Q 0 (mt_c 154) [some (.ref 0), some (.int (nI hh)), some (.int (nI cc)), none, none] [] h
  refine go 60 (by decide) ?_
  simp only [KX, KY, KZ, KW, KV, Nat.reduceAdd, Nat.reduceSub, Nat.reduceLeDiff, true_and, and_true, true_or, or_true, or_self, reduceCtorEq, if_true, if_false, not_false_eq_true, eq_self, c154, H.e0, H.e34, em, show lN ((1 : Fin 2).val) = lN 1 from rfl, show lN ((0 : Fin 2).val) = lN 0 from rfl]
  by_cases c : hh = 0
  · rw [if_pos c] at k
    rw [if_pos (show nI hh = 0 by rw [c]; rfl), nI_i64 (show ms < 2 ^ 31 by omega)]
    refine s155 (show cc < 100 by omega) ?_
    refine go 60 (by decide) ?_
    simp only [KX, KY, KZ, KW, KV, Nat.reduceAdd, Nat.reduceSub, Nat.reduceLeDiff, true_and, and_true, true_or, or_true, or_self, reduceCtorEq, if_true, if_false, not_false_eq_true, eq_self, c154, H.e0, H.e34, em, show lN ((1 : Fin 2).val) = lN 1 from rfl, show lN ((0 : Fin 2).val) = lN 0 from rfl]
    rw [nI_add]
    by_cases d : hh + cc = 6
    · rw [if_pos d] at k
      rw [if_pos (show nI (hh + cc) = 6 by rw [d]; rfl), four_sub ms (by omega), nI_i64 (show 4 - ms < 2 ^ 31 by omega)]
      refine s155 (show cc < 100 by omega) ?_
      refine go 60 (by decide) ?_
      simp only [KX, KY, KZ, KW, KV, Nat.reduceAdd, Nat.reduceSub, Nat.reduceLeDiff, true_and, and_true, true_or, or_true, or_self, reduceCtorEq, if_true, if_false, not_false_eq_true, eq_self, c154]
      simp only [lN_add, Nat.zero_add]
      try simp only [Nat.zero_add] at k
      exact k
    · rw [if_neg d] at k
      rw [if_neg (show ¬ nI (hh + cc) = 6 from fun z => d ((nI_eq (by omega) (by decide)).mp (show nI (hh + cc) = nI 6 from z)))]
      try simp only [lN_add, Nat.zero_add, Nat.add_zero] at k
      try simp only [lN_add, Nat.zero_add, Nat.add_zero]
      exact k
  · rw [if_neg c] at k
    rw [if_neg (show ¬ nI hh = 0 from fun z => c ((nI_eq (by omega) (by decide)).mp (show nI hh = nI 0 from z)))]
    rw [nI_add]
    by_cases d : hh + cc = 6
    · rw [if_pos d] at k
      rw [if_pos (show nI (hh + cc) = 6 by rw [d]; rfl), four_sub ms (by omega), nI_i64 (show 4 - ms < 2 ^ 31 by omega)]
      refine s155 (show cc < 100 by omega) ?_
      refine go 60 (by decide) ?_
      simp only [KX, KY, KZ, KW, KV, Nat.reduceAdd, Nat.reduceSub, Nat.reduceLeDiff, true_and, and_true, true_or, or_true, or_self, reduceCtorEq, if_true, if_false, not_false_eq_true, eq_self, c154]
      simp only [lN_add, Nat.zero_add]
      try simp only [Nat.zero_add] at k
      exact k
    · rw [if_neg d] at k
      rw [if_neg (show ¬ nI (hh + cc) = 6 from fun z => d ((nI_eq (by omega) (by decide)).mp (show nI (hh + cc) = nI 6 from z)))]
      try simp only [lN_add, Nat.zero_add, Nat.add_zero] at k
      try simp only [lN_add, Nat.zero_add, Nat.add_zero]
      exact k
theorem l153 {h : ma_H} {Q : ma_Q} {f r : Nat} {part : Int32} : ∀ n z a b, z + n = 62 → a < 2 ^ 63 → b < 2 ^ 63 → Q (some (.long (if part = 0 then lN (hlv n a b).1 else lN (hlv n a b).2))) h → At 153 Q 78 (0, 0) [some (.ref 0), some (.ref f), some (.ref r), some (.int part), some (.long (lN a)), none, some (.long (lN b)), none, some (.int (nI z)), none, none, none, none, none, none, none] [] h := by
  intro n
  induction n with
  | zero =>
    intro z a b ez ha hbn kq
    obtain rfl : z = 62 := by omega
    refine go 60 (by decide) ?_
    simp only [KX, KY, KZ, KW, KV, Nat.reduceAdd, Nat.reduceSub, Nat.reduceLeDiff, true_and, and_true, true_or, or_true, or_self, reduceCtorEq, if_true, if_false, not_false_eq_true, eq_self, c153, show lN ((1 : Fin 2).val) = lN 1 from rfl, show lN ((0 : Fin 2).val) = lN 0 from rfl]
    rw [if_neg (show ¬ nI 62 < (62 : Int32) from nI_nlt (Nat.le_refl _) (by decide))]
    by_cases y : part = 0
    · rw [if_pos y] at kq ⊢
      try (refine go 60 (by decide) ?_; simp only [KX, KY, KZ, KW, KV, Nat.reduceAdd, Nat.reduceSub, Nat.reduceLeDiff, true_and, and_true, true_or, or_true, or_self, reduceCtorEq, if_true, if_false, not_false_eq_true, eq_self, c153])
      exact kq
    · rw [if_neg y] at kq ⊢
      try (refine go 60 (by decide) ?_; simp only [KX, KY, KZ, KW, KV, Nat.reduceAdd, Nat.reduceSub, Nat.reduceLeDiff, true_and, and_true, true_or, or_true, or_self, reduceCtorEq, if_true, if_false, not_false_eq_true, eq_self, c153])
      exact kq
  | succ n ih =>
    intro z a b ez ha hbn kq
    refine go 60 (by decide) ?_
    simp only [KX, KY, KZ, KW, KV, Nat.reduceAdd, Nat.reduceSub, Nat.reduceLeDiff, true_and, and_true, true_or, or_true, or_self, reduceCtorEq, if_true, if_false, not_false_eq_true, eq_self, c153, show lN ((1 : Fin 2).val) = lN 1 from rfl, show lN ((0 : Fin 2).val) = lN 0 from rfl]
    rw [if_pos (show nI z < (62 : Int32) from nI_lt (b := 62) (by omega) (by decide))]
    by_cases c : b ≤ 1
    · rw [if_pos ((lg_cmp_le _ _).mpr ((lN_leB hbn (by decide)).mpr c))]
      rw [show hlv (n + 1) a b = (a, b) from if_pos c] at kq
      by_cases y : part = 0
      · rw [if_pos y] at kq ⊢
        try (refine go 60 (by decide) ?_; simp only [KX, KY, KZ, KW, KV, Nat.reduceAdd, Nat.reduceSub, Nat.reduceLeDiff, true_and, and_true, true_or, or_true, or_self, reduceCtorEq, if_true, if_false, not_false_eq_true, eq_self, c153])
        exact kq
      · rw [if_neg y] at kq ⊢
        try (refine go 60 (by decide) ?_; simp only [KX, KY, KZ, KW, KV, Nat.reduceAdd, Nat.reduceSub, Nat.reduceLeDiff, true_and, and_true, true_or, or_true, or_self, reduceCtorEq, if_true, if_false, not_false_eq_true, eq_self, c153])
        exact kq
    · rw [if_neg (fun w => c ((lN_leB hbn (by decide)).mp ((lg_cmp_le _ _).mp w)))]
      rw [lN_and1]
      by_cases d : a % 2 = 0
      · rw [if_pos ((lg_cmp_eq _ _).mpr ((lN_eqB (by omega) (by decide)).mpr d)), lN_shr1 ha, lN_shr1 hbn, nI_1 z]
        refine At_le (ih (z + 1) (a / 2) (b / 2) (by omega) (by omega) (by omega) ?_) ⟨rfl, rfl, rfl, rfl, rfl, rfl, rfl, trivial⟩
        rw [show hlv (n + 1) a b = hlv n (a / 2) (b / 2) from (if_neg c).trans (if_pos d)] at kq
        exact kq
      · rw [if_neg (fun w => d ((lN_eqB (by omega) (by decide)).mp ((lg_cmp_eq _ _).mp w)))]
        rw [show hlv (n + 1) a b = (a, b) from (if_neg c).trans (if_neg d)] at kq
        by_cases y : part = 0
        · rw [if_pos y] at kq ⊢
          try (refine go 60 (by decide) ?_; simp only [KX, KY, KZ, KW, KV, Nat.reduceAdd, Nat.reduceSub, Nat.reduceLeDiff, true_and, and_true, true_or, or_true, or_self, reduceCtorEq, if_true, if_false, not_false_eq_true, eq_self, c153])
          exact kq
        · rw [if_neg y] at kq ⊢
          try (refine go 60 (by decide) ?_; simp only [KX, KY, KZ, KW, KV, Nat.reduceAdd, Nat.reduceSub, Nat.reduceLeDiff, true_and, and_true, true_or, or_true, or_self, reduceCtorEq, if_true, if_false, not_false_eq_true, eq_self, c153])
          exact kq
theorem s153 {h : ma_H} {Q : ma_Q} {f r kk : Nat} {v0 v1 v3 : Value} {a : Int32} {s rc : Nat} {mn : Int32} {g : Nat → Int32} (H : Sh h) (h1 : h.2.1 f = .inr (2, [.int mn, .ref s, .ref rc])) (h2 : h.2.1 s = .inl (.int, 169, .inl g)) (hk : kk < 6) (e : h.2.1 r = .inr (g_cls kk, [v0, v1, .int a, v3])) {ms : Nat} (em : fi h 34 6 = nI ms) (m4 : ms ≤ 4) {part : Int32} (ha : pn (fun i => if oc i < 15 then Ao g (fz g kk a) ms i else 1) 91 < 2 ^ 63) (hb2 : pn (fun i => if oc i < 15 then 4 ^ sx (kbn (fz g kk a)) i else 1) 91 < 2 ^ 63) (k : Q (some (.long (if part = 0 then lN (hlv 62 (pn (fun i => if oc i < 15 then Ao g (fz g kk a) ms i else 1) 91) (pn (fun i => if oc i < 15 then 4 ^ sx (kbn (fz g kk a)) i else 1) 91)).1 else lN (hlv 62 (pn (fun i => if oc i < 15 then Ao g (fz g kk a) ms i else 1) 91) (pn (fun i => if oc i < 15 then 4 ^ sx (kbn (fz g kk a)) i else 1) 91)).2))) h) : ma_X 153 [.ref 0, .ref f, .ref r, .int part] h Q := by
  have lp : ∀ n i, i + n = 91 → At 153 Q 11 (0, 0) [some (.ref 0), some (.ref f), some (.ref r), some (.int part), some (.long (lN (pn (fun i => if oc i < 15 then Ao g (fz g kk a) ms i else 1) i))), none, some (.long (lN (pn (fun i => if oc i < 15 then 4 ^ sx (kbn (fz g kk a)) i else 1) i))), none, some (.retAddr 0), some (.int (nI 91)), some (.int (nI i)), none, none, none, none, none] [] h := by
    intro n
    induction n with
    | zero =>
      intro i ei
      obtain rfl : i = 91 := by omega
      refine go 60 (by decide) ?_
      simp only [KX, KY, KZ, KW, KV, Nat.reduceAdd, Nat.reduceSub, Nat.reduceLeDiff, true_and, and_true, true_or, or_true, or_self, reduceCtorEq, if_true, if_false, not_false_eq_true, eq_self, c153, H.e0, H.e34, h1, e, (vt289 kk hk).1, show mt_c 41 = (0, 0) from rfl, show lN ((1 : Fin 2).val) = lN 1 from rfl, show lN ((0 : Fin 2).val) = lN 0 from rfl]
      rw [if_neg (nI_nlt (Nat.le_refl _) (by decide))]
      first
        | (with_reducible show At 153 _ 78 _ _ _ _)
        | (refine go 60 (by decide) ?_; simp only [KX, KY, KZ, KW, KV, Nat.reduceAdd, Nat.reduceSub, Nat.reduceLeDiff, true_and, and_true, true_or, or_true, or_self, reduceCtorEq, if_true, if_false, not_false_eq_true, eq_self, c153, H.e0, H.e34, h1, e, (vt289 kk hk).1, show mt_c 41 = (0, 0) from rfl, show lN ((1 : Fin 2).val) = lN 1 from rfl, show lN ((0 : Fin 2).val) = lN 0 from rfl])
      first
        | (with_reducible show At 153 _ 78 _ _ _ _)
        | (refine go 60 (by decide) ?_; simp only [KX, KY, KZ, KW, KV, Nat.reduceAdd, Nat.reduceSub, Nat.reduceLeDiff, true_and, and_true, true_or, or_true, or_self, reduceCtorEq, if_true, if_false, not_false_eq_true, eq_self, c153, H.e0, H.e34, h1, e, (vt289 kk hk).1, show mt_c 41 = (0, 0) from rfl, show lN ((1 : Fin 2).val) = lN 1 from rfl, show lN ((0 : Fin 2).val) = lN 0 from rfl])
      first
        | (with_reducible show At 153 _ 78 _ _ _ _)
        | (refine go 60 (by decide) ?_; simp only [KX, KY, KZ, KW, KV, Nat.reduceAdd, Nat.reduceSub, Nat.reduceLeDiff, true_and, and_true, true_or, or_true, or_self, reduceCtorEq, if_true, if_false, not_false_eq_true, eq_self, c153, H.e0, H.e34, h1, e, (vt289 kk hk).1, show mt_c 41 = (0, 0) from rfl, show lN ((1 : Fin 2).val) = lN 1 from rfl, show lN ((0 : Fin 2).val) = lN 0 from rfl])
      exact At_le (l153 62 0 _ _ rfl ha hb2 k) ⟨rfl, rfl, rfl, rfl, rfl, rfl, rfl, trivial⟩
    | succ n ih =>
      intro i ei
      have hi : i < 91 := by omega
      have e1i := nI_1 i
      have ro := oc_cls i hi
      refine go 60 (by decide) ?_
      simp only [KX, KY, KZ, KW, KV, Nat.reduceAdd, Nat.reduceSub, Nat.reduceLeDiff, true_and, and_true, true_or, or_true, or_self, reduceCtorEq, if_true, if_false, not_false_eq_true, eq_self, c153, H.e0, H.e34, h1, e, (vt289 kk hk).1, show mt_c 41 = (0, 0) from rfl, show lN ((1 : Fin 2).val) = lN 1 from rfl, show lN ((0 : Fin 2).val) = lN 0 from rfl]
      rw [if_pos (nI_lt hi (by decide)), nI_clamp (show i < 2 ^ 31 by omega)]
      refine ⟨nI_in hi (by decide), ?_⟩
      refine s10 ?_
      refine go 60 (by decide) ?_
      simp only [KX, KY, KZ, KW, KV, Nat.reduceAdd, Nat.reduceSub, Nat.reduceLeDiff, true_and, and_true, true_or, or_true, or_self, reduceCtorEq, if_true, if_false, not_false_eq_true, eq_self, c153, H.e0, H.e34, h1, e, (vt289 kk hk).1, show mt_c 41 = (0, 0) from rfl, show lN ((1 : Fin 2).val) = lN 1 from rfl, show lN ((0 : Fin 2).val) = lN 0 from rfl]
      by_cases c : nI (ma_cell i) - nI (ma_cell i) / 13 * 13 - 6 ≤ 0
      · have rep : ¬ oc i < 15 := fun x => (ro.mp x).1 c
        rw [if_pos c]
        first
          | (with_reducible show At 153 _ 11 _ _ _ _)
          | (refine go 60 (by decide) ?_; simp only [KX, KY, KZ, KW, KV, Nat.reduceAdd, Nat.reduceSub, Nat.reduceLeDiff, true_and, and_true, true_or, or_true, or_self, reduceCtorEq, if_true, if_false, not_false_eq_true, eq_self, c153, H.e0, H.e34, h1, e, (vt289 kk hk).1, show mt_c 41 = (0, 0) from rfl, show lN ((1 : Fin 2).val) = lN 1 from rfl, show lN ((0 : Fin 2).val) = lN 0 from rfl])
        first
          | (with_reducible show At 153 _ 11 _ _ _ _)
          | (refine go 60 (by decide) ?_; simp only [KX, KY, KZ, KW, KV, Nat.reduceAdd, Nat.reduceSub, Nat.reduceLeDiff, true_and, and_true, true_or, or_true, or_self, reduceCtorEq, if_true, if_false, not_false_eq_true, eq_self, c153, H.e0, H.e34, h1, e, (vt289 kk hk).1, show mt_c 41 = (0, 0) from rfl, show lN ((1 : Fin 2).val) = lN 1 from rfl, show lN ((0 : Fin 2).val) = lN 0 from rfl])
        first
          | (with_reducible show At 153 _ 11 _ _ _ _)
          | (refine go 60 (by decide) ?_; simp only [KX, KY, KZ, KW, KV, Nat.reduceAdd, Nat.reduceSub, Nat.reduceLeDiff, true_and, and_true, true_or, or_true, or_self, reduceCtorEq, if_true, if_false, not_false_eq_true, eq_self, c153, H.e0, H.e34, h1, e, (vt289 kk hk).1, show mt_c 41 = (0, 0) from rfl, show lN ((1 : Fin 2).val) = lN 1 from rfl, show lN ((0 : Fin 2).val) = lN 0 from rfl])
        rw [e1i]
        have ih2 := ih (i + 1) (by omega)
        rw [show pn (fun i => if oc i < 15 then Ao g (fz g kk a) ms i else 1) (i + 1) = pn (fun i => if oc i < 15 then Ao g (fz g kk a) ms i else 1) i from (congrArg (fun z => pn (fun i => if oc i < 15 then Ao g (fz g kk a) ms i else 1) i * z) (if_neg rep)).trans (Nat.mul_one _), show pn (fun i => if oc i < 15 then 4 ^ sx (kbn (fz g kk a)) i else 1) (i + 1) = pn (fun i => if oc i < 15 then 4 ^ sx (kbn (fz g kk a)) i else 1) i from (congrArg (fun z => pn (fun i => if oc i < 15 then 4 ^ sx (kbn (fz g kk a)) i else 1) i * z) (if_neg rep)).trans (Nat.mul_one _)] at ih2
        exact At_le ih2 ⟨rfl, rfl, rfl, rfl, rfl, rfl, rfl, rfl, rfl, trivial⟩
      · rw [if_neg c]
        refine s11 ?_
        refine go 60 (by decide) ?_
        simp only [KX, KY, KZ, KW, KV, Nat.reduceAdd, Nat.reduceSub, Nat.reduceLeDiff, true_and, and_true, true_or, or_true, or_self, reduceCtorEq, if_true, if_false, not_false_eq_true, eq_self, c153, H.e0, H.e34, h1, e, (vt289 kk hk).1, show mt_c 41 = (0, 0) from rfl, show lN ((1 : Fin 2).val) = lN 1 from rfl, show lN ((0 : Fin 2).val) = lN 0 from rfl]
        by_cases d : nI (ma_cell i) / 13 - 6 < 0
        · have rep : ¬ oc i < 15 := fun x => (ro.mp x).2 d
          rw [if_pos d]
          first
            | (with_reducible show At 153 _ 11 _ _ _ _)
            | (refine go 60 (by decide) ?_; simp only [KX, KY, KZ, KW, KV, Nat.reduceAdd, Nat.reduceSub, Nat.reduceLeDiff, true_and, and_true, true_or, or_true, or_self, reduceCtorEq, if_true, if_false, not_false_eq_true, eq_self, c153, H.e0, H.e34, h1, e, (vt289 kk hk).1, show mt_c 41 = (0, 0) from rfl, show lN ((1 : Fin 2).val) = lN 1 from rfl, show lN ((0 : Fin 2).val) = lN 0 from rfl])
          first
            | (with_reducible show At 153 _ 11 _ _ _ _)
            | (refine go 60 (by decide) ?_; simp only [KX, KY, KZ, KW, KV, Nat.reduceAdd, Nat.reduceSub, Nat.reduceLeDiff, true_and, and_true, true_or, or_true, or_self, reduceCtorEq, if_true, if_false, not_false_eq_true, eq_self, c153, H.e0, H.e34, h1, e, (vt289 kk hk).1, show mt_c 41 = (0, 0) from rfl, show lN ((1 : Fin 2).val) = lN 1 from rfl, show lN ((0 : Fin 2).val) = lN 0 from rfl])
          first
            | (with_reducible show At 153 _ 11 _ _ _ _)
            | (refine go 60 (by decide) ?_; simp only [KX, KY, KZ, KW, KV, Nat.reduceAdd, Nat.reduceSub, Nat.reduceLeDiff, true_and, and_true, true_or, or_true, or_self, reduceCtorEq, if_true, if_false, not_false_eq_true, eq_self, c153, H.e0, H.e34, h1, e, (vt289 kk hk).1, show mt_c 41 = (0, 0) from rfl, show lN ((1 : Fin 2).val) = lN 1 from rfl, show lN ((0 : Fin 2).val) = lN 0 from rfl])
          rw [e1i]
          have ih2 := ih (i + 1) (by omega)
          rw [show pn (fun i => if oc i < 15 then Ao g (fz g kk a) ms i else 1) (i + 1) = pn (fun i => if oc i < 15 then Ao g (fz g kk a) ms i else 1) i from (congrArg (fun z => pn (fun i => if oc i < 15 then Ao g (fz g kk a) ms i else 1) i * z) (if_neg rep)).trans (Nat.mul_one _), show pn (fun i => if oc i < 15 then 4 ^ sx (kbn (fz g kk a)) i else 1) (i + 1) = pn (fun i => if oc i < 15 then 4 ^ sx (kbn (fz g kk a)) i else 1) i from (congrArg (fun z => pn (fun i => if oc i < 15 then 4 ^ sx (kbn (fz g kk a)) i else 1) i * z) (if_neg rep)).trans (Nat.mul_one _)] at ih2
          exact At_le ih2 ⟨rfl, rfl, rfl, rfl, rfl, rfl, rfl, rfl, rfl, trivial⟩
        · have rep : oc i < 15 := ro.mpr ⟨c, d⟩
          rw [if_neg d]
          have lq : ∀ n t, t + n = 6 → At 153 Q 30 (0, 0) [some (.ref 0), some (.ref f), some (.ref r), some (.int part), some (.long (lN (pn (fun i => if oc i < 15 then Ao g (fz g kk a) ms i else 1) i))), none, some (.long (lN (pn (fun i => if oc i < 15 then 4 ^ sx (kbn (fz g kk a)) i else 1) i))), none, some (.retAddr 0), some (.int (nI 91)), some (.int (nI i)), some (.int (nI (ma_cell i))), some (.int (nI (sn (fun t => hbn g (m_imN i t)) t))), some (.int (nI (sn (fun t => kbn (fz g kk a) (m_imN i t)) t))), some (.int (nI t)), none] [] h := by
            intro n
            induction n with
            | zero =>
              intro t et
              obtain rfl : t = 6 := by omega
              refine go 60 (by decide) ?_
              simp only [KX, KY, KZ, KW, KV, Nat.reduceAdd, Nat.reduceSub, Nat.reduceLeDiff, true_and, and_true, true_or, or_true, or_self, reduceCtorEq, if_true, if_false, not_false_eq_true, eq_self, c153, H.e0, H.e34, h1, e, (vt289 kk hk).1, show mt_c 41 = (0, 0) from rfl, show lN ((1 : Fin 2).val) = lN 1 from rfl, show lN ((0 : Fin 2).val) = lN 0 from rfl]
              rw [if_neg (show ¬ nI 6 < (6 : Int32) from nI_nlt (Nat.le_refl _) (by decide))]
              refine s154 (hh := sx (hbn g) i) (cc := sx (kbn (fz g kk a)) i) H em m4 (sx6 (hbn1 g) i) (sx6 (kbn1 (fz g kk a)) i) ?_
              refine go 60 (by decide) ?_
              simp only [KX, KY, KZ, KW, KV, Nat.reduceAdd, Nat.reduceSub, Nat.reduceLeDiff, true_and, and_true, true_or, or_true, or_self, reduceCtorEq, if_true, if_false, not_false_eq_true, eq_self, c153, H.e0, H.e34, h1, e, (vt289 kk hk).1, show mt_c 41 = (0, 0) from rfl, show lN ((1 : Fin 2).val) = lN 1 from rfl, show lN ((0 : Fin 2).val) = lN 0 from rfl]
              have c6 := sx6 (kbn1 (fz g kk a)) i
              refine s155 (b := 4) (e := sx (kbn (fz g kk a)) i) (by omega) ?_
              first
                | (with_reducible show At 153 _ 11 _ _ _ _)
                | (refine go 60 (by decide) ?_; simp only [KX, KY, KZ, KW, KV, Nat.reduceAdd, Nat.reduceSub, Nat.reduceLeDiff, true_and, and_true, true_or, or_true, or_self, reduceCtorEq, if_true, if_false, not_false_eq_true, eq_self, c153, H.e0, H.e34, h1, e, (vt289 kk hk).1, show mt_c 41 = (0, 0) from rfl, show lN ((1 : Fin 2).val) = lN 1 from rfl, show lN ((0 : Fin 2).val) = lN 0 from rfl])
              first
                | (with_reducible show At 153 _ 11 _ _ _ _)
                | (refine go 60 (by decide) ?_; simp only [KX, KY, KZ, KW, KV, Nat.reduceAdd, Nat.reduceSub, Nat.reduceLeDiff, true_and, and_true, true_or, or_true, or_self, reduceCtorEq, if_true, if_false, not_false_eq_true, eq_self, c153, H.e0, H.e34, h1, e, (vt289 kk hk).1, show mt_c 41 = (0, 0) from rfl, show lN ((1 : Fin 2).val) = lN 1 from rfl, show lN ((0 : Fin 2).val) = lN 0 from rfl])
              first
                | (with_reducible show At 153 _ 11 _ _ _ _)
                | (refine go 60 (by decide) ?_; simp only [KX, KY, KZ, KW, KV, Nat.reduceAdd, Nat.reduceSub, Nat.reduceLeDiff, true_and, and_true, true_or, or_true, or_self, reduceCtorEq, if_true, if_false, not_false_eq_true, eq_self, c153, H.e0, H.e34, h1, e, (vt289 kk hk).1, show mt_c 41 = (0, 0) from rfl, show lN ((1 : Fin 2).val) = lN 1 from rfl, show lN ((0 : Fin 2).val) = lN 0 from rfl])
              rw [lN_mul, lN_mul, e1i]
              have ih2 := ih (i + 1) (by omega)
              rw [show pn (fun i => if oc i < 15 then Ao g (fz g kk a) ms i else 1) (i + 1) = pn (fun i => if oc i < 15 then Ao g (fz g kk a) ms i else 1) i * Ao g (fz g kk a) ms i from congrArg (fun z => pn (fun i => if oc i < 15 then Ao g (fz g kk a) ms i else 1) i * z) (if_pos rep), show pn (fun i => if oc i < 15 then 4 ^ sx (kbn (fz g kk a)) i else 1) (i + 1) = pn (fun i => if oc i < 15 then 4 ^ sx (kbn (fz g kk a)) i else 1) i * 4 ^ sx (kbn (fz g kk a)) i from congrArg (fun z => pn (fun i => if oc i < 15 then 4 ^ sx (kbn (fz g kk a)) i else 1) i * z) (if_pos rep)] at ih2
              exact At_le ih2 ⟨rfl, rfl, rfl, rfl, rfl, rfl, rfl, rfl, rfl, trivial⟩
            | succ n jh =>
              intro t et
              have ht : t < 6 := by omega
              have hm : m_imN i t < 91 := m_imN_lt hi t
              refine go 60 (by decide) ?_
              simp only [KX, KY, KZ, KW, KV, Nat.reduceAdd, Nat.reduceSub, Nat.reduceLeDiff, true_and, and_true, true_or, or_true, or_self, reduceCtorEq, if_true, if_false, not_false_eq_true, eq_self, c153, H.e0, H.e34, h1, e, (vt289 kk hk).1, show mt_c 41 = (0, 0) from rfl, show lN ((1 : Fin 2).val) = lN 1 from rfl, show lN ((0 : Fin 2).val) = lN 0 from rfl]
              rw [if_pos (show nI t < (6 : Int32) from nI_lt ht (by decide))]
              refine s14 (show t < 100 by omega) ?_
              rw [im_eq0 t ht i hi, mim0]
              refine go 60 (by decide) ?_
              simp only [KX, KY, KZ, KW, KV, Nat.reduceAdd, Nat.reduceSub, Nat.reduceLeDiff, true_and, and_true, true_or, or_true, or_self, reduceCtorEq, if_true, if_false, not_false_eq_true, eq_self, c153, H.e0, H.e34, h1, e, (vt289 kk hk).1, show mt_c 41 = (0, 0) from rfl, show lN ((1 : Fin 2).val) = lN 1 from rfl, show lN ((0 : Fin 2).val) = lN 0 from rfl]
              refine s19c h1 h2 hm (fun z => ?_) (fun z => ?_)
              · have eh : nI (sn (fun t => hbn g (m_imN i t)) (t + 1)) = nI (sn (fun t => hbn g (m_imN i t)) t) + 0 := by
                  show nI (sn (fun t => hbn g (m_imN i t)) t + hbn g (m_imN i t)) = _
                  rw [show hbn g (m_imN i t) = 0 from if_pos z, ← nI_add]
                  rfl
                refine go 60 (by decide) ?_
                simp only [KX, KY, KZ, KW, KV, Nat.reduceAdd, Nat.reduceSub, Nat.reduceLeDiff, true_and, and_true, true_or, or_true, or_self, reduceCtorEq, if_true, if_false, not_false_eq_true, eq_self, c153, H.e0, H.e34, h1, e, (vt289 kk hk).1, show mt_c 41 = (0, 0) from rfl, show lN ((1 : Fin 2).val) = lN 1 from rfl, show lN ((0 : Fin 2).val) = lN 0 from rfl]
                refine go 60 (by decide) ?_
                simp only [KX, KY, KZ, KW, KV, Nat.reduceAdd, Nat.reduceSub, Nat.reduceLeDiff, true_and, and_true, true_or, or_true, or_self, reduceCtorEq, if_true, if_false, not_false_eq_true, eq_self, c153, H.e0, H.e34, h1, e, (vt289 kk hk).1, show mt_c 41 = (0, 0) from rfl, show lN ((1 : Fin 2).val) = lN 1 from rfl, show lN ((0 : Fin 2).val) = lN 0 from rfl]
                refine s41 h1 h2 hk e hm ?_
                rcases fz01 g kk a (m_imN i t) with y | y
                · rw [y]
                  have ek : nI (sn (fun t => kbn (fz g kk a) (m_imN i t)) (t + 1)) = nI (sn (fun t => kbn (fz g kk a) (m_imN i t)) t) + 0 := by
                    show nI (sn (fun t => kbn (fz g kk a) (m_imN i t)) t + kbn (fz g kk a) (m_imN i t)) = _
                    rw [show kbn (fz g kk a) (m_imN i t) = 0 from if_pos y, ← nI_add]
                    rfl
                  first
                    | (with_reducible show At 153 _ 30 _ _ _ _)
                    | (refine go 60 (by decide) ?_; simp only [KX, KY, KZ, KW, KV, Nat.reduceAdd, Nat.reduceSub, Nat.reduceLeDiff, true_and, and_true, true_or, or_true, or_self, reduceCtorEq, if_true, if_false, not_false_eq_true, eq_self, c153, H.e0, H.e34, h1, e, (vt289 kk hk).1, show mt_c 41 = (0, 0) from rfl, show lN ((1 : Fin 2).val) = lN 1 from rfl, show lN ((0 : Fin 2).val) = lN 0 from rfl])
                  first
                    | (with_reducible show At 153 _ 30 _ _ _ _)
                    | (refine go 60 (by decide) ?_; simp only [KX, KY, KZ, KW, KV, Nat.reduceAdd, Nat.reduceSub, Nat.reduceLeDiff, true_and, and_true, true_or, or_true, or_self, reduceCtorEq, if_true, if_false, not_false_eq_true, eq_self, c153, H.e0, H.e34, h1, e, (vt289 kk hk).1, show mt_c 41 = (0, 0) from rfl, show lN ((1 : Fin 2).val) = lN 1 from rfl, show lN ((0 : Fin 2).val) = lN 0 from rfl])
                  first
                    | (with_reducible show At 153 _ 30 _ _ _ _)
                    | (refine go 60 (by decide) ?_; simp only [KX, KY, KZ, KW, KV, Nat.reduceAdd, Nat.reduceSub, Nat.reduceLeDiff, true_and, and_true, true_or, or_true, or_self, reduceCtorEq, if_true, if_false, not_false_eq_true, eq_self, c153, H.e0, H.e34, h1, e, (vt289 kk hk).1, show mt_c 41 = (0, 0) from rfl, show lN ((1 : Fin 2).val) = lN 1 from rfl, show lN ((0 : Fin 2).val) = lN 0 from rfl])
                  rw [nI_1 t]
                  have jh2 := jh (t + 1) (by omega)
                  rw [eh, ek] at jh2
                  exact At_le jh2 ⟨rfl, rfl, rfl, rfl, rfl, rfl, rfl, rfl, rfl, rfl, rfl, rfl, rfl, trivial⟩
                · rw [y]
                  have ek : nI (sn (fun t => kbn (fz g kk a) (m_imN i t)) (t + 1)) = nI (sn (fun t => kbn (fz g kk a) (m_imN i t)) t) + 1 := by
                    show nI (sn (fun t => kbn (fz g kk a) (m_imN i t)) t + kbn (fz g kk a) (m_imN i t)) = _
                    rw [show kbn (fz g kk a) (m_imN i t) = 1 from if_neg (by rw [y]; decide), ← nI_add]
                    rfl
                  first
                    | (with_reducible show At 153 _ 30 _ _ _ _)
                    | (refine go 60 (by decide) ?_; simp only [KX, KY, KZ, KW, KV, Nat.reduceAdd, Nat.reduceSub, Nat.reduceLeDiff, true_and, and_true, true_or, or_true, or_self, reduceCtorEq, if_true, if_false, not_false_eq_true, eq_self, c153, H.e0, H.e34, h1, e, (vt289 kk hk).1, show mt_c 41 = (0, 0) from rfl, show lN ((1 : Fin 2).val) = lN 1 from rfl, show lN ((0 : Fin 2).val) = lN 0 from rfl])
                  first
                    | (with_reducible show At 153 _ 30 _ _ _ _)
                    | (refine go 60 (by decide) ?_; simp only [KX, KY, KZ, KW, KV, Nat.reduceAdd, Nat.reduceSub, Nat.reduceLeDiff, true_and, and_true, true_or, or_true, or_self, reduceCtorEq, if_true, if_false, not_false_eq_true, eq_self, c153, H.e0, H.e34, h1, e, (vt289 kk hk).1, show mt_c 41 = (0, 0) from rfl, show lN ((1 : Fin 2).val) = lN 1 from rfl, show lN ((0 : Fin 2).val) = lN 0 from rfl])
                  first
                    | (with_reducible show At 153 _ 30 _ _ _ _)
                    | (refine go 60 (by decide) ?_; simp only [KX, KY, KZ, KW, KV, Nat.reduceAdd, Nat.reduceSub, Nat.reduceLeDiff, true_and, and_true, true_or, or_true, or_self, reduceCtorEq, if_true, if_false, not_false_eq_true, eq_self, c153, H.e0, H.e34, h1, e, (vt289 kk hk).1, show mt_c 41 = (0, 0) from rfl, show lN ((1 : Fin 2).val) = lN 1 from rfl, show lN ((0 : Fin 2).val) = lN 0 from rfl])
                  rw [nI_1 t]
                  have jh2 := jh (t + 1) (by omega)
                  rw [eh, ek] at jh2
                  exact At_le jh2 ⟨rfl, rfl, rfl, rfl, rfl, rfl, rfl, rfl, rfl, rfl, rfl, rfl, rfl, trivial⟩
              · have eh : nI (sn (fun t => hbn g (m_imN i t)) (t + 1)) = nI (sn (fun t => hbn g (m_imN i t)) t) + 1 := by
                  show nI (sn (fun t => hbn g (m_imN i t)) t + hbn g (m_imN i t)) = _
                  rw [show hbn g (m_imN i t) = 1 from if_neg z, ← nI_add]
                  rfl
                refine go 60 (by decide) ?_
                simp only [KX, KY, KZ, KW, KV, Nat.reduceAdd, Nat.reduceSub, Nat.reduceLeDiff, true_and, and_true, true_or, or_true, or_self, reduceCtorEq, if_true, if_false, not_false_eq_true, eq_self, c153, H.e0, H.e34, h1, e, (vt289 kk hk).1, show mt_c 41 = (0, 0) from rfl, show lN ((1 : Fin 2).val) = lN 1 from rfl, show lN ((0 : Fin 2).val) = lN 0 from rfl]
                refine go 60 (by decide) ?_
                simp only [KX, KY, KZ, KW, KV, Nat.reduceAdd, Nat.reduceSub, Nat.reduceLeDiff, true_and, and_true, true_or, or_true, or_self, reduceCtorEq, if_true, if_false, not_false_eq_true, eq_self, c153, H.e0, H.e34, h1, e, (vt289 kk hk).1, show mt_c 41 = (0, 0) from rfl, show lN ((1 : Fin 2).val) = lN 1 from rfl, show lN ((0 : Fin 2).val) = lN 0 from rfl]
                refine s41 h1 h2 hk e hm ?_
                rcases fz01 g kk a (m_imN i t) with y | y
                · rw [y]
                  have ek : nI (sn (fun t => kbn (fz g kk a) (m_imN i t)) (t + 1)) = nI (sn (fun t => kbn (fz g kk a) (m_imN i t)) t) + 0 := by
                    show nI (sn (fun t => kbn (fz g kk a) (m_imN i t)) t + kbn (fz g kk a) (m_imN i t)) = _
                    rw [show kbn (fz g kk a) (m_imN i t) = 0 from if_pos y, ← nI_add]
                    rfl
                  first
                    | (with_reducible show At 153 _ 30 _ _ _ _)
                    | (refine go 60 (by decide) ?_; simp only [KX, KY, KZ, KW, KV, Nat.reduceAdd, Nat.reduceSub, Nat.reduceLeDiff, true_and, and_true, true_or, or_true, or_self, reduceCtorEq, if_true, if_false, not_false_eq_true, eq_self, c153, H.e0, H.e34, h1, e, (vt289 kk hk).1, show mt_c 41 = (0, 0) from rfl, show lN ((1 : Fin 2).val) = lN 1 from rfl, show lN ((0 : Fin 2).val) = lN 0 from rfl])
                  first
                    | (with_reducible show At 153 _ 30 _ _ _ _)
                    | (refine go 60 (by decide) ?_; simp only [KX, KY, KZ, KW, KV, Nat.reduceAdd, Nat.reduceSub, Nat.reduceLeDiff, true_and, and_true, true_or, or_true, or_self, reduceCtorEq, if_true, if_false, not_false_eq_true, eq_self, c153, H.e0, H.e34, h1, e, (vt289 kk hk).1, show mt_c 41 = (0, 0) from rfl, show lN ((1 : Fin 2).val) = lN 1 from rfl, show lN ((0 : Fin 2).val) = lN 0 from rfl])
                  first
                    | (with_reducible show At 153 _ 30 _ _ _ _)
                    | (refine go 60 (by decide) ?_; simp only [KX, KY, KZ, KW, KV, Nat.reduceAdd, Nat.reduceSub, Nat.reduceLeDiff, true_and, and_true, true_or, or_true, or_self, reduceCtorEq, if_true, if_false, not_false_eq_true, eq_self, c153, H.e0, H.e34, h1, e, (vt289 kk hk).1, show mt_c 41 = (0, 0) from rfl, show lN ((1 : Fin 2).val) = lN 1 from rfl, show lN ((0 : Fin 2).val) = lN 0 from rfl])
                  rw [nI_1 t]
                  have jh2 := jh (t + 1) (by omega)
                  rw [eh, ek] at jh2
                  exact At_le jh2 ⟨rfl, rfl, rfl, rfl, rfl, rfl, rfl, rfl, rfl, rfl, rfl, rfl, rfl, trivial⟩
                · rw [y]
                  have ek : nI (sn (fun t => kbn (fz g kk a) (m_imN i t)) (t + 1)) = nI (sn (fun t => kbn (fz g kk a) (m_imN i t)) t) + 1 := by
                    show nI (sn (fun t => kbn (fz g kk a) (m_imN i t)) t + kbn (fz g kk a) (m_imN i t)) = _
                    rw [show kbn (fz g kk a) (m_imN i t) = 1 from if_neg (by rw [y]; decide), ← nI_add]
                    rfl
                  first
                    | (with_reducible show At 153 _ 30 _ _ _ _)
                    | (refine go 60 (by decide) ?_; simp only [KX, KY, KZ, KW, KV, Nat.reduceAdd, Nat.reduceSub, Nat.reduceLeDiff, true_and, and_true, true_or, or_true, or_self, reduceCtorEq, if_true, if_false, not_false_eq_true, eq_self, c153, H.e0, H.e34, h1, e, (vt289 kk hk).1, show mt_c 41 = (0, 0) from rfl, show lN ((1 : Fin 2).val) = lN 1 from rfl, show lN ((0 : Fin 2).val) = lN 0 from rfl])
                  first
                    | (with_reducible show At 153 _ 30 _ _ _ _)
                    | (refine go 60 (by decide) ?_; simp only [KX, KY, KZ, KW, KV, Nat.reduceAdd, Nat.reduceSub, Nat.reduceLeDiff, true_and, and_true, true_or, or_true, or_self, reduceCtorEq, if_true, if_false, not_false_eq_true, eq_self, c153, H.e0, H.e34, h1, e, (vt289 kk hk).1, show mt_c 41 = (0, 0) from rfl, show lN ((1 : Fin 2).val) = lN 1 from rfl, show lN ((0 : Fin 2).val) = lN 0 from rfl])
                  first
                    | (with_reducible show At 153 _ 30 _ _ _ _)
                    | (refine go 60 (by decide) ?_; simp only [KX, KY, KZ, KW, KV, Nat.reduceAdd, Nat.reduceSub, Nat.reduceLeDiff, true_and, and_true, true_or, or_true, or_self, reduceCtorEq, if_true, if_false, not_false_eq_true, eq_self, c153, H.e0, H.e34, h1, e, (vt289 kk hk).1, show mt_c 41 = (0, 0) from rfl, show lN ((1 : Fin 2).val) = lN 1 from rfl, show lN ((0 : Fin 2).val) = lN 0 from rfl])
                  rw [nI_1 t]
                  have jh2 := jh (t + 1) (by omega)
                  rw [eh, ek] at jh2
                  exact At_le jh2 ⟨rfl, rfl, rfl, rfl, rfl, rfl, rfl, rfl, rfl, rfl, rfl, rfl, rfl, trivial⟩
          first
            | (with_reducible show At 153 _ 30 _ _ _ _)
            | (refine go 60 (by decide) ?_; simp only [KX, KY, KZ, KW, KV, Nat.reduceAdd, Nat.reduceSub, Nat.reduceLeDiff, true_and, and_true, true_or, or_true, or_self, reduceCtorEq, if_true, if_false, not_false_eq_true, eq_self, c153, H.e0, H.e34, h1, e, (vt289 kk hk).1, show mt_c 41 = (0, 0) from rfl, show lN ((1 : Fin 2).val) = lN 1 from rfl, show lN ((0 : Fin 2).val) = lN 0 from rfl])
          first
            | (with_reducible show At 153 _ 30 _ _ _ _)
            | (refine go 60 (by decide) ?_; simp only [KX, KY, KZ, KW, KV, Nat.reduceAdd, Nat.reduceSub, Nat.reduceLeDiff, true_and, and_true, true_or, or_true, or_self, reduceCtorEq, if_true, if_false, not_false_eq_true, eq_self, c153, H.e0, H.e34, h1, e, (vt289 kk hk).1, show mt_c 41 = (0, 0) from rfl, show lN ((1 : Fin 2).val) = lN 1 from rfl, show lN ((0 : Fin 2).val) = lN 0 from rfl])
          first
            | (with_reducible show At 153 _ 30 _ _ _ _)
            | (refine go 60 (by decide) ?_; simp only [KX, KY, KZ, KW, KV, Nat.reduceAdd, Nat.reduceSub, Nat.reduceLeDiff, true_and, and_true, true_or, or_true, or_self, reduceCtorEq, if_true, if_false, not_false_eq_true, eq_self, c153, H.e0, H.e34, h1, e, (vt289 kk hk).1, show mt_c 41 = (0, 0) from rfl, show lN ((1 : Fin 2).val) = lN 1 from rfl, show lN ((0 : Fin 2).val) = lN 0 from rfl])
          exact At_le (lq 6 0 rfl) ⟨rfl, rfl, rfl, rfl, rfl, rfl, rfl, rfl, rfl, rfl, rfl, rfl, rfl, trivial⟩
  refine ma_enter (m := 153) (Or.inl (by decide)) (by show 4 ≤ mt_n 153; decide +kernel) ?_
  show At 153 Q 0 (mt_c 153) [some (.ref 0), some (.ref f), some (.ref r), some (.int part), none, none, none, none, none, none, none, none, none, none, none, none] [] h
  refine go 60 (by decide) ?_
  simp only [KX, KY, KZ, KW, KV, Nat.reduceAdd, Nat.reduceSub, Nat.reduceLeDiff, true_and, and_true, true_or, or_true, or_self, reduceCtorEq, if_true, if_false, not_false_eq_true, eq_self, c153, H.e0, H.e34, h1, e, (vt289 kk hk).1, show mt_c 41 = (0, 0) from rfl, show lN ((1 : Fin 2).val) = lN 1 from rfl, show lN ((0 : Fin 2).val) = lN 0 from rfl]
  exact At_le (lp 91 0 rfl) ⟨rfl, rfl, rfl, rfl, rfl, rfl, rfl, rfl, rfl, trivial⟩
