/-! law: the Model keeps signs -/
theorem mt96 {hm : ma_H} {b : Nat → Nat} {n k : Nat} {g m p o : Int32} {fr pe : Nat → Int32} : (MT hm b n k g m p o fr pe).2.1 96 = .inl (.int, 200, .inl fr) := ms96
theorem mt97 {hm : ma_H} {b : Nat → Nat} {n k : Nat} {g m p o : Int32} {fr pe : Nat → Int32} : (MT hm b n k g m p o fr pe).2.1 97 = .inl (.int, 200, .inl pe) := ms97
theorem mtw {hm : ma_H} {b : Nat → Nat} {n k : Nat} {g m p o : Int32} {fr pe : Nat → Int32} {g2 m2 p2 o2 : Int32} : ma_set (MT hm b n k g m p o fr pe) 80 (.inr (12, [.ref 81, .ref 82, .ref 83, .ref 84, .ref 85, .ref 86, .ref 87, .ref 88, .ref 89, .int (fi hm 80 9), .ref 90, .int (fi hm 80 11), .int (fi hm 80 12), .ref 91, .int (fi hm 80 14), .ref 92, .ref 93, .ref 94, .int (fi hm 80 18), .int (mS b n (Ps b n k)), .int (nI (Ps b n k)), .int (nI (te b n (Ps b n k))), .long (mW b n (Ps b n k)), .int (mV b n (Ps b n k)), .int g2, .ref 95, .ref 96, .ref 97, .int m2, .int p2, .int o2, .ref 98, .ref 99, .ref 100, .ref 101, .long (fj hm 80 35), .long (fj hm 80 36), .ref 102, .ref 103, .ref 104, .ref 105, .int (fi hm 80 41), .int (fi hm 80 42), .ref 106, .ref 107, .ref 108, .ref 109, .ref 110, .ref 111, .int (fi hm 80 49), .int (fi hm 80 50), .int (fi hm 80 51), .ref 112, .int (fi hm 80 53), .int (fi hm 80 54), .int (fi hm 80 55), .ref 113, .int (fi hm 80 57), .ref 114])) = MT hm b n k g2 m2 p2 o2 fr pe := msw
theorem mtf {hm : ma_H} {b : Nat → Nat} {n k : Nat} {g m p o : Int32} {fr pe : Nat → Int32} {f : Nat → Int32} : ma_set (MT hm b n k g m p o fr pe) 96 (.inl (.int, 200, .inl f)) = MT hm b n k g m p o f pe := msf
theorem mtp {hm : ma_H} {b : Nat → Nat} {n k : Nat} {g m p o : Int32} {fr pe : Nat → Int32} {f : Nat → Int32} : ma_set (MT hm b n k g m p o fr pe) 97 (.inl (.int, 200, .inl f)) = MT hm b n k g m p o fr f := msp
/-- signs written, signs pending (the last one first) -/
def MY (hm : ma_H) (b : Nat → Nat) (n k : Nat) (g o : Int32) (F S : List Int32) (hh : ma_H) : Prop := ∃ fr pe, hh = MT hm b n k g (nI F.length) (nI S.length) o fr pe ∧ seg fr 0 F ∧ seg pe 0 S.reverse ∧ F.length ≤ 200 ∧ S.length ≤ 200
def popx (x : Int32) : List Int32 → Nat
  | [] => 0
  | y :: r => if y = x then 1 + popx x r else 0
def topx (x : Int32) : List Int32 → Int32
  | [] => 0
  | y :: _ => if y = x then 1 else 0
theorem seg_pre {g : Nat → Int32} {A B : List Int32} (h : seg g 0 (A ++ B)) : seg g 0 A := fun i v e => h i v (by
  have : i < A.length := by
    rcases Nat.lt_or_ge i A.length with c | c
    · exact c
    · rw [List.getElem?_eq_none c] at e
      cases e
  rw [List.getElem?_append_left this]
  exact e)
theorem seg_last {g : Nat → Int32} {A : List Int32} {x : Int32} (h : seg g 0 (A ++ [x])) : g A.length = x := by
  have := h A.length x (by rw [List.getElem?_append_right (Nat.le_refl _), Nat.sub_self]; rfl)
  rw [Nat.zero_add] at this
  exact this
theorem y178 {hm : ma_H} {b : Nat → Nat} {n k : Nat} {g o : Int32} {F S : List Int32} {h : ma_H} {Q : ma_Q} (Y : MY hm b n k g o F S h)  (X : MX hm b n) (k0 : ∀ h2, MY hm b n (k + 1) g o F S h2 → Q none h2) : ma_X 178 [.ref 80] h Q := by
  obtain ⟨fr, pe, rfl, s1, s2, f2, p2⟩ := Y
  exact t178 X (k0 _ ⟨fr, pe, rfl, s1, s2, f2, p2⟩)
theorem y179 {hm : ma_H} {b : Nat → Nat} {n k : Nat} {g o : Int32} {F S : List Int32} {h : ma_H} {Q : ma_Q} (Y : MY hm b n k g o F S h)  (X : MX hm b n) {a : Nat} (ha : a < 6) (k0 : Q (some (.int (if tq b n k = 257 + a then 1 else 0))) h) : ma_X 179 [.ref 80, .long (lN (wvs.getD a 0))] h Q := by
  obtain ⟨fr, pe, rfl, s1, s2, f2, p2⟩ := Y
  exact t179 X ha k0
theorem y180 {hm : ma_H} {b : Nat → Nat} {n k : Nat} {g o : Int32} {F S : List Int32} {h : ma_H} {Q : ma_Q} (Y : MY hm b n k g o F S h)  (X : MX hm b n) {c : Nat} (hc : c < 256) (k0 : Q (some (.int (if tq b n k = c then 1 else 0))) h) : ma_X 180 [.ref 80, .int (nI c)] h Q := by
  obtain ⟨fr, pe, rfl, s1, s2, f2, p2⟩ := Y
  exact t180 X hc k0
theorem y181 {hm : ma_H} {b : Nat → Nat} {n k : Nat} {g o : Int32} {F S : List Int32} {h : ma_H} {Q : ma_Q} (Y : MY hm b n k g o F S h)  (X : MX hm b n) (k0 : Q (some (.int (if 4000 ≤ tq b n k then nI (tq b n k - 4000) else -1))) h) : ma_X 181 [.ref 80] h Q := by
  obtain ⟨fr, pe, rfl, s1, s2, f2, p2⟩ := Y
  exact t181 X k0
theorem y182 {hm : ma_H} {b : Nat → Nat} {n k : Nat} {g o : Int32} {F S : List Int32} {h : ma_H} {Q : ma_Q} (Y : MY hm b n k g o F S h)  {x : Int32} (l : F.length < 200) (k0 : ∀ h2, MY hm b n k g o (F ++ [x]) S h2 → Q none h2) : ma_X 182 [.ref 80, .int x] h Q := by
  obtain ⟨fr, pe, rfl, s1, s2, f2, p2⟩ := Y
  refine ma_enter (m := 182) (Or.inl (by decide)) (by show 2 ≤ mt_n 182; decide +kernel) ?_
  show At 182 Q 0 (mt_c 182) [some (.ref 80), some (.int x)] [] (MT hm b n k g (nI F.length) (nI S.length) o fr pe)
  refine go 60 (by decide) ?_
  simp only [KX, KY, KZ, KW, KV, Nat.reduceAdd, Nat.reduceSub, Nat.reduceLeDiff, true_and, and_true, true_or, or_true, or_self, reduceCtorEq, if_true, if_false, not_false_eq_true, eq_self, c182, mt80, mt96, mt97, mtw, mtf, mtp, List.set_cons_succ, List.set_cons_zero, MFT, List.length_cons, List.length_nil, Nat.reduceLT, Nat.zero_add]
  rw [nI_clamp (by omega), nI_1 F.length]
  refine ⟨nI_in l (by decide), ?_⟩
  exact k0 _ ⟨_, pe, by rw [List.length_append]; rfl, seg_snoc s1, s2, by rw [List.length_append]; exact l, p2⟩
theorem y183 {hm : ma_H} {b : Nat → Nat} {n k : Nat} {g o : Int32} {F S : List Int32} {h : ma_H} {Q : ma_Q} (Y : MY hm b n k g o F S h)  {x : Int32} (l : S.length < 200) (k0 : ∀ h2, MY hm b n k g o F (x :: S) h2 → Q none h2) : ma_X 183 [.ref 80, .int x] h Q := by
  obtain ⟨fr, pe, rfl, s1, s2, f2, p2⟩ := Y
  refine ma_enter (m := 183) (Or.inl (by decide)) (by show 2 ≤ mt_n 183; decide +kernel) ?_
  show At 183 Q 0 (mt_c 183) [some (.ref 80), some (.int x)] [] (MT hm b n k g (nI F.length) (nI S.length) o fr pe)
  refine go 60 (by decide) ?_
  simp only [KX, KY, KZ, KW, KV, Nat.reduceAdd, Nat.reduceSub, Nat.reduceLeDiff, true_and, and_true, true_or, or_true, or_self, reduceCtorEq, if_true, if_false, not_false_eq_true, eq_self, c183, mt80, mt96, mt97, mtw, mtf, mtp, List.set_cons_succ, List.set_cons_zero, MFT, List.length_cons, List.length_nil, Nat.reduceLT, Nat.zero_add]
  rw [nI_clamp (by omega), nI_1 S.length]
  refine ⟨nI_in l (by decide), ?_⟩
  exact k0 _ ⟨fr, _, rfl, s1, by rw [List.reverse_cons, ← List.length_reverse (as := S)]; exact seg_snoc s2, f2, l⟩
theorem y184 {hm : ma_H} {b : Nat → Nat} {n k : Nat} {g o : Int32} {F S : List Int32} {h : ma_H} {Q : ma_Q} (Y : MY hm b n k g o F S h)  {x : Int32} (k0 : Q (some (.int (topx x S))) h) : ma_X 184 [.ref 80, .int x] h Q := by
  obtain ⟨fr, pe, rfl, s1, s2, f2, p2⟩ := Y
  cases S with
  | nil =>
    refine ma_enter (m := 184) (Or.inl (by decide)) (by show 2 ≤ mt_n 184; decide +kernel) ?_
    show At 184 Q 0 (mt_c 184) [some (.ref 80), some (.int x)] [] (MT hm b n k g (nI F.length) (nI 0) o fr pe)
    refine go 60 (by decide) ?_
    simp only [KX, KY, KZ, KW, KV, Nat.reduceAdd, Nat.reduceSub, Nat.reduceLeDiff, true_and, and_true, true_or, or_true, or_self, reduceCtorEq, if_true, if_false, not_false_eq_true, eq_self, c184, mt80, mt96, mt97, mtw, mtf, mtp, List.set_cons_succ, List.set_cons_zero, MFT, List.length_cons, List.length_nil, Nat.reduceLT, Nat.zero_add]
    rw [if_pos (show nI 0 ≤ 0 by decide)]
    exact k0
  | cons y S =>
    refine ma_enter (m := 184) (Or.inl (by decide)) (by show 2 ≤ mt_n 184; decide +kernel) ?_
    show At 184 Q 0 (mt_c 184) [some (.ref 80), some (.int x)] [] (MT hm b n k g (nI F.length) (nI (y :: S).length) o fr pe)
    refine go 60 (by decide) ?_
    simp only [KX, KY, KZ, KW, KV, Nat.reduceAdd, Nat.reduceSub, Nat.reduceLeDiff, true_and, and_true, true_or, or_true, or_self, reduceCtorEq, if_true, if_false, not_false_eq_true, eq_self, c184, mt80, mt96, mt97, mtw, mtf, mtp, List.set_cons_succ, List.set_cons_zero, MFT, List.length_cons, List.length_nil, Nat.reduceLT, Nat.zero_add]
    have p3 : S.length + 1 ≤ 200 := p2
    rw [if_neg (nI_nle (by omega) (by omega)), nI_pred, nI_clamp (by omega)]
    refine ⟨nI_in (show S.length < 200 by omega) (by decide), ?_⟩
    have e : pe S.length = y := by
      rw [List.reverse_cons] at s2
      have := seg_last s2
      rw [List.length_reverse] at this
      exact this
    rw [e]
    have k1 : Q (some (.int (if y = x then 1 else 0))) (MT hm b n k g (nI F.length) (nI (S.length + 1)) o fr pe) := k0
    by_cases z : y = x
    · rw [if_pos z] at k1 ⊢
      exact k1
    · rw [if_neg z] at k1 ⊢
      exact k1
theorem y185 {hm : ma_H} {b : Nat → Nat} {n k : Nat} {g o : Int32} {F S : List Int32} {h : ma_H} {Q : ma_Q} (Y : MY hm b n k g o F S h)  {x : Int32} (l : F.length + S.length ≤ 200) (k0 : ∀ h2, MY hm b n k g o (F ++ List.replicate (popx x S) x) (S.drop (popx x S)) h2 → Q none h2) : ma_X 185 [.ref 80, .int x] h Q := by
  have lp : ∀ (S F : List Int32) (hh : ma_H), MY hm b n k g o F S hh → F.length + S.length ≤ 200 → (∀ h2, MY hm b n k g o (F ++ List.replicate (popx x S) x) (S.drop (popx x S)) h2 → Q none h2) → At 185 Q 0 (0, 0) [some (.ref 80), some (.int x)] [] hh := by
    intro S
    induction S with
    | nil =>
      intro F hh Y l k0
      obtain ⟨fr, pe, rfl, s1, s2, f2, p2⟩ := id Y
      refine go 60 (by decide) ?_
      simp only [KX, KY, KZ, KW, KV, Nat.reduceAdd, Nat.reduceSub, Nat.reduceLeDiff, true_and, and_true, true_or, or_true, or_self, reduceCtorEq, if_true, if_false, not_false_eq_true, eq_self, c185, mt80, mt96, mt97, mtw, mtf, mtp, List.set_cons_succ, List.set_cons_zero, MFT, List.length_cons, List.length_nil, Nat.reduceLT, Nat.zero_add]
      refine y184 Y ?_
      refine go 60 (by decide) ?_
      simp only [KX, KY, KZ, KW, KV, Nat.reduceAdd, Nat.reduceSub, Nat.reduceLeDiff, true_and, and_true, true_or, or_true, or_self, reduceCtorEq, if_true, if_false, not_false_eq_true, eq_self, c185, mt80, mt96, mt97, mtw, mtf, mtp, List.set_cons_succ, List.set_cons_zero, MFT, List.length_cons, List.length_nil, Nat.reduceLT, Nat.zero_add]
      rw [if_pos (show topx x [] = 0 from rfl)]
      exact k0 _ (by rw [show popx x [] = 0 from rfl, List.replicate_zero, List.append_nil]; exact Y)
    | cons y S ih =>
      intro F hh Y l k0
      obtain ⟨fr, pe, rfl, s1, s2, f2, p2⟩ := id Y
      rw [List.length_cons] at l
      refine go 60 (by decide) ?_
      simp only [KX, KY, KZ, KW, KV, Nat.reduceAdd, Nat.reduceSub, Nat.reduceLeDiff, true_and, and_true, true_or, or_true, or_self, reduceCtorEq, if_true, if_false, not_false_eq_true, eq_self, c185, mt80, mt96, mt97, mtw, mtf, mtp, List.set_cons_succ, List.set_cons_zero, MFT, List.length_cons, List.length_nil, Nat.reduceLT, Nat.zero_add]
      refine y184 Y ?_
      refine go 60 (by decide) ?_
      simp only [KX, KY, KZ, KW, KV, Nat.reduceAdd, Nat.reduceSub, Nat.reduceLeDiff, true_and, and_true, true_or, or_true, or_self, reduceCtorEq, if_true, if_false, not_false_eq_true, eq_self, c185, mt80, mt96, mt97, mtw, mtf, mtp, List.set_cons_succ, List.set_cons_zero, MFT, List.length_cons, List.length_nil, Nat.reduceLT, Nat.zero_add]
      by_cases z : y = x
      · rw [if_neg (show ¬ topx x (y :: S) = 0 by show ¬ (if y = x then (1 : Int32) else 0) = 0; rw [if_pos z]; decide)]
        refine y182 Y (by omega) (fun h2 Y2 => ?_)
        obtain ⟨fr2, pe2, rfl, t1, t2, t3, t4⟩ := id Y2
        refine go 60 (by decide) ?_
        simp only [KX, KY, KZ, KW, KV, Nat.reduceAdd, Nat.reduceSub, Nat.reduceLeDiff, true_and, and_true, true_or, or_true, or_self, reduceCtorEq, if_true, if_false, not_false_eq_true, eq_self, c185, mt80, mt96, mt97, mtw, mtf, mtp, List.set_cons_succ, List.set_cons_zero, MFT, List.length_cons, List.length_nil, Nat.reduceLT, Nat.zero_add]
        have Y3 : MY hm b n k g o (F ++ [x]) S (MT hm b n k g (nI (F ++ [x]).length) (nI (S.length + 1) - 1) o fr2 pe2) := ⟨fr2, pe2, by rw [nI_pred], t1, seg_pre (by rw [List.reverse_cons] at t2; exact t2), t3, by rw [List.length_cons] at t4; omega⟩
        refine ih (F ++ [x]) _ Y3 (by rw [List.length_append]; show F.length + 1 + S.length ≤ 200; omega) (fun h3 Y4 => k0 h3 ?_)
        rw [show popx x (y :: S) = 1 + popx x S from if_pos z, Nat.add_comm, List.replicate_succ, List.drop_succ_cons]
        rw [List.append_assoc] at Y4
        exact Y4
      · rw [if_pos (show topx x (y :: S) = 0 from if_neg z)]
        exact k0 _ (by rw [show popx x (y :: S) = 0 from if_neg z, List.replicate_zero, List.append_nil]; exact Y)
  refine ma_enter (m := 185) (Or.inl (by decide)) (by show 2 ≤ mt_n 185; decide +kernel) ?_
  show At 185 Q 0 (mt_c 185) [some (.ref 80), some (.int x)] [] h
  exact lp S F h Y l k0
