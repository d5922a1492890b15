/-! act answers alike -/
def TR (T U : TT) : Prop := T.1 = U.1 ∧ ∀ j, j < T.1 → T.2 j = U.2 j
theorem tr_push {T U : TT} (h : TR T U) (b : Int32) : TR (push b T) (push b U) := by
  obtain ⟨h1, h2⟩ := h
  unfold push
  rw [← h1]
  split
  · refine ⟨rfl, fun j hj => ?_⟩
    have hj' : j < T.1 + 1 := hj
    show upd T.2 T.1 b j = upd U.2 T.1 b j
    unfold upd
    split
    · rfl
    · exact h2 j (by omega)
  · exact ⟨h1, h2⟩
theorem tr_gP {T U : TT} (h : TR T U) (i x : Int32) : (gP i x T).1 = (gP i x U).1 ∧ TR (gP i x T).2 (gP i x U).2 := ⟨rfl, tr_push h 10⟩
theorem tr_gA {T U : TT} (h : TR T U) (i x : Int32) : (gA i x T).1 = (gA i x U).1 ∧ TR (gA i x T).2 (gA i x U).2 := ⟨rfl, tr_push (tr_push h 40) 10⟩
theorem tr_gro {T U : TT} (h : TR T U) (kk : Nat) (i x : Int32) : (gro kk i x T).1 = (gro kk i x U).1 ∧ TR (gro kk i x T).2 (gro kk i x U).2 := by
  unfold gro
  split
  · exact ⟨rfl, tr_push (tr_push h 30) 10⟩
  · exact tr_gA h i x
  · exact ⟨rfl, tr_push (tr_push (tr_push h 51) 40) 10⟩
  · exact tr_gP h i x
theorem tr_tP {T U : TT} (h : TR T U) (kk : Nat) (i x : Int32) : (tP kk i x T).1 = (tP kk i x U).1 ∧ TR (tP kk i x T).2 (tP kk i x U).2 := by
  obtain ⟨a, b⟩ := tr_gro (tr_push h 11) kk i x
  exact ⟨by show _ * 2 = _ * 2; rw [a], b⟩
theorem tr_tL {T U : TT} (h : TR T U) (kk : Nat) (i a x : Int32) : (tL kk i a x T).1 = (tL kk i a x U).1 ∧ TR (tL kk i a x T).2 (tL kk i a x U).2 := by
  obtain ⟨c, b⟩ := tr_tP (tr_push h 20) kk i x
  exact ⟨by show _ - a = _ - a; rw [c], b⟩
theorem tr_tA {T U : TT} (h : TR T U) (kk : Nat) (i a x : Int32) : (tA kk i a x T).1 = (tA kk i a x U).1 ∧ TR (tA kk i a x T).2 (tA kk i a x U).2 := by
  obtain ⟨c, b⟩ := tr_tL (tr_push h 41) kk i a x
  obtain ⟨c2, b2⟩ := tr_gro b kk i i
  exact ⟨by show _ + _ = _ + _; rw [c, c2], b2⟩
theorem tr_tak {T U : TT} (h : TR T U) (kk : Nat) (i a x : Int32) : (tak kk i a x T).1 = (tak kk i a x U).1 ∧ TR (tak kk i a x T).2 (tak kk i a x U).2 := by
  unfold tak
  split
  · exact tr_tL h 1 i a x
  · exact tr_tA h 3 i a x
  · exact tr_tA h 4 i a x
  · exact tr_tP h _ i x
theorem tr_sha {T U : TT} (h : TR T U) (kk : Nat) (i a x : Int32) : (sha kk i a x T).1 = (sha kk i a x U).1 ∧ TR (sha kk i a x T).2 (sha kk i a x U).2 := by
  unfold sha
  split
  · exact ⟨rfl, tr_push (tr_push h 50) 12⟩
  · split
    · obtain ⟨c, b⟩ := tr_gro (tr_push (tr_push h 61) 12) 5 i a
      exact ⟨by show _ + _ = _ + _; rw [c], b⟩
    · exact ⟨rfl, tr_push (tr_push h 61) 12⟩
  · exact ⟨rfl, tr_push h 12⟩
theorem tr_lP {T U : TT} (h : TR T U) (kk : Nat) (i a x : Int32) : (lP kk i a x T).1 = (lP kk i a x U).1 ∧ TR (lP kk i a x T).2 (lP kk i a x U).2 := by
  obtain ⟨c, b⟩ := tr_tak (tr_push h 13) kk i a x
  exact ⟨by show _ ^^^ a = _ ^^^ a; rw [c], b⟩
theorem tr_tel {T U : TT} (h : TR T U) (kk : Nat) (i a x : Int32) : (tel kk i a x T).1 = (tel kk i a x U).1 ∧ TR (tel kk i a x T).2 (tel kk i a x U).2 := by
  unfold tel
  split
  · obtain ⟨c, b⟩ := tr_lP (tr_push h 31) 2 i a x
    exact ⟨by show _ + _ = _ + _; rw [c], tr_push b 12⟩
  · obtain ⟨c, b⟩ := tr_lP (tr_push h 60) 5 i a x
    exact ⟨by show _ * 2 = _ * 2; rw [c], b⟩
  · exact tr_lP h _ i a x
theorem sha_le {kk : Nat} {i a x : Int32} {T : TT} (h : T.1 ≤ 30) : (sha kk i a x T).2.1 ≤ 30 := by
  unfold sha
  split
  · exact push_le (push_le h)
  · split
    · exact gro_le (push_le (push_le h))
    · exact push_le (push_le h)
  · exact push_le h
theorem tel_le {kk : Nat} {i a x : Int32} {T : TT} (h : T.1 ≤ 30) : (tel kk i a x T).2.1 ≤ 30 := by
  unfold tel
  split
  · exact push_le (lP_le (i := i) (a := a) (x := x) (push_le h))
  · exact lP_le (i := i) (a := a) (x := x) (push_le h)
  · exact lP_le (i := i) (a := a) (x := x) h
/-- the four acts -/
def acv (y kk : Nat) (i a x : Int32) (T : TT) : Int32 × TT := match y with
  | 0 => gro kk i x T
  | 1 => tak kk i a x T
  | 2 => sha kk i a x T
  | _ => tel kk i a x T
def acp (y kk : Nat) (i a : Int32) : Int32 := match y with
  | 0 => 0
  | 1 => 0
  | 2 => sPp i a
  | _ => telp kk i a
theorem tr_acv {T U : TT} (h : TR T U) (y kk : Nat) (i a x : Int32) : (acv y kk i a x T).1 = (acv y kk i a x U).1 ∧ TR (acv y kk i a x T).2 (acv y kk i a x U).2 := by
  unfold acv
  split
  · exact tr_gro h kk i x
  · exact tr_tak h kk i a x
  · exact tr_sha h kk i a x
  · exact tr_tel h kk i a x
theorem acv_le {y kk : Nat} {i a x : Int32} {T : TT} (h : T.1 ≤ 30) : (acv y kk i a x T).2.1 ≤ 30 := by
  unfold acv
  split
  · exact gro_le h
  · exact tak_le h
  · exact sha_le h
  · exact tel_le h
def actv (v p : Int32) : Int32 := if p = 0 then v else -15
theorem hb_0 {h : ma_H} (H : Sh h) : ma_set h 27 (.inr (9, [.ref 28, .int 0, .int 0])) = hb h (0, ai h 28) 0 := by
  unfold hb
  rw [ma_set_id (H.e28)]
  rfl
theorem hb_sh {h : ma_H} (H : Sh h) (T : TT) (p : Int32) : Sh (hb h T p) := sh_set (sh_set H rfl) rfl
theorem s140n {h : ma_H} {Q : ma_Q} {s y x : Int32} (H : Sh h) (G : ∀ Q : ma_Q, Q (some .null) (hb h (0, ai h 28) 0) → ma_X 152 [.ref 0, .int s] (hb h (0, ai h 28) 0) Q) (k : Q (some (.int 0)) (hb h (0, ai h 28) 0)) : ma_X 140 [.ref 0, .int s, .int y, .int x] h Q := by
  refine ma_enter (m := 140) (Or.inl (by decide)) (by show 4 ≤ mt_n 140; decide +kernel) ?_
  show At 140 Q 0 (0, 0) [some (.ref 0), some (.int s), some (.int y), some (.int x), none, none] [] h
  refine go 60 (by decide) ?_
  simp only [KX, KY, KZ, KW, KV, Nat.reduceAdd, Nat.reduceSub, Nat.reduceLeDiff, true_and, and_true, true_or, or_true, or_self, reduceCtorEq, if_true, if_false, not_false_eq_true, eq_self, c140, H.e0, H.e27]
  refine s92 H.e27 ?_
  rw [hb_0 H]
  refine go 60 (by decide) ?_
  simp only [KX, KY, KZ, KW, KV, Nat.reduceAdd, Nat.reduceSub, Nat.reduceLeDiff, true_and, and_true, true_or, or_true, or_self, reduceCtorEq, if_true, if_false, not_false_eq_true, eq_self, c140, (hb_sh H _ _).e0]
  refine G _ ?_
  refine go 60 (by decide) ?_
  simp only [KX, KY, KZ, KW, KV, Nat.reduceAdd, Nat.reduceSub, Nat.reduceLeDiff, true_and, and_true, true_or, or_true, or_self, reduceCtorEq, if_true, if_false, not_false_eq_true, eq_self, c140]
  exact k
theorem s140o {h : ma_H} {Q : ma_Q} {s y x : Int32} (H : Sh h) (o : y < 0 ∨ ¬ y ≤ 3) {r kk : Nat} {i a : Int32} (r115 : 115 ≤ r) (hk : kk < 6) (e : h.2.1 r = .inr (g_cls kk, [.int (nI kk), .int i, .int a, .ref 27])) (G : ∀ Q : ma_Q, Q (some (.ref r)) (hb h (0, ai h 28) 0) → ma_X 152 [.ref 0, .int s] (hb h (0, ai h 28) 0) Q) (k : Q (some (.int 0)) (hb h (0, ai h 28) 0)) : ma_X 140 [.ref 0, .int s, .int y, .int x] h Q := by
  refine ma_enter (m := 140) (Or.inl (by decide)) (by show 4 ≤ mt_n 140; decide +kernel) ?_
  show At 140 Q 0 (0, 0) [some (.ref 0), some (.int s), some (.int y), some (.int x), none, none] [] h
  refine go 60 (by decide) ?_
  simp only [KX, KY, KZ, KW, KV, Nat.reduceAdd, Nat.reduceSub, Nat.reduceLeDiff, true_and, and_true, true_or, or_true, or_self, reduceCtorEq, if_true, if_false, not_false_eq_true, eq_self, c140, H.e0, H.e27]
  refine s92 H.e27 ?_
  rw [hb_0 H]
  refine go 60 (by decide) ?_
  simp only [KX, KY, KZ, KW, KV, Nat.reduceAdd, Nat.reduceSub, Nat.reduceLeDiff, true_and, and_true, true_or, or_true, or_self, reduceCtorEq, if_true, if_false, not_false_eq_true, eq_self, c140, (hb_sh H _ _).e0]
  refine G _ ?_
  refine go 60 (by decide) ?_
  simp only [KX, KY, KZ, KW, KV, Nat.reduceAdd, Nat.reduceSub, Nat.reduceLeDiff, true_and, and_true, true_or, or_true, or_self, reduceCtorEq, if_true, if_false, not_false_eq_true, eq_self, c140, (hb_sh H _ _).e0, hb_27, tb_0_3 o]
  exact k
theorem s140_0 {h : ma_H} {Q : ma_Q} {s x : Int32} (H : Sh h) {r kk : Nat} {i a : Int32} (r115 : 115 ≤ r) (hk : kk < 6) (e : h.2.1 r = .inr (g_cls kk, [.int (nI kk), .int i, .int a, .ref 27])) (G : ∀ Q : ma_Q, Q (some (.ref r)) (hb h (0, ai h 28) 0) → ma_X 152 [.ref 0, .int s] (hb h (0, ai h 28) 0) Q) (k : Q (some (.int (actv (acv 0 kk i a x (0, ai h 28)).1 (acp 0 kk i a)))) (hb h (acv 0 kk i a x (0, ai h 28)).2 (acp 0 kk i a))) : ma_X 140 [.ref 0, .int s, .int 0, .int x] h Q := by
  refine ma_enter (m := 140) (Or.inl (by decide)) (by show 4 ≤ mt_n 140; decide +kernel) ?_
  show At 140 Q 0 (0, 0) [some (.ref 0), some (.int s), some (.int 0), some (.int x), none, none] [] h
  refine go 60 (by decide) ?_
  simp only [KX, KY, KZ, KW, KV, Nat.reduceAdd, Nat.reduceSub, Nat.reduceLeDiff, true_and, and_true, true_or, or_true, or_self, reduceCtorEq, if_true, if_false, not_false_eq_true, eq_self, c140, H.e0, H.e27]
  refine s92 H.e27 ?_
  rw [hb_0 H]
  refine go 60 (by decide) ?_
  simp only [KX, KY, KZ, KW, KV, Nat.reduceAdd, Nat.reduceSub, Nat.reduceLeDiff, true_and, and_true, true_or, or_true, or_self, reduceCtorEq, if_true, if_false, not_false_eq_true, eq_self, c140, (hb_sh H _ _).e0]
  have d : ∀ v : Int32, actv v (acp 0 kk i a) = if acp 0 kk i a = 0 then v else -15 := fun _ => rfl
  have he : ∀ T p, (hb h T p).2.1 r = _ := fun T p => (hb_ne h T p (by omega) (by omega)).trans e
  refine G _ ?_
  refine go 60 (by decide) ?_
  simp only [KX, KY, KZ, KW, KV, Nat.reduceAdd, Nat.reduceSub, Nat.reduceLeDiff, true_and, and_true, true_or, or_true, or_self, reduceCtorEq, if_true, if_false, not_false_eq_true, eq_self, c140, (hb_sh H _ _).e0, hb_27, he, (vtB kk hk).1, (vtB kk hk).2.2.2.2.1, ts_0_3_0, tz_0_3_0, List.getD_cons_zero, List.getD_cons_succ]
  refine sgro (show r ≠ 27 by omega) (show r ≠ 28 by omega) hk e (Nat.zero_le _) ?_
  refine go 60 (by decide) ?_
  simp only [KX, KY, KZ, KW, KV, Nat.reduceAdd, Nat.reduceSub, Nat.reduceLeDiff, true_and, and_true, true_or, or_true, or_self, reduceCtorEq, if_true, if_false, not_false_eq_true, eq_self, c140, (hb_sh H _ _).e0, hb_27]
  exact k
theorem s140_1 {h : ma_H} {Q : ma_Q} {s x : Int32} (H : Sh h) {r kk : Nat} {i a : Int32} (r115 : 115 ≤ r) (hk : kk < 6) (e : h.2.1 r = .inr (g_cls kk, [.int (nI kk), .int i, .int a, .ref 27])) (G : ∀ Q : ma_Q, Q (some (.ref r)) (hb h (0, ai h 28) 0) → ma_X 152 [.ref 0, .int s] (hb h (0, ai h 28) 0) Q) (k : Q (some (.int (actv (acv 1 kk i a x (0, ai h 28)).1 (acp 1 kk i a)))) (hb h (acv 1 kk i a x (0, ai h 28)).2 (acp 1 kk i a))) : ma_X 140 [.ref 0, .int s, .int 1, .int x] h Q := by
  refine ma_enter (m := 140) (Or.inl (by decide)) (by show 4 ≤ mt_n 140; decide +kernel) ?_
  show At 140 Q 0 (0, 0) [some (.ref 0), some (.int s), some (.int 1), some (.int x), none, none] [] h
  refine go 60 (by decide) ?_
  simp only [KX, KY, KZ, KW, KV, Nat.reduceAdd, Nat.reduceSub, Nat.reduceLeDiff, true_and, and_true, true_or, or_true, or_self, reduceCtorEq, if_true, if_false, not_false_eq_true, eq_self, c140, H.e0, H.e27]
  refine s92 H.e27 ?_
  rw [hb_0 H]
  refine go 60 (by decide) ?_
  simp only [KX, KY, KZ, KW, KV, Nat.reduceAdd, Nat.reduceSub, Nat.reduceLeDiff, true_and, and_true, true_or, or_true, or_self, reduceCtorEq, if_true, if_false, not_false_eq_true, eq_self, c140, (hb_sh H _ _).e0]
  have d : ∀ v : Int32, actv v (acp 1 kk i a) = if acp 1 kk i a = 0 then v else -15 := fun _ => rfl
  have he : ∀ T p, (hb h T p).2.1 r = _ := fun T p => (hb_ne h T p (by omega) (by omega)).trans e
  refine G _ ?_
  refine go 60 (by decide) ?_
  simp only [KX, KY, KZ, KW, KV, Nat.reduceAdd, Nat.reduceSub, Nat.reduceLeDiff, true_and, and_true, true_or, or_true, or_self, reduceCtorEq, if_true, if_false, not_false_eq_true, eq_self, c140, (hb_sh H _ _).e0, hb_27, he, (vtB kk hk).2.1, (vtB kk hk).2.2.2.2.2.1, ts_0_3_1, tz_0_3_1, List.getD_cons_zero, List.getD_cons_succ]
  refine stak (show r ≠ 27 by omega) (show r ≠ 28 by omega) hk e (Nat.zero_le _) ?_
  refine go 60 (by decide) ?_
  simp only [KX, KY, KZ, KW, KV, Nat.reduceAdd, Nat.reduceSub, Nat.reduceLeDiff, true_and, and_true, true_or, or_true, or_self, reduceCtorEq, if_true, if_false, not_false_eq_true, eq_self, c140, (hb_sh H _ _).e0, hb_27]
  exact k
theorem s140_2 {h : ma_H} {Q : ma_Q} {s x : Int32} (H : Sh h) {r kk : Nat} {i a : Int32} (r115 : 115 ≤ r) (hk : kk < 6) (e : h.2.1 r = .inr (g_cls kk, [.int (nI kk), .int i, .int a, .ref 27])) (G : ∀ Q : ma_Q, Q (some (.ref r)) (hb h (0, ai h 28) 0) → ma_X 152 [.ref 0, .int s] (hb h (0, ai h 28) 0) Q) (k : Q (some (.int (actv (acv 2 kk i a x (0, ai h 28)).1 (acp 2 kk i a)))) (hb h (acv 2 kk i a x (0, ai h 28)).2 (acp 2 kk i a))) : ma_X 140 [.ref 0, .int s, .int 2, .int x] h Q := by
  refine ma_enter (m := 140) (Or.inl (by decide)) (by show 4 ≤ mt_n 140; decide +kernel) ?_
  show At 140 Q 0 (0, 0) [some (.ref 0), some (.int s), some (.int 2), some (.int x), none, none] [] h
  refine go 60 (by decide) ?_
  simp only [KX, KY, KZ, KW, KV, Nat.reduceAdd, Nat.reduceSub, Nat.reduceLeDiff, true_and, and_true, true_or, or_true, or_self, reduceCtorEq, if_true, if_false, not_false_eq_true, eq_self, c140, H.e0, H.e27]
  refine s92 H.e27 ?_
  rw [hb_0 H]
  refine go 60 (by decide) ?_
  simp only [KX, KY, KZ, KW, KV, Nat.reduceAdd, Nat.reduceSub, Nat.reduceLeDiff, true_and, and_true, true_or, or_true, or_self, reduceCtorEq, if_true, if_false, not_false_eq_true, eq_self, c140, (hb_sh H _ _).e0]
  have d : ∀ v : Int32, actv v (acp 2 kk i a) = if acp 2 kk i a = 0 then v else -15 := fun _ => rfl
  have he : ∀ T p, (hb h T p).2.1 r = _ := fun T p => (hb_ne h T p (by omega) (by omega)).trans e
  refine G _ ?_
  refine go 60 (by decide) ?_
  simp only [KX, KY, KZ, KW, KV, Nat.reduceAdd, Nat.reduceSub, Nat.reduceLeDiff, true_and, and_true, true_or, or_true, or_self, reduceCtorEq, if_true, if_false, not_false_eq_true, eq_self, c140, (hb_sh H _ _).e0, hb_27, he, (vtB kk hk).2.2.1, (vtB kk hk).2.2.2.2.2.2.1, ts_0_3_2, tz_0_3_2, List.getD_cons_zero, List.getD_cons_succ]
  refine ssha (show r ≠ 27 by omega) (show r ≠ 28 by omega) hk e (Nat.zero_le _) ?_
  refine go 60 (by decide) ?_
  simp only [KX, KY, KZ, KW, KV, Nat.reduceAdd, Nat.reduceSub, Nat.reduceLeDiff, true_and, and_true, true_or, or_true, or_self, reduceCtorEq, if_true, if_false, not_false_eq_true, eq_self, c140, (hb_sh H _ _).e0, hb_27]
  by_cases z : acp 2 kk i a = 0
  · rw [if_pos (show (sPp i a) = 0 from z)]
    rw [d, if_pos z] at k
    exact k
  · rw [if_neg (show ¬ (sPp i a) = 0 from z)]
    rw [d, if_neg z] at k
    exact k
theorem s140_3 {h : ma_H} {Q : ma_Q} {s x : Int32} (H : Sh h) {r kk : Nat} {i a : Int32} (r115 : 115 ≤ r) (hk : kk < 6) (e : h.2.1 r = .inr (g_cls kk, [.int (nI kk), .int i, .int a, .ref 27])) (G : ∀ Q : ma_Q, Q (some (.ref r)) (hb h (0, ai h 28) 0) → ma_X 152 [.ref 0, .int s] (hb h (0, ai h 28) 0) Q) (k : Q (some (.int (actv (acv 3 kk i a x (0, ai h 28)).1 (acp 3 kk i a)))) (hb h (acv 3 kk i a x (0, ai h 28)).2 (acp 3 kk i a))) : ma_X 140 [.ref 0, .int s, .int 3, .int x] h Q := by
  refine ma_enter (m := 140) (Or.inl (by decide)) (by show 4 ≤ mt_n 140; decide +kernel) ?_
  show At 140 Q 0 (0, 0) [some (.ref 0), some (.int s), some (.int 3), some (.int x), none, none] [] h
  refine go 60 (by decide) ?_
  simp only [KX, KY, KZ, KW, KV, Nat.reduceAdd, Nat.reduceSub, Nat.reduceLeDiff, true_and, and_true, true_or, or_true, or_self, reduceCtorEq, if_true, if_false, not_false_eq_true, eq_self, c140, H.e0, H.e27]
  refine s92 H.e27 ?_
  rw [hb_0 H]
  refine go 60 (by decide) ?_
  simp only [KX, KY, KZ, KW, KV, Nat.reduceAdd, Nat.reduceSub, Nat.reduceLeDiff, true_and, and_true, true_or, or_true, or_self, reduceCtorEq, if_true, if_false, not_false_eq_true, eq_self, c140, (hb_sh H _ _).e0]
  have d : ∀ v : Int32, actv v (acp 3 kk i a) = if acp 3 kk i a = 0 then v else -15 := fun _ => rfl
  have he : ∀ T p, (hb h T p).2.1 r = _ := fun T p => (hb_ne h T p (by omega) (by omega)).trans e
  refine G _ ?_
  refine go 60 (by decide) ?_
  simp only [KX, KY, KZ, KW, KV, Nat.reduceAdd, Nat.reduceSub, Nat.reduceLeDiff, true_and, and_true, true_or, or_true, or_self, reduceCtorEq, if_true, if_false, not_false_eq_true, eq_self, c140, (hb_sh H _ _).e0, hb_27, he, (vtB kk hk).2.2.2.1, (vtB kk hk).2.2.2.2.2.2.2.1, ts_0_3_3, tz_0_3_3, List.getD_cons_zero, List.getD_cons_succ]
  refine stel (show r ≠ 27 by omega) (show r ≠ 28 by omega) hk e (Nat.zero_le _) ?_
  refine go 60 (by decide) ?_
  simp only [KX, KY, KZ, KW, KV, Nat.reduceAdd, Nat.reduceSub, Nat.reduceLeDiff, true_and, and_true, true_or, or_true, or_self, reduceCtorEq, if_true, if_false, not_false_eq_true, eq_self, c140, (hb_sh H _ _).e0, hb_27]
  by_cases z : acp 3 kk i a = 0
  · rw [if_pos (show (telp kk i a) = 0 from z)]
    rw [d, if_pos z] at k
    exact k
  · rw [if_neg (show ¬ (telp kk i a) = 0 from z)]
    rw [d, if_neg z] at k
    exact k
