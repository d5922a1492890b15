/-! a heap as a list of cells; small constructors -/
/-- the heap that holds these cells and no others -/
def HL (sc : Nat × (Nat → Int32)) (l : List ma_C) : ma_H := (l.length, fun q => l.getD q ma_no, sc)
theorem hl_new {sc : Nat × (Nat → Int32)} {l : List ma_C} {c : ma_C} : ma_new (HL sc l) c = HL sc (l ++ [c]) := by
  refine Prod.ext ?_ (Prod.ext (funext fun q => ?_) rfl)
  · show l.length + 1 = (l ++ [c]).length
    rw [List.length_append]
    rfl
  · show (if q = l.length then c else l.getD q ma_no) = (l ++ [c]).getD q ma_no
    rw [List.getD_eq_getElem?_getD, List.getD_eq_getElem?_getD]
    by_cases e : q = l.length
    · rw [if_pos e, e, List.getElem?_append_right (Nat.le_refl _), Nat.sub_self]
      rfl
    · rw [if_neg e]
      rcases Nat.lt_or_ge q l.length with w | w
      · rw [List.getElem?_append_left w]
      · rw [List.getElem?_eq_none w, List.getElem?_eq_none (by rw [List.length_append]; show l.length + 1 ≤ q; omega)]
theorem hl_set {sc : Nat × (Nat → Int32)} {l : List ma_C} {a : Nat} {c : ma_C} (h : a < l.length) : ma_set (HL sc l) a c = HL sc (l.set a c) := by
  refine Prod.ext ?_ (Prod.ext (funext fun q => ?_) rfl)
  · show l.length = (l.set a c).length
    rw [List.length_set]
  · show (if q = a then c else l.getD q ma_no) = (l.set a c).getD q ma_no
    rw [List.getD_eq_getElem?_getD, List.getD_eq_getElem?_getD]
    by_cases e : q = a
    · rw [if_pos e, e, List.getElem?_set_self h]
      rfl
    · rw [if_neg e, List.getElem?_set_ne (Ne.symm e)]
theorem hl_n {sc : Nat × (Nat → Int32)} {pre s : List ma_C} {c : ma_C} : ma_new (HL sc (pre ++ s)) c = HL sc (pre ++ (s ++ [c])) := by
  rw [hl_new, List.append_assoc]
theorem hl_s0 {sc : Nat × (Nat → Int32)} {pre s : List ma_C} {x c : ma_C} : ma_set (HL sc (pre ++ x :: s)) pre.length c = HL sc (pre ++ c :: s) := by
  rw [hl_set (by rw [List.length_append, List.length_cons]; omega), List.set_append_right _ _ (Nat.le_refl _), Nat.sub_self]
  rfl
theorem hl_sj {sc : Nat × (Nat → Int32)} {pre s : List ma_C} {j : Nat} {c : ma_C} (h : j < s.length) : ma_set (HL sc (pre ++ s)) (pre.length + j) c = HL sc (pre ++ s.set j c) := by
  rw [hl_set (by rw [List.length_append]; omega), List.set_append_right _ _ (Nat.le_add_right _ _), Nat.add_sub_cancel_left]
theorem hl_a0 {sc : Nat × (Nat → Int32)} {pre s : List ma_C} {x : ma_C} : (HL sc (pre ++ x :: s)).2.1 pre.length = x := by
  show (pre ++ x :: s).getD pre.length ma_no = x
  rw [List.getD_eq_getElem?_getD, List.getElem?_append_right (Nat.le_refl _), Nat.sub_self]
  rfl
theorem hl_aj {sc : Nat × (Nat → Int32)} {pre s : List ma_C} {j : Nat} : (HL sc (pre ++ s)).2.1 (pre.length + j) = s.getD j ma_no := by
  show (pre ++ s).getD (pre.length + j) ma_no = _
  rw [List.getD_eq_getElem?_getD, List.getD_eq_getElem?_getD, List.getElem?_append_right (Nat.le_add_right _ _), Nat.add_sub_cancel_left]
theorem hl_1 {sc : Nat × (Nat → Int32)} {pre s : List ma_C} : (HL sc (pre ++ s)).1 = pre.length + s.length := List.length_append
/-- a row of n zeros -/
def zI (n : Nat) : ma_C := .inl (.int, n, .inl fun _ => 0)
theorem KN : (Int32.toNatClampNeg 2 = 2 ∧ Int32.toNatClampNeg 4 = 4 ∧ Int32.toNatClampNeg 6 = 6 ∧ Int32.toNatClampNeg 8 = 8 ∧ Int32.toNatClampNeg 12 = 12 ∧ Int32.toNatClampNeg 24 = 24 ∧ Int32.toNatClampNeg 30 = 30 ∧ Int32.toNatClampNeg 40 = 40 ∧ Int32.toNatClampNeg 48 = 48 ∧ Int32.toNatClampNeg 91 = 91 ∧ Int32.toNatClampNeg 100 = 100 ∧ Int32.toNatClampNeg 160 = 160 ∧ Int32.toNatClampNeg 169 = 169 ∧ Int32.toNatClampNeg 200 = 200 ∧ Int32.toNatClampNeg 201 = 201 ∧ Int32.toNatClampNeg 216 = 216 ∧ Int32.toNatClampNeg 259 = 259 ∧ Int32.toNatClampNeg 546 = 546 ∧ Int32.toNatClampNeg 700 = 700 ∧ Int32.toNatClampNeg 910 = 910) ∧ (((2 : Int32) = nI 2) = True ∧ ((4 : Int32) = nI 4) = True ∧ ((6 : Int32) = nI 6) = True ∧ ((8 : Int32) = nI 8) = True ∧ ((12 : Int32) = nI 12) = True ∧ ((24 : Int32) = nI 24) = True ∧ ((30 : Int32) = nI 30) = True ∧ ((40 : Int32) = nI 40) = True ∧ ((48 : Int32) = nI 48) = True ∧ ((91 : Int32) = nI 91) = True ∧ ((100 : Int32) = nI 100) = True ∧ ((160 : Int32) = nI 160) = True ∧ ((169 : Int32) = nI 169) = True ∧ ((200 : Int32) = nI 200) = True ∧ ((201 : Int32) = nI 201) = True ∧ ((216 : Int32) = nI 216) = True ∧ ((259 : Int32) = nI 259) = True ∧ ((546 : Int32) = nI 546) = True ∧ ((700 : Int32) = nI 700) = True ∧ ((910 : Int32) = nI 910) = True) ∧ (Int32.toNatClampNeg (nI 91) = 91 ∧ Int32.toNatClampNeg 0 = 0 ∧ Int32.toNatClampNeg 1 = 1 ∧ Int32.toNatClampNeg 3 = 3 ∧ ct_R 2 = "FlakeArms$Flake" ∧ ct_R 3 = "FlakeArms$Growth" ∧ vp_in 0 4 = True ∧ vp_in 1 4 = True ∧ vp_in 2 4 = True ∧ vp_in 3 4 = True) := ⟨⟨rfl, rfl, rfl, rfl, rfl, rfl, rfl, rfl, rfl, rfl, rfl, rfl, rfl, rfl, rfl, rfl, rfl, rfl, rfl, rfl⟩, ⟨eq_true rfl, eq_true rfl, eq_true rfl, eq_true rfl, eq_true rfl, eq_true rfl, eq_true rfl, eq_true rfl, eq_true rfl, eq_true rfl, eq_true rfl, eq_true rfl, eq_true rfl, eq_true rfl, eq_true rfl, eq_true rfl, eq_true rfl, eq_true rfl, eq_true rfl, eq_true rfl⟩, ⟨rfl, rfl, rfl, rfl, rfl, rfl, eq_true (show ¬ ((0 : Int32) < 0 ∨ 4 ≤ Int32.toNatClampNeg 0) by decide), eq_true (show ¬ ((1 : Int32) < 0 ∨ 4 ≤ Int32.toNatClampNeg 1) by decide), eq_true (show ¬ ((2 : Int32) < 0 ∨ 4 ≤ Int32.toNatClampNeg 2) by decide), eq_true (show ¬ ((3 : Int32) < 0 ∨ 4 ≤ Int32.toNatClampNeg 3) by decide)⟩⟩
theorem FT4 : (∀ a, me_fit (ct_ty 4 1) (.ref a) = True) ∧ (∀ a, me_fit (ct_ty 4 2) (.ref a) = True) ∧ (∀ a, me_fit (ct_ty 4 3) (.ref a) = True) := ⟨fun _ => eq_true trivial, fun _ => eq_true trivial, fun _ => eq_true trivial⟩
theorem FT5 : (∀ a, me_fit (ct_ty 5 0) (.ref a) = True) ∧ (∀ a, me_fit (ct_ty 5 2) (.ref a) = True) ∧ (∀ a, me_fit (ct_ty 5 3) (.ref a) = True) ∧ (∀ a, me_fit (ct_ty 5 4) (.ref a) = True) := ⟨fun _ => eq_true trivial, fun _ => eq_true trivial, fun _ => eq_true trivial, fun _ => eq_true trivial⟩
theorem FT10 : (∀ a, me_fit (ct_ty 10 0) (.ref a) = True) ∧ (∀ a, me_fit (ct_ty 10 1) (.ref a) = True) ∧ (∀ a, me_fit (ct_ty 10 3) (.ref a) = True) ∧ (∀ a, me_fit (ct_ty 10 4) (.ref a) = True) ∧ (∀ a, me_fit (ct_ty 10 5) (.ref a) = True) ∧ (∀ x, me_fit (ct_ty 10 7) (.int x) = True) ∧ (∀ a, me_fit (ct_ty 10 8) (.ref a) = True) ∧ (∀ a, me_fit (ct_ty 10 9) (.ref a) = True) := ⟨fun _ => eq_true trivial, fun _ => eq_true trivial, fun _ => eq_true trivial, fun _ => eq_true trivial, fun _ => eq_true trivial, fun _ => eq_true trivial, fun _ => eq_true trivial, fun _ => eq_true trivial⟩
theorem FT11 : (∀ a, me_fit (ct_ty 11 0) (.ref a) = True) ∧ (∀ a, me_fit (ct_ty 11 1) (.ref a) = True) ∧ (∀ a, me_fit (ct_ty 11 3) (.ref a) = True) ∧ (∀ a, me_fit (ct_ty 11 5) (.ref a) = True) ∧ (∀ a, me_fit (ct_ty 11 6) (.ref a) = True) ∧ (∀ a, me_fit (ct_ty 11 7) (.ref a) = True) ∧ (∀ a, me_fit (ct_ty 11 9) (.ref a) = True) ∧ (∀ a, me_fit (ct_ty 11 10) (.ref a) = True) ∧ (∀ a, me_fit (ct_ty 11 11) (.ref a) = True) ∧ (∀ a, me_fit (ct_ty 11 12) (.ref a) = True) ∧ (∀ a, me_fit (ct_ty 11 13) (.ref a) = True) ∧ (∀ a, me_fit (ct_ty 11 14) (.ref a) = True) ∧ (∀ a, me_fit (ct_ty 11 15) (.ref a) = True) ∧ (∀ a, me_fit (ct_ty 11 16) (.ref a) = True) ∧ (∀ a, me_fit (ct_ty 11 17) (.ref a) = True) := ⟨fun _ => eq_true trivial, fun _ => eq_true trivial, fun _ => eq_true trivial, fun _ => eq_true trivial, fun _ => eq_true trivial, fun _ => eq_true trivial, fun _ => eq_true trivial, fun _ => eq_true trivial, fun _ => eq_true trivial, fun _ => eq_true trivial, fun _ => eq_true trivial, fun _ => eq_true trivial, fun _ => eq_true trivial, fun _ => eq_true trivial, fun _ => eq_true trivial⟩
theorem FT12 : (∀ a, me_fit (ct_ty 12 0) (.ref a) = True) ∧ (∀ a, me_fit (ct_ty 12 1) (.ref a) = True) ∧ (∀ a, me_fit (ct_ty 12 2) (.ref a) = True) ∧ (∀ a, me_fit (ct_ty 12 3) (.ref a) = True) ∧ (∀ a, me_fit (ct_ty 12 4) (.ref a) = True) ∧ (∀ a, me_fit (ct_ty 12 5) (.ref a) = True) ∧ (∀ a, me_fit (ct_ty 12 6) (.ref a) = True) ∧ (∀ a, me_fit (ct_ty 12 7) (.ref a) = True) ∧ (∀ a, me_fit (ct_ty 12 8) (.ref a) = True) ∧ (∀ a, me_fit (ct_ty 12 10) (.ref a) = True) ∧ (∀ a, me_fit (ct_ty 12 13) (.ref a) = True) ∧ (∀ a, me_fit (ct_ty 12 15) (.ref a) = True) ∧ (∀ a, me_fit (ct_ty 12 16) (.ref a) = True) ∧ (∀ a, me_fit (ct_ty 12 17) (.ref a) = True) ∧ (∀ a, me_fit (ct_ty 12 25) (.ref a) = True) ∧ (∀ a, me_fit (ct_ty 12 26) (.ref a) = True) ∧ (∀ a, me_fit (ct_ty 12 27) (.ref a) = True) ∧ (∀ a, me_fit (ct_ty 12 31) (.ref a) = True) ∧ (∀ a, me_fit (ct_ty 12 32) (.ref a) = True) ∧ (∀ a, me_fit (ct_ty 12 33) (.ref a) = True) ∧ (∀ a, me_fit (ct_ty 12 34) (.ref a) = True) ∧ (∀ a, me_fit (ct_ty 12 37) (.ref a) = True) ∧ (∀ a, me_fit (ct_ty 12 38) (.ref a) = True) ∧ (∀ a, me_fit (ct_ty 12 39) (.ref a) = True) ∧ (∀ a, me_fit (ct_ty 12 40) (.ref a) = True) ∧ (∀ a, me_fit (ct_ty 12 43) (.ref a) = True) ∧ (∀ a, me_fit (ct_ty 12 44) (.ref a) = True) ∧ (∀ a, me_fit (ct_ty 12 45) (.ref a) = True) ∧ (∀ a, me_fit (ct_ty 12 46) (.ref a) = True) ∧ (∀ a, me_fit (ct_ty 12 47) (.ref a) = True) ∧ (∀ a, me_fit (ct_ty 12 48) (.ref a) = True) ∧ (∀ a, me_fit (ct_ty 12 52) (.ref a) = True) ∧ (∀ a, me_fit (ct_ty 12 56) (.ref a) = True) ∧ (∀ a, me_fit (ct_ty 12 58) (.ref a) = True) ∧ (∀ x, me_fit (ct_ty 12 12) (.int x) = True) := ⟨fun _ => eq_true trivial, fun _ => eq_true trivial, fun _ => eq_true trivial, fun _ => eq_true trivial, fun _ => eq_true trivial, fun _ => eq_true trivial, fun _ => eq_true trivial, fun _ => eq_true trivial, fun _ => eq_true trivial, fun _ => eq_true trivial, fun _ => eq_true trivial, fun _ => eq_true trivial, fun _ => eq_true trivial, fun _ => eq_true trivial, fun _ => eq_true trivial, fun _ => eq_true trivial, fun _ => eq_true trivial, fun _ => eq_true trivial, fun _ => eq_true trivial, fun _ => eq_true trivial, fun _ => eq_true trivial, fun _ => eq_true trivial, fun _ => eq_true trivial, fun _ => eq_true trivial, fun _ => eq_true trivial, fun _ => eq_true trivial, fun _ => eq_true trivial, fun _ => eq_true trivial, fun _ => eq_true trivial, fun _ => eq_true trivial, fun _ => eq_true trivial, fun _ => eq_true trivial, fun _ => eq_true trivial, fun _ => eq_true trivial, fun _ => eq_true trivial⟩
theorem CD : ct_d 4 = [.int 0, .null, .null, .null, .int 0] ∧ ct_N 4 = 5 ∧ ct_d 2 = [.int 0, .null, .null] ∧ ct_N 2 = 3 ∧ ct_d 5 = [.null, .int 0, .null, .null, .null, .int 0, .null] ∧ ct_N 5 = 7 ∧ ct_d 9 = [.null, .int 0, .int 0] ∧ ct_N 9 = 3 ∧ ct_d 10 = [.null, .null, .int 0, .null, .null, .null, .int 0, .int 0, .null, .null] ∧ ct_N 10 = 10 ∧ mt_c 8 = (2, 338) ∧ mt_c 51 = (3, 216) ∧ mt_c 62 = (4, 803) ∧ mt_c 91 = (1, 30) ∧ mt_c 93 = (22, 1740) := ⟨rfl, rfl, rfl, rfl, rfl, rfl, rfl, rfl, rfl, rfl, rfl, rfl, rfl, rfl, rfl⟩
/-- a new LAW, a new reader -/
def lawC (n : Nat) : List ma_C := [.inr (4, [.int 0, .ref (n + 1), .ref (n + 2), .ref (n + 3), .int 0]), zI 8, zI 8, zI 200]
def rdrC (n : Nat) : List ma_C := [.inr (5, [.ref (n + 1), .int 0, .ref (n + 2), .ref (n + 3), .ref (n + 4), .int 0, .null]), .inl (.byte, 200, .inl fun _ => 0), zI 201, zI 201, zI 201]
theorem n51 {sc : Nat × (Nat → Int32)} {pre l : List ma_C} {n : Nat} {Q : ma_Q} (e : l = pre ++ [.inr (4, [.int 0, .null, .null, .null, .int 0])]) (en : pre.length = n) (k : Q none (HL sc (pre ++ lawC n))) : ma_X 51 [.ref n] (HL sc l) Q := by
  subst e
  subst en
  refine ma_enter (m := 51) (Or.inl (by decide)) (by show 1 ≤ mt_n 51; decide +kernel) ?_
  show At 51 Q 0 (3, 216) [some (.ref pre.length)] [] (HL sc (pre ++ [.inr (4, [.int 0, .null, .null, .null, .int 0])]))
  refine go 60 (by decide) ?_
  simp only [KX, KY, KZ, KW, KV, Nat.reduceAdd, Nat.reduceSub, Nat.reduceLeDiff, true_and, and_true, true_or, or_true, or_self, reduceCtorEq, if_true, if_false, not_false_eq_true, eq_self, c51, KN, FT4, hl_n, hl_s0, hl_sj, hl_a0, hl_aj, hl_1, List.cons_append, List.nil_append, List.set_cons_succ, List.set_cons_zero, List.getD_cons_zero, List.getD_cons_succ, Nat.add_zero, Nat.add_assoc, List.length_cons, List.length_nil, Nat.reduceLT, Nat.zero_add]
  exact k
theorem n62 {sc : Nat × (Nat → Int32)} {pre l : List ma_C} {n : Nat} {Q : ma_Q} (e : l = pre ++ [.inr (5, [.null, .int 0, .null, .null, .null, .int 0, .null])]) (en : pre.length = n) (k : Q none (HL sc (pre ++ rdrC n))) : ma_X 62 [.ref n] (HL sc l) Q := by
  subst e
  subst en
  refine ma_enter (m := 62) (Or.inl (by decide)) (by show 1 ≤ mt_n 62; decide +kernel) ?_
  show At 62 Q 0 (4, 803) [some (.ref pre.length)] [] (HL sc (pre ++ [.inr (5, [.null, .int 0, .null, .null, .null, .int 0, .null])]))
  refine go 60 (by decide) ?_
  simp only [KX, KY, KZ, KW, KV, Nat.reduceAdd, Nat.reduceSub, Nat.reduceLeDiff, true_and, and_true, true_or, or_true, or_self, reduceCtorEq, if_true, if_false, not_false_eq_true, eq_self, c62, KN, FT5, hl_n, hl_s0, hl_sj, hl_a0, hl_aj, hl_1, List.cons_append, List.nil_append, List.set_cons_succ, List.set_cons_zero, List.getD_cons_zero, List.getD_cons_succ, Nat.add_zero, Nat.add_assoc, List.length_cons, List.length_nil, Nat.reduceLT, Nat.zero_add]
  exact k
/-- a new FLAKE's rows, a new WORLD -/
def flA : ma_C := .inl (.int, 169, .inl (upd (fl_init 169) 84 0))
def flB : ma_C := .inl (.byte, 169, .inl fun _ => 0)
def flR (n : Nat) : ma_C := .inl (.object "FlakeArms$Flake", 4, .inr (.inr (.inr (.inr (va_up (va_up (va_up (va_up (fun _ => none) 0 (some (n + 2))) 1 (some (n + 5))) 2 (some (n + 8))) 3 (some (n + 11)))))))
def grR : ma_C := .inl (.object "FlakeArms$Growth", 6, .inr (.inr (.inr (.inr fun _ => none))))
def wrA (n : Nat) : List ma_C := [.inr (10, [.ref (n + 1), .ref (n + 14), .int 0, .null, .null, .null, .int 0, .int 0, .null, .null]), flR n, .inr (2, [.int 0, .ref (n + 3), .ref (n + 4)]), flA, flB, .inr (2, [.int 0, .ref (n + 6), .ref (n + 7)]), flA, flB, .inr (2, [.int 0, .ref (n + 9), .ref (n + 10)]), flA, flB, .inr (2, [.int 0, .ref (n + 12), .ref (n + 13)]), flA, flB, grR]
def wrC (n : Nat) : List ma_C := [.inr (10, [.ref (n + 1), .ref (n + 14), .int 0, .ref (n + 15), .ref (n + 19), .ref (n + 20), .int 0, .int 1, .ref (n + 21), .ref (n + 22)]), flR n, .inr (2, [.int 0, .ref (n + 3), .ref (n + 4)]), flA, flB, .inr (2, [.int 0, .ref (n + 6), .ref (n + 7)]), flA, flB, .inr (2, [.int 0, .ref (n + 9), .ref (n + 10)]), flA, flB, .inr (2, [.int 0, .ref (n + 12), .ref (n + 13)]), flA, flB, grR, .inr (4, [.int 0, .ref (n + 16), .ref (n + 17), .ref (n + 18), .int 0]), zI 8, zI 8, zI 200, zI 24, zI 24, zI 91, zI 6]
theorem n93 {sc : Nat × (Nat → Int32)} {pre l : List ma_C} {n : Nat} {Q : ma_Q} (e : l = pre ++ [.inr (10, [.null, .null, .int 0, .null, .null, .null, .int 0, .int 0, .null, .null])]) (en : pre.length = n) (k : Q none (HL sc (pre ++ wrC n))) : ma_X 93 [.ref n] (HL sc l) Q := by
  subst e
  subst en
  refine ma_enter (m := 93) (Or.inl (by decide)) (by show 1 ≤ mt_n 93; decide +kernel) ?_
  show At 93 Q 0 (22, 1740) [some (.ref pre.length)] [] (HL sc (pre ++ [.inr (10, [.null, .null, .int 0, .null, .null, .null, .int 0, .int 0, .null, .null])]))
  refine go 60 (by decide) ?_
  simp only [KX, KY, KZ, KW, KV, Nat.reduceAdd, Nat.reduceSub, Nat.reduceLeDiff, true_and, and_true, true_or, or_true, or_self, reduceCtorEq, if_true, if_false, not_false_eq_true, eq_self, c93, KN, FT10, CD, fl_new, hl_n, hl_s0, hl_sj, hl_a0, hl_aj, hl_1, List.cons_append, List.nil_append, List.set_cons_succ, List.set_cons_zero, List.getD_cons_zero, List.getD_cons_succ, Nat.add_zero, Nat.add_assoc, List.length_cons, List.length_nil, Nat.reduceLT, Nat.zero_add]
  refine s8 (a := pre.length + 2) (by rw [hl_1]; simp only [List.length_cons, List.length_nil]; omega) (hl_aj.trans rfl) ?_
  refine go 60 (by decide) ?_
  simp only [KX, KY, KZ, KW, KV, Nat.reduceAdd, Nat.reduceSub, Nat.reduceLeDiff, true_and, and_true, true_or, or_true, or_self, reduceCtorEq, if_true, if_false, not_false_eq_true, eq_self, c93, KN, FT10, CD, fl_new, hl_n, hl_s0, hl_sj, hl_a0, hl_aj, hl_1, List.cons_append, List.nil_append, List.set_cons_succ, List.set_cons_zero, List.getD_cons_zero, List.getD_cons_succ, Nat.add_zero, Nat.add_assoc, List.length_cons, List.length_nil, Nat.reduceLT, Nat.zero_add]
  refine s8 (a := pre.length + 5) (by rw [hl_1]; simp only [List.length_cons, List.length_nil]; omega) (hl_aj.trans rfl) ?_
  refine go 60 (by decide) ?_
  simp only [KX, KY, KZ, KW, KV, Nat.reduceAdd, Nat.reduceSub, Nat.reduceLeDiff, true_and, and_true, true_or, or_true, or_self, reduceCtorEq, if_true, if_false, not_false_eq_true, eq_self, c93, KN, FT10, CD, fl_new, hl_n, hl_s0, hl_sj, hl_a0, hl_aj, hl_1, List.cons_append, List.nil_append, List.set_cons_succ, List.set_cons_zero, List.getD_cons_zero, List.getD_cons_succ, Nat.add_zero, Nat.add_assoc, List.length_cons, List.length_nil, Nat.reduceLT, Nat.zero_add]
  refine s8 (a := pre.length + 8) (by rw [hl_1]; simp only [List.length_cons, List.length_nil]; omega) (hl_aj.trans rfl) ?_
  refine go 60 (by decide) ?_
  simp only [KX, KY, KZ, KW, KV, Nat.reduceAdd, Nat.reduceSub, Nat.reduceLeDiff, true_and, and_true, true_or, or_true, or_self, reduceCtorEq, if_true, if_false, not_false_eq_true, eq_self, c93, KN, FT10, CD, fl_new, hl_n, hl_s0, hl_sj, hl_a0, hl_aj, hl_1, List.cons_append, List.nil_append, List.set_cons_succ, List.set_cons_zero, List.getD_cons_zero, List.getD_cons_succ, Nat.add_zero, Nat.add_assoc, List.length_cons, List.length_nil, Nat.reduceLT, Nat.zero_add]
  refine s8 (a := pre.length + 11) (by rw [hl_1]; simp only [List.length_cons, List.length_nil]; omega) (hl_aj.trans rfl) ?_
  refine go 60 (by decide) ?_
  simp only [KX, KY, KZ, KW, KV, Nat.reduceAdd, Nat.reduceSub, Nat.reduceLeDiff, true_and, and_true, true_or, or_true, or_self, reduceCtorEq, if_true, if_false, not_false_eq_true, eq_self, c93, KN, FT10, CD, fl_new, hl_n, hl_s0, hl_sj, hl_a0, hl_aj, hl_1, List.cons_append, List.nil_append, List.set_cons_succ, List.set_cons_zero, List.getD_cons_zero, List.getD_cons_succ, Nat.add_zero, Nat.add_assoc, List.length_cons, List.length_nil, Nat.reduceLT, Nat.zero_add]
  refine n51 (pre := pre ++ wrA pre.length) (by rw [List.append_assoc]; rfl) (by rw [List.length_append]; rfl) ?_
  refine go 60 (by decide) ?_
  simp only [KX, KY, KZ, KW, KV, Nat.reduceAdd, Nat.reduceSub, Nat.reduceLeDiff, true_and, and_true, true_or, or_true, or_self, reduceCtorEq, if_true, if_false, not_false_eq_true, eq_self, c93, wrA, lawC, List.append_assoc, KN, FT10, CD, fl_new, hl_n, hl_s0, hl_sj, hl_a0, hl_aj, hl_1, List.cons_append, List.nil_append, List.set_cons_succ, List.set_cons_zero, List.getD_cons_zero, List.getD_cons_succ, Nat.add_zero, Nat.add_assoc, List.length_cons, List.length_nil, Nat.reduceLT, Nat.zero_add]
  exact k
