/-! WHAT HOLDS BETWEEN TWO CALLS: the FlakeArms and the Model say the same -/
/-- the number of a place among the CELLS -/
def cix (p : Nat) : Nat := ma_CELLS.findIdx (fun x => x == p)
def m_q (c : Nat) : Int32 := nI (ma_cell c) - nI (ma_cell c) / 13 * 13 - 6
def m_r (c : Nat) : Int32 := nI (ma_cell c) / 13 - 6
def m_t (c : Nat) : Nat := cix (i_place (0 - m_r c, m_q c + m_r c)).toNatClampNeg
def m_m (c : Nat) : Nat := cix (i_place (m_r c, m_q c)).toNatClampNeg
def m_nb (c k : Nat) : Int32 := if i_place (m_q c + i_qs (nI k), m_r c + i_rs (nI k)) < 0 then -1 else nI (cix (i_place (m_q c + i_qs (nI k), m_r c + i_rs (nI k))).toNatClampNeg)
def m_fl : List Nat := [0, 6, 13, 21, 30, 40, 51, 61, 70, 78, 85]
/-- the Model's tables -/
def Rt (h : ma_H) : Prop := (∀ c, c < 91 → ai h 81 c = m_q c ∧ ai h 82 c = m_r c ∧ ai h 83 c = fl_ring c ∧ ai h 84 c = nI (m_t c) ∧ ai h 85 c = nI (m_m c)) ∧ (∀ c, c < 91 → ∀ k, k < 6 → ai h 86 (6 * c + k) = m_nb c k) ∧ ∀ r, r < 11 → ai h 87 r = nI (m_fl.getD r 0)
/-- FLAKES -/
def Wf (F : Nat → Nat → Int32) (M : Nat → Int32) (ice mins : Nat → Int32) : Prop := ∀ f, f < 4 → fl_ok (F f) ∧ (∀ i, i < 91 → F f (ma_cell i) = ice (91 * f + i)) ∧ (∀ i, i < 91 → ice (91 * f + i) = -1 ∨ ¬ ice (91 * f + i) < 0) ∧ M f = mins f ∧ ∃ n, n ≤ 60 ∧ mins f = nI n
/-- the class of a KIND -/
def g_cls (k : Nat) : Nat := match k with
  | 0 => 3
  | 1 => 7
  | 2 => 6
  | 3 => 0
  | 4 => 8
  | _ => 1
def g_obj (k i a : Nat) : ma_C := .inr (g_cls k, [.int (nI k), .int (nI i), .int (nI a), .ref 27])
/-- GROWTHS -/
def Wg (n1 : Nat) (c : Nat → ma_C) (gr : Nat → Option Nat) (gc mg : Int32) (gt : Nat → Int32) : Prop := (∃ n, n ≤ 6 ∧ gc = nI n ∧ mg = nI n ∧ ∀ i, i < n → ∃ r k a, gr i = some r ∧ 115 ≤ r ∧ r < n1 ∧ k < 6 ∧ a < 64 ∧ c r = g_obj k i a ∧ gt (2 * i) = nI k ∧ gt (2 * i + 1) = nI a) ∧ ∀ i, i < 6 → gr i = none ∨ ∃ r k j a, gr i = some r ∧ 115 ≤ r ∧ r < n1 ∧ k < 6 ∧ c r = g_obj k j a
def Wm (ms z mms mz : Int32) : Prop := (∃ n, n ≤ 4 ∧ ms = nI n ∧ mms = nI n) ∧ z = mz
def Wa (warm wet airs : Nat → Int32) : Prop := ∀ m, m < 24 → warm m = airs (2 * m) ∧ wet m = airs (2 * m + 1)
/-- a step of a COND: 0 to 2 '<', '=', '>' of two VALUES (from 1000 on a NAME), 3 not, 4 and, 5 or -/
abbrev Tok : Type := Nat × Nat × Nat
def tv (F : Nat → Int32) (v : Nat) : Int32 := if v < 1000 then nI v else F (v - 1000)
def tk (F : Nat → Int32) (D : Nat) (t : Tok) (st : List Bool) : Option (List Bool) := match t.1 with
  | 0 => if st.length < D then some (decide (tv F t.2.1 < tv F t.2.2) :: st) else none
  | 1 => if st.length < D then some (decide (tv F t.2.1 = tv F t.2.2) :: st) else none
  | 2 => if st.length < D then some (decide (tv F t.2.2 < tv F t.2.1) :: st) else none
  | 3 => match st with
    | b :: r => some ((!b) :: r)
    | _ => none
  | 4 => match st with
    | b :: a :: r => some ((a && b) :: r)
    | _ => none
  | 5 => match st with
    | b :: a :: r => some ((a || b) :: r)
    | _ => none
  | _ => none
def ev (F : Nat → Int32) (D : Nat) : List Tok → List Bool → Option (List Bool)
  | [], st => some st
  | t :: r, st => match tk F D t st with
    | some st' => ev F D r st'
    | none => none
/-- a step as the class keeps it, as the Model does -/
def tc (t : Tok) : Int32 := match t.1 with
  | 3 => -1
  | 4 => -2
  | 5 => -3
  | o => nI (o * 1048576 + t.2.1 * 1024 + t.2.2)
def tmv (v : Nat) : Int32 := if v < 1000 then nI v else nI (19000 + v)
def tm (t : Tok) : List Int32 := match t.1 with
  | 3 => [40002]
  | 4 => [40000]
  | 5 => [40001]
  | o => [tmv t.2.1, nI (60 + o), tmv t.2.2]
def tms : List Tok → List Int32
  | [] => []
  | t :: r => tm t ++ tms r
def tok_ok (t : Tok) : Prop := t.1 < 6 ∧ t.2.1 < 1006 ∧ t.2.2 < 1006
def seg (g : Nat → Int32) (at_ : Nat) (l : List Int32) : Prop := ∀ i v, l[i]? = some v → g (at_ + i) = v
/-- one CLAUSE -/
def Wc (used clause : Nat → Int32) (ce code signs : Nat → Int32) (i a b : Nat) (P M : List Tok) : Prop := used i = clause (3 * i) ∧ (used i = -1 ∨ ∃ u, u ≤ 5 ∧ used i = nI u) ∧ ce i = nI (a + P.length) ∧ a + P.length ≤ 200 ∧ seg code a (P.map tc) ∧ clause (3 * i + 1) = nI b ∧ clause (3 * i + 2) = nI (b + (tms M).length) ∧ b + (tms M).length ≤ 200 ∧ seg signs b (tms M) ∧ (∀ t ∈ P, tok_ok t) ∧ (∀ t ∈ M, tok_ok t) ∧ ∀ F, ∃ st, ev F 30 P [] = some st ∧ ev F 90 M [] = some st ∧ st.length ≤ 1
/-- THE LAW -/
def Wl (cl : Int32) (used ce code : Nat → Int32) (mcl : Int32) (clause signs : Nat → Int32) : Prop := ∃ n, n ≤ 8 ∧ cl = nI n ∧ mcl = nI n ∧ ∃ (A B : Nat → Nat) (P M : Nat → List Tok), A 0 = 0 ∧ ∀ i, i < n → Wc used clause ce code signs i (A i) (B i) (P i) (M i) ∧ A (i + 1) = A i + (P i).length
/-- now -/
def Nf (h : ma_H) : Prop := Wf (fun f => ai h (37 + 3 * f)) (fun f => fi h (36 + 3 * f) 0) (ai h 88) (ai h 89)
def Ng (h : ma_H) : Prop := Wg h.1 h.2.1 (ar h 48) (fi h 34 2) (fi h 80 9) (ai h 90)
def Nm (h : ma_H) : Prop := Wm (fi h 34 6) (fi h 34 7) (fi h 80 11) (fi h 80 12)
def Na (h : ma_H) : Prop := Wa (ai h 53) (ai h 54) (ai h 91)
def Nl (h : ma_H) : Prop := Wl (fi h 49 0) (ai h 50) (ai h 51) (ai h 52) (fi h 80 14) (ai h 92) (ai h 93)
/-- kept -/
def Kf (h : ma_H) : Prop := Wf (fun f => ai h (60 + 3 * f)) (fun f => fi h (59 + 3 * f) 0) (fun i => ai h 113 (4 + i)) (fun i => ai h 113 (368 + i))
def Kg (h : ma_H) : Prop := Wg h.1 h.2.1 (ar h 71) (fi h 57 2) (ai h 113 0) (fun i => ai h 113 (372 + i))
def Km (h : ma_H) : Prop := Wm (fi h 57 6) (fi h 57 7) (ai h 113 1) (ai h 113 2)
def Ka (h : ma_H) : Prop := Wa (ai h 76) (ai h 77) (fun i => ai h 113 (384 + i))
def Kl (h : ma_H) : Prop := Wl (fi h 72 0) (ai h 73) (ai h 74) (ai h 75) (ai h 113 3) (fun i => ai h 113 (432 + i)) (fun i => ai h 113 (456 + i))
def Rk (h : ma_H) : Prop := (fi h 0 2 = 0 ∧ fi h 80 55 = 0) ∨ (fi h 0 2 = 1 ∧ fi h 80 55 = 1 ∧ Kf h ∧ Kg h ∧ Km h ∧ Ka h ∧ Kl h)
/-- THE TAPE -/
def Rp (h : ma_H) : Prop := ∃ n, n ≤ 200 ∧ fi h 0 4 = nI n ∧ fi h 80 18 = nI n ∧ (∀ i, i < n → ai h 94 i = ai h 1 i &&& 255) ∧ ∀ i, ai h 1 i = (ai h 1 i).toInt8.toInt32
/-- THE ROWS -/
def Rw (h : ma_H) : Prop := ∃ n, n ≤ 6 ∧ fi h 0 8 = nI n ∧ fi h 80 41 = nI n ∧ ∀ i, i < n → ∀ j, j < 2 → ai h (12 + i) j = ai h 104 (2 * i + j)
/-- SHEETS, SHELVES -/
def Rs (h : ma_H) : Prop := ∀ s, s < 4 → ai h 23 s = ai h 106 s ∧ (ai h 23 s = -1 ∨ ∃ t, t < 4 ∧ ai h 23 s = nI t) ∧ ai h 24 s = ai h 107 s ∧ (∃ n, n ≤ 40 ∧ ai h 24 s = nI n) ∧ ∀ i, i < 40 → al h 108 (40 * s + i) = (ai h (19 + s) i).toInt64
def Rv (h : ma_H) : Prop := ∀ s, s < 4 → (ai h 25 s = -1 ∧ ai h 109 s = -1) ∨ (ai h 25 s = 0 ∧ ai h 109 s = 0 ∧ ai h 26 s = ai h 110 s) ∨ ∃ t, t < 4 ∧ ai h 25 s = nI (10 + t) ∧ ai h 109 s = 1 ∧ ai h 110 s = nI t ∧ ai h 26 s = ai h 111 s
/-- THE TRACE -/
def Ra (h : ma_H) : Prop := ∃ n, n ≤ 30 ∧ fi h 27 1 = nI n ∧ fi h 80 53 = nI n ∧ ∀ i, i < n → ai h 28 i = ai h 112 i
def Rc (h : ma_H) : Prop := fl_ok (ai h 32)
def Inv (h : ma_H) : Prop := Sh h ∧ Rr h ∧ Rt h ∧ (Nf h ∧ Ng h ∧ Nm h ∧ Na h ∧ Nl h) ∧ Rk h ∧ (Rp h ∧ Rw h ∧ Rs h ∧ Rv h ∧ Ra h ∧ Rc h)
theorem Rr.cong {h h1 : ma_H} (R : Rr h) (e : ∀ a, a = 35 ∨ a = 58 ∨ a = 11 ∨ a = 18 → h1.2.1 a = h.2.1 a) : Rr h1 := by
  unfold Rr at R ⊢
  have e : ∀ a, a = 35 ∨ a = 58 ∨ a = 11 ∨ a = 18 → h1.2.1 a = h.2.1 a := e
  have e35 := e 35 (by omega)
  have e58 := e 58 (by omega)
  have e11 := e 11 (by omega)
  have e18 := e 18 (by omega)
  simp only [ai, al, ar, fi, fj, fv, e35, e58, e11, e18] at R ⊢
  exact R
theorem Rt.cong {h h1 : ma_H} (R : Rt h) (e : ∀ a, 81 ≤ a ∧ a ≤ 87 → h1.2.1 a = h.2.1 a) : Rt h1 := by
  unfold Rt at R ⊢
  have e : ∀ a, 81 ≤ a ∧ a ≤ 87 → h1.2.1 a = h.2.1 a := e
  have e81 := e 81 (by omega)
  have e82 := e 82 (by omega)
  have e83 := e 83 (by omega)
  have e84 := e 84 (by omega)
  have e85 := e 85 (by omega)
  have e86 := e 86 (by omega)
  have e87 := e 87 (by omega)
  simp only [ai, al, ar, fi, fj, fv, e81, e82, e83, e84, e85, e86, e87] at R ⊢
  exact R
theorem Nf.cong {h h1 : ma_H} (R : Nf h) (e : ∀ a, (36 ≤ a ∧ a ≤ 47) ∨ a = 88 ∨ a = 89 → h1.2.1 a = h.2.1 a) : Nf h1 := by
  unfold Nf Wf at R ⊢
  have e88 := e 88 (by omega)
  have e89 := e 89 (by omega)
  intro f hf
  have x1 := e (37 + 3 * f) (by omega)
  have x2 := e (36 + 3 * f) (by omega)
  simp only [ai, fi, x1, x2, e88, e89]
  exact R f hf
theorem Nm.cong {h h1 : ma_H} (R : Nm h) (e : ∀ a, a = 34 ∨ a = 80 → h1.2.1 a = h.2.1 a) : Nm h1 := by
  unfold Nm at R ⊢
  have e : ∀ a, a = 34 ∨ a = 80 → h1.2.1 a = h.2.1 a := e
  have e34 := e 34 (by omega)
  have e80 := e 80 (by omega)
  simp only [ai, al, ar, fi, fj, fv, e34, e80] at R ⊢
  exact R
theorem Na.cong {h h1 : ma_H} (R : Na h) (e : ∀ a, a = 53 ∨ a = 54 ∨ a = 91 → h1.2.1 a = h.2.1 a) : Na h1 := by
  unfold Na at R ⊢
  have e : ∀ a, a = 53 ∨ a = 54 ∨ a = 91 → h1.2.1 a = h.2.1 a := e
  have e53 := e 53 (by omega)
  have e54 := e 54 (by omega)
  have e91 := e 91 (by omega)
  simp only [ai, al, ar, fi, fj, fv, e53, e54, e91] at R ⊢
  exact R
theorem Nl.cong {h h1 : ma_H} (R : Nl h) (e : ∀ a, (49 ≤ a ∧ a ≤ 52) ∨ a = 80 ∨ a = 92 ∨ a = 93 → h1.2.1 a = h.2.1 a) : Nl h1 := by
  unfold Nl at R ⊢
  have e : ∀ a, (49 ≤ a ∧ a ≤ 52) ∨ a = 80 ∨ a = 92 ∨ a = 93 → h1.2.1 a = h.2.1 a := e
  have e49 := e 49 (by omega)
  have e50 := e 50 (by omega)
  have e51 := e 51 (by omega)
  have e52 := e 52 (by omega)
  have e80 := e 80 (by omega)
  have e92 := e 92 (by omega)
  have e93 := e 93 (by omega)
  simp only [ai, al, ar, fi, fj, fv, e49, e50, e51, e52, e80, e92, e93] at R ⊢
  exact R
theorem Rp.cong {h h1 : ma_H} (R : Rp h) (e : ∀ a, a = 0 ∨ a = 1 ∨ a = 80 ∨ a = 94 → h1.2.1 a = h.2.1 a) : Rp h1 := by
  unfold Rp at R ⊢
  have e : ∀ a, a = 0 ∨ a = 1 ∨ a = 80 ∨ a = 94 → h1.2.1 a = h.2.1 a := e
  have e0 := e 0 (by omega)
  have e1 := e 1 (by omega)
  have e80 := e 80 (by omega)
  have e94 := e 94 (by omega)
  simp only [ai, al, ar, fi, fj, fv, e0, e1, e80, e94] at R ⊢
  exact R
theorem Rw.cong {h h1 : ma_H} (R : Rw h) (e : ∀ a, a = 0 ∨ a = 80 ∨ (12 ≤ a ∧ a ≤ 17) ∨ a = 104 → h1.2.1 a = h.2.1 a) : Rw h1 := by
  obtain ⟨n, n6, a1, a2, a3⟩ := R
  have e0 := e 0 (by omega)
  have e80 := e 80 (by omega)
  have e104 := e 104 (by omega)
  refine ⟨n, n6, ?_, ?_, fun i hi j hj => ?_⟩
  · simp only [fi, e0]; exact a1
  · simp only [fi, e80]; exact a2
  · have x := e (12 + i) (by omega)
    simp only [ai, x, e104]
    exact a3 i hi j hj
theorem Rs.cong {h h1 : ma_H} (R : Rs h) (e : ∀ a, (19 ≤ a ∧ a ≤ 24) ∨ (106 ≤ a ∧ a ≤ 108) → h1.2.1 a = h.2.1 a) : Rs h1 := by
  intro s hs
  have e23 := e 23 (by omega)
  have e24 := e 24 (by omega)
  have e106 := e 106 (by omega)
  have e107 := e 107 (by omega)
  have e108 := e 108 (by omega)
  have x := e (19 + s) (by omega)
  simp only [ai, al, e23, e24, e106, e107, e108, x]
  exact R s hs
theorem Rv.cong {h h1 : ma_H} (R : Rv h) (e : ∀ a, a = 25 ∨ a = 26 ∨ (109 ≤ a ∧ a ≤ 111) → h1.2.1 a = h.2.1 a) : Rv h1 := by
  unfold Rv at R ⊢
  have e : ∀ a, a = 25 ∨ a = 26 ∨ (109 ≤ a ∧ a ≤ 111) → h1.2.1 a = h.2.1 a := e
  have e25 := e 25 (by omega)
  have e26 := e 26 (by omega)
  have e109 := e 109 (by omega)
  have e110 := e 110 (by omega)
  have e111 := e 111 (by omega)
  simp only [ai, al, ar, fi, fj, fv, e25, e26, e109, e110, e111] at R ⊢
  exact R
theorem Ra.cong {h h1 : ma_H} (R : Ra h) (e : ∀ a, a = 27 ∨ a = 28 ∨ a = 80 ∨ a = 112 → h1.2.1 a = h.2.1 a) : Ra h1 := by
  unfold Ra at R ⊢
  have e : ∀ a, a = 27 ∨ a = 28 ∨ a = 80 ∨ a = 112 → h1.2.1 a = h.2.1 a := e
  have e27 := e 27 (by omega)
  have e28 := e 28 (by omega)
  have e80 := e 80 (by omega)
  have e112 := e 112 (by omega)
  simp only [ai, al, ar, fi, fj, fv, e27, e28, e80, e112] at R ⊢
  exact R
theorem Rc.cong {h h1 : ma_H} (R : Rc h) (e : ∀ a, a = 32 → h1.2.1 a = h.2.1 a) : Rc h1 := by
  unfold Rc at R ⊢
  have e : ∀ a, a = 32 → h1.2.1 a = h.2.1 a := e
  have e32 := e 32 (by omega)
  simp only [ai, al, ar, fi, fj, fv, e32] at R ⊢
  exact R
theorem Kf.cong {h h1 : ma_H} (R : Kf h) (e : ∀ a, (59 ≤ a ∧ a ≤ 70) ∨ a = 113 → h1.2.1 a = h.2.1 a) : Kf h1 := by
  unfold Kf Wf at R ⊢
  have e113 := e 113 (by omega)
  intro f hf
  have x1 := e (60 + 3 * f) (by omega)
  have x2 := e (59 + 3 * f) (by omega)
  simp only [ai, fi, x1, x2, e113]
  exact R f hf
theorem Km.cong {h h1 : ma_H} (R : Km h) (e : ∀ a, a = 57 ∨ a = 113 → h1.2.1 a = h.2.1 a) : Km h1 := by
  unfold Km at R ⊢
  have e : ∀ a, a = 57 ∨ a = 113 → h1.2.1 a = h.2.1 a := e
  have e57 := e 57 (by omega)
  have e113 := e 113 (by omega)
  simp only [ai, al, ar, fi, fj, fv, e57, e113] at R ⊢
  exact R
theorem Ka.cong {h h1 : ma_H} (R : Ka h) (e : ∀ a, a = 76 ∨ a = 77 ∨ a = 113 → h1.2.1 a = h.2.1 a) : Ka h1 := by
  unfold Ka at R ⊢
  have e : ∀ a, a = 76 ∨ a = 77 ∨ a = 113 → h1.2.1 a = h.2.1 a := e
  have e76 := e 76 (by omega)
  have e77 := e 77 (by omega)
  have e113 := e 113 (by omega)
  simp only [ai, al, ar, fi, fj, fv, e76, e77, e113] at R ⊢
  exact R
theorem Kl.cong {h h1 : ma_H} (R : Kl h) (e : ∀ a, (72 ≤ a ∧ a ≤ 75) ∨ a = 113 → h1.2.1 a = h.2.1 a) : Kl h1 := by
  unfold Kl at R ⊢
  have e : ∀ a, (72 ≤ a ∧ a ≤ 75) ∨ a = 113 → h1.2.1 a = h.2.1 a := e
  have e72 := e 72 (by omega)
  have e73 := e 73 (by omega)
  have e74 := e 74 (by omega)
  have e75 := e 75 (by omega)
  have e113 := e 113 (by omega)
  simp only [ai, al, ar, fi, fj, fv, e72, e73, e74, e75, e113] at R ⊢
  exact R
theorem Wg.cong {n n1 : Nat} {c c1 : Nat → ma_C} {gr : Nat → Option Nat} {gc mg : Int32} {gt : Nat → Int32} (R : Wg n c gr gc mg gt) (hn : n ≤ n1) (e : ∀ a, 115 ≤ a → a < n → c1 a = c a) : Wg n1 c1 gr gc mg gt := by
  obtain ⟨⟨m, m6, a1, a2, a3⟩, b⟩ := R
  refine ⟨⟨m, m6, a1, a2, fun i hi => ?_⟩, fun i hi => ?_⟩
  · obtain ⟨r, k, a, x1, x2, x3, x4, x5, x6, x7⟩ := a3 i hi
    exact ⟨r, k, a, x1, x2, by omega, x4, x5, (e r x2 x3).trans x6, x7⟩
  · rcases b i hi with x | ⟨r, k, j, a, x1, x2, x3, x4, x5⟩
    · exact Or.inl x
    · exact Or.inr ⟨r, k, j, a, x1, x2, by omega, x4, (e r x2 x3).trans x5⟩
theorem Ng.cong {h h1 : ma_H} (R : Ng h) (hn : h.1 ≤ h1.1) (e : ∀ a, a = 48 ∨ a = 34 ∨ a = 80 ∨ a = 90 ∨ (115 ≤ a ∧ a < h.1) → h1.2.1 a = h.2.1 a) : Ng h1 := by
  unfold Ng
  have e48 := e 48 (by omega)
  have e34 := e 34 (by omega)
  have e80 := e 80 (by omega)
  have e90 := e 90 (by omega)
  simp only [ar, fi, ai, e48, e34, e80, e90]
  exact Wg.cong R hn fun a x y => e a (by omega)
theorem Kg.cong {h h1 : ma_H} (R : Kg h) (hn : h.1 ≤ h1.1) (e : ∀ a, a = 71 ∨ a = 57 ∨ a = 113 ∨ (115 ≤ a ∧ a < h.1) → h1.2.1 a = h.2.1 a) : Kg h1 := by
  unfold Kg
  have e48 := e 71 (by omega)
  have e34 := e 57 (by omega)
  have e80 := e 113 (by omega)
  simp only [ar, fi, ai, e48, e34, e80]
  exact Wg.cong R hn fun a x y => e a (by omega)
theorem Rk.cong {h h1 : ma_H} (R : Rk h) (hn : h.1 ≤ h1.1) (e : ∀ a, a = 0 ∨ a = 80 ∨ (57 ≤ a ∧ a ≤ 79) ∨ a = 113 ∨ (115 ≤ a ∧ a < h.1) → h1.2.1 a = h.2.1 a) : Rk h1 := by
  unfold Rk
  have e0 := e 0 (by omega)
  have e80 := e 80 (by omega)
  simp only [fi, e0, e80]
  rcases R with R | ⟨a, b, c1, c2, c3, c4, c5⟩
  · exact Or.inl R
  · exact Or.inr ⟨a, b, c1.cong fun a x => e a (by omega), c2.cong hn fun a x => e a (by omega), c3.cong fun a x => e a (by omega), c4.cong fun a x => e a (by omega), c5.cong fun a x => e a (by omega)⟩
theorem Ng.cong2 {h h1 : ma_H} (R : Ng h) (hn : h.1 ≤ h1.1) (e1 : fi h1 34 2 = fi h 34 2) (e2 : fi h1 80 9 = fi h 80 9) (e : ∀ a, a = 48 ∨ a = 90 ∨ (115 ≤ a ∧ a < h.1) → h1.2.1 a = h.2.1 a) : Ng h1 := by
  unfold Ng
  have e48 := e 48 (by omega)
  have e90 := e 90 (by omega)
  rw [e1, e2]
  simp only [ar, ai, e48, e90]
  exact Wg.cong R hn fun a x y => e a (by omega)
theorem Rk.cong2 {h h1 : ma_H} (R : Rk h) (hn : h.1 ≤ h1.1) (e1 : fi h1 0 2 = fi h 0 2) (e2 : fi h1 80 55 = fi h 80 55) (e : ∀ a, (57 ≤ a ∧ a ≤ 79) ∨ a = 113 ∨ (115 ≤ a ∧ a < h.1) → h1.2.1 a = h.2.1 a) : Rk h1 := by
  unfold Rk
  rw [e1, e2]
  rcases R with R | ⟨a, b, c1, c2, c3, c4, c5⟩
  · exact Or.inl R
  · exact Or.inr ⟨a, b, c1.cong fun a x => e a (by omega), c2.cong hn fun a x => e a (by omega), c3.cong fun a x => e a (by omega), c4.cong fun a x => e a (by omega), c5.cong fun a x => e a (by omega)⟩
theorem Rw.cong2 {h h1 : ma_H} (R : Rw h) (e1 : fi h1 0 8 = fi h 0 8) (e2 : fi h1 80 41 = fi h 80 41) (e : ∀ a, (12 ≤ a ∧ a ≤ 17) ∨ a = 104 → h1.2.1 a = h.2.1 a) : Rw h1 := by
  obtain ⟨n, n6, a1, a2, a3⟩ := R
  have e104 := e 104 (by omega)
  refine ⟨n, n6, e1.trans a1, e2.trans a2, fun i hi j hj => ?_⟩
  have x := e (12 + i) (by omega)
  simp only [ai, x, e104]
  exact a3 i hi j hj
theorem ma_get (h : ma_H) (a q : Nat) (c : ma_C) : (ma_set h a c).2.1 q = if q = a then c else h.2.1 q := rfl
theorem Inv.sh {h : ma_H} (I : Inv h) : Sh h := I.1
theorem Inv.rr {h : ma_H} (I : Inv h) : Rr h := I.2.1
theorem Inv.rt {h : ma_H} (I : Inv h) : Rt h := I.2.2.1
theorem Inv.nf {h : ma_H} (I : Inv h) : Nf h := I.2.2.2.1.1
theorem Inv.ng {h : ma_H} (I : Inv h) : Ng h := I.2.2.2.1.2.1
theorem Inv.nm {h : ma_H} (I : Inv h) : Nm h := I.2.2.2.1.2.2.1
theorem Inv.na {h : ma_H} (I : Inv h) : Na h := I.2.2.2.1.2.2.2.1
theorem Inv.nl {h : ma_H} (I : Inv h) : Nl h := I.2.2.2.1.2.2.2.2
theorem Inv.rk {h : ma_H} (I : Inv h) : Rk h := I.2.2.2.2.1
theorem Inv.rp {h : ma_H} (I : Inv h) : Rp h := I.2.2.2.2.2.1
theorem Inv.rw {h : ma_H} (I : Inv h) : Rw h := I.2.2.2.2.2.2.1
theorem Inv.rs {h : ma_H} (I : Inv h) : Rs h := I.2.2.2.2.2.2.2.1
theorem Inv.rv {h : ma_H} (I : Inv h) : Rv h := I.2.2.2.2.2.2.2.2.1
theorem Inv.ra {h : ma_H} (I : Inv h) : Ra h := I.2.2.2.2.2.2.2.2.2.1
theorem Inv.rc {h : ma_H} (I : Inv h) : Rc h := I.2.2.2.2.2.2.2.2.2.2
/-- the Model stands -/
def E80 (h : ma_H) : Prop := ∃ F, h.2.1 80 = .inr (12, F)
theorem e80_S {h : ma_H} (H : Sh h) : E80 h := ⟨_, H.e80⟩
theorem e80_I {h : ma_H} (I : Inv h) : E80 h := ⟨_, I.1.e80⟩
theorem e80_s {h : ma_H} {a : Nat} {c : ma_C} (ha : 80 ≠ a) (E : E80 h) : E80 (ma_set h a c) := by
  obtain ⟨F, e⟩ := E
  exact ⟨F, (ma_set_ne _ _ ha).trans e⟩
theorem e80_n {h : ma_H} {c : ma_C} (H : Sh h) : E80 (ma_new h c) := by
  have := H.1
  exact ⟨_, (if_neg (by omega)).trans H.e80⟩
/-- both answer alike, and what holds between calls holds again -/
def Pair (h : ma_H) (m m2 : Nat) (as : List Value) : Prop := ∀ Q : ma_Q, (∀ (v : Int32) (h1 : ma_H), E80 h1 → (∀ Q2 : ma_Q, (∀ h2, Inv h2 → Q2 (some (.int v)) h2) → ma_X m2 (.ref 80 :: as) h1 Q2) → Q (some (.int v)) h1) → ma_X m (.ref 0 :: as) h Q
/-- the same of a long -/
def PairL (h : ma_H) (m m2 : Nat) (as : List Value) : Prop := ∀ Q : ma_Q, (∀ (v : Int64) (h1 : ma_H), E80 h1 → (∀ Q2 : ma_Q, (∀ h2, Inv h2 → Q2 (some (.long v)) h2) → ma_X m2 (.ref 80 :: as) h1 Q2) → Q (some (.long v)) h1) → ma_X m (.ref 0 :: as) h Q
