/-! law: words on both sides -/
def vr : List Nat → Nat
  | [] => 0
  | c :: r => 27 * vr r + (c - 96)
theorem wN_vr {b : Nat → Nat} {i : Nat} : ∀ (r : List Nat) (L : Nat), (∀ c ∈ r, 97 ≤ c ∧ c ≤ 122) → (∀ j, j < L → 97 ≤ b (i + j) ∧ b (i + j) ≤ 122) → (wN b i L = vr r ↔ L = r.length ∧ ∀ j, j < L → b (i + j) = r.getD (L - 1 - j) 0)
  | [], 0, _, _ => ⟨fun _ => ⟨rfl, fun j hj => absurd hj (Nat.not_lt_zero j)⟩, fun _ => rfl⟩
  | [], L + 1, _, h => by
    have hl := h L (by omega)
    constructor
    · intro z
      have z : 27 * wN b i L + (b (i + L) - 96) = 0 := z
      omega
    · intro z
      exact absurd z.1 (by simp)
  | c :: r, 0, hr, _ => by
    have hc := hr c List.mem_cons_self
    constructor
    · intro z
      have z : 0 = 27 * vr r + (c - 96) := z
      omega
    · intro z
      exact absurd z.1 (by simp)
  | c :: r, L + 1, hr, h => by
    have hc := hr c List.mem_cons_self
    have hl := h L (by omega)
    have ih := wN_vr (b := b) (i := i) r L (fun x hx => hr x (List.mem_cons_of_mem _ hx)) (fun j hj => h j (by omega))
    have e : wN b i (L + 1) = vr (c :: r) ↔ wN b i L = vr r ∧ b (i + L) = c := by
      show 27 * wN b i L + (b (i + L) - 96) = 27 * vr r + (c - 96) ↔ _
      omega
    rw [e, ih]
    constructor
    · rintro ⟨⟨z1, z2⟩, z3⟩
      refine ⟨by rw [List.length_cons, z1], fun j hj => ?_⟩
      rcases Nat.lt_or_ge j L with y | y
      · rw [z2 j y, show L + 1 - 1 - j = (L - 1 - j) + 1 by omega, List.getD_cons_succ]
      · obtain rfl : j = L := by omega
        rw [show j + 1 - 1 - j = 0 by omega, List.getD_cons_zero]
        exact z3
    · rintro ⟨z1, z2⟩
      have z1 : L = r.length := by rw [List.length_cons] at z1; omega
      refine ⟨⟨z1, fun j hj => ?_⟩, ?_⟩
      · have := z2 j (by omega)
        rw [show L + 1 - 1 - j = (L - 1 - j) + 1 by omega, List.getD_cons_succ] at this
        exact this
      · have := z2 L (by omega)
        rw [show L + 1 - 1 - L = 0 by omega, List.getD_cons_zero] at this
        exact this
theorem wN_lt {b : Nat → Nat} {i : Nat} : ∀ L, (∀ j, j < L → b (i + j) ≤ 122) → wN b i L < 27 ^ L
  | 0, _ => by
    show 0 < 1
    decide
  | L + 1, h => by
    show 27 * wN b i L + (b (i + L) - 96) < 27 ^ (L + 1)
    have := wN_lt L (fun j hj => h j (by omega))
    have := h L (by omega)
    rw [Nat.pow_succ]
    omega
def wvs : List Nat := [15827, 321581, 249, 423, 1111, 10631, 453937, 16922, 381245, 385682, 101525, 191610176]
theorem wvs_t : ∀ q, q < 12 → vr (wns.getD q []).reverse = wvs.getD q 0 ∧ (wns.getD q []).length ≤ 6 ∧ (∀ c ∈ (wns.getD q []).reverse, 97 ≤ c ∧ c ≤ 122) ∧ (∀ j, j < (wns.getD q []).length → (wns.getD q []).reverse.getD ((wns.getD q []).length - 1 - j) 0 = (wns.getD q []).getD j 0) ∧ wvs.getD q 0 < 2 ^ 40 ∧ ma_kL (.negSucc 0) ≠ lN (wvs.getD q 0) ∧ ∀ q2, q2 < 12 → wvs.getD q 0 = wvs.getD q2 0 → q = q2 := by decide +kernel
theorem wL_spl {b : Nat → Nat} {i L q : Nat} (hq : q < 12) (h : ∀ j, j < L → 97 ≤ b (i + j) ∧ b (i + j) ≤ 122) : wL b i L = lN (wvs.getD q 0) ↔ spl b i L (wns.getD q []) = true := by
  obtain ⟨t1, t2, t3, t4, t5, t6, -⟩ := wvs_t q hq
  have es : spl b i L (wns.getD q []) = true ↔ L = (wns.getD q []).length ∧ ∀ j, j < (wns.getD q []).length → b (i + j) = (wns.getD q []).getD j 0 := by
    unfold spl
    rw [Bool.and_eq_true, eqs_at, beq_iff_eq]
    exact ⟨fun z => ⟨z.1.symm, z.2⟩, fun z => ⟨z.1.symm, z.2⟩⟩
  rw [es]
  unfold wL
  by_cases l8 : L ≤ 8
  · rw [if_pos l8]
    have b1 := wN_lt (b := b) (i := i) L (fun j hj => (h j hj).2)
    have b2 : 27 ^ L ≤ 27 ^ 8 := Nat.pow_le_pow_right (by decide) l8
    rw [lN_eqB (by have : 27 ^ 8 < 2 ^ 63 := by decide
                   omega) (by omega), ← t1, wN_vr _ L t3 h, List.length_reverse]
    constructor
    · rintro ⟨z1, z2⟩
      exact ⟨z1, fun j hj => by rw [z2 j (by omega), z1]; exact t4 j hj⟩
    · rintro ⟨z1, z2⟩
      exact ⟨z1, fun j hj => by rw [z2 j (by omega), z1]; exact (t4 j (by omega)).symm⟩
  · rw [if_neg l8]
    exact ⟨fun z => absurd z t6, fun z => absurd z.1 (by omega)⟩
theorem spl_one {b : Nat → Nat} {i L q q2 : Nat} (hq : q < 12) (hq2 : q2 < 12) (h : ∀ j, j < L → 97 ≤ b (i + j) ∧ b (i + j) ≤ 122) (e : spl b i L (wns.getD q []) = true) (e2 : spl b i L (wns.getD q2 []) = true) : q = q2 := by
  have a := (wL_spl hq h).mpr e
  have c := (wL_spl hq2 h).mpr e2
  have t := wvs_t q hq
  have t2 := wvs_t q2 hq2
  rw [a, lN_eqB (by omega) (by omega)] at c
  exact t.2.2.2.2.2.2 q2 hq2 c
/-- among six words: which, or none -/
theorem fw6_eq {b : Nat → Nat} {i L o r : Nat} (ho : o + 6 ≤ 12) (h : ∀ j, j < L → 97 ≤ b (i + j) ∧ b (i + j) ≤ 122) (hr : r < 6) : fw6 b i L o = r ↔ spl b i L (wns.getD (o + r) []) = true := by
  have U : ∀ a c, a < 6 → c < 6 → spl b i L (wns.getD (o + a) []) = true → spl b i L (wns.getD (o + c) []) = true → a = c := fun a c ha hc x y => by
    have := spl_one (by omega) (by omega) h x y
    omega
  unfold fw6
  have u0 : spl b i L (wns.getD o []) = spl b i L (wns.getD (o + 0) []) := rfl
  rw [u0]
  constructor
  · intro z
    split at z
    · next y => rw [← z]; exact y
    · split at z
      · next y => rw [← z]; exact y
      · split at z
        · next y => rw [← z]; exact y
        · split at z
          · next y => rw [← z]; exact y
          · split at z
            · next y => rw [← z]; exact y
            · split at z
              · next y => rw [← z]; exact y
              · omega
  · intro z
    by_cases a0 : spl b i L (wns.getD (o + 0) []) = true
    · rw [if_pos a0]; exact U 0 r (by decide) hr a0 z
    · rw [if_neg a0]
      by_cases a1 : spl b i L (wns.getD (o + 1) []) = true
      · rw [if_pos a1]; exact U 1 r (by decide) hr a1 z
      · rw [if_neg a1]
        by_cases a2 : spl b i L (wns.getD (o + 2) []) = true
        · rw [if_pos a2]; exact U 2 r (by decide) hr a2 z
        · rw [if_neg a2]
          by_cases a3 : spl b i L (wns.getD (o + 3) []) = true
          · rw [if_pos a3]; exact U 3 r (by decide) hr a3 z
          · rw [if_neg a3]
            by_cases a4 : spl b i L (wns.getD (o + 4) []) = true
            · rw [if_pos a4]; exact U 4 r (by decide) hr a4 z
            · rw [if_neg a4]
              by_cases a5 : spl b i L (wns.getD (o + 5) []) = true
              · rw [if_pos a5]; exact U 5 r (by decide) hr a5 z
              · obtain rfl | rfl | rfl | rfl | rfl | rfl : r = 0 ∨ r = 1 ∨ r = 2 ∨ r = 3 ∨ r = 4 ∨ r = 5 := by omega
                · exact absurd z a0
                · exact absurd z a1
                · exact absurd z a2
                · exact absurd z a3
                · exact absurd z a4
                · exact absurd z a5
theorem fw6_le {b : Nat → Nat} {i L o : Nat} : fw6 b i L o ≤ 6 := by
  unfold fw6
  repeat' split
  all_goals omega
theorem nL_all {b : Nat → Nat} {n i : Nat} : ∀ j, j < nL b n i → 97 ≤ b (i + j) ∧ b (i + j) ≤ 122 := fun j hj => isL_ok (run_all 201 i j hj)
