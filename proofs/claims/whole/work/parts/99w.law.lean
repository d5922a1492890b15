/-! law: the Model looks at a token -/
theorem q_end {b : Nat → Nat} {n i : Nat} (eb : ∀ i, b i < 256) : mS b n i = 0 ↔ qt b n i = 256 := by
  unfold mS qt
  by_cases z : i < n
  · rw [if_pos z, if_pos z]
    by_cases l : 0 < nL b n i
    · rw [if_pos l, if_pos l]
      have := @fw6_le b i (nL b n i) 0
      refine ⟨fun w => absurd w (by decide), fun w => ?_⟩
      split at w
      · omega
      · split at w <;> omega
    · rw [if_neg l, if_neg l]
      by_cases d : 0 < nD b n i
      · rw [if_pos d, if_pos d]
        refine ⟨fun w => absurd w (by decide), fun w => ?_⟩
        split at w <;> omega
      · rw [if_neg d, if_neg d]
        have := eb i
        exact ⟨fun w => absurd w (by decide), fun w => by omega⟩
  · rw [if_neg z, if_neg z]
    exact ⟨fun _ => rfl, fun _ => rfl⟩
theorem q_mark {b : Nat → Nat} {n i c : Nat} (eb : ∀ i, b i < 256) (hc : c < 256) : (mS b n i = 3 ∧ mV b n i = nI c) ↔ qt b n i = c := by
  unfold mS qt mV
  by_cases z : i < n
  · rw [if_pos z, if_pos z, if_pos z]
    by_cases l : 0 < nL b n i
    · rw [if_pos l, if_pos l, if_pos l]
      refine ⟨fun w => absurd w.1 (by decide), fun w => ?_⟩
      split at w
      · omega
      · split at w <;> omega
    · rw [if_neg l, if_neg l, if_neg l]
      by_cases d : 0 < nD b n i
      · rw [if_pos d, if_pos d, if_pos d]
        refine ⟨fun w => absurd w.1 (by decide), fun w => ?_⟩
        split at w <;> omega
      · rw [if_neg d, if_neg d, if_neg d]
        have := eb i
        exact ⟨fun w => (nI_eq (by omega) (by omega)).mp w.2, fun w => ⟨rfl, by rw [w]⟩⟩
  · rw [if_neg z, if_neg z, if_neg z]
    exact ⟨fun w => absurd w.1 (by decide), fun w => by omega⟩
theorem q_num {b : Nat → Nat} {n i : Nat} (eb : ∀ i, b i < 256) : (mS b n i = 2 ∧ ¬ mV b n i < 0 → 3000 ≤ qt b n i ∧ qt b n i < 4000 ∧ mV b n i = nI (qt b n i - 3000)) ∧ (3000 ≤ qt b n i → qt b n i < 4000 → mS b n i = 2 ∧ ¬ mV b n i < 0) := by
  unfold mS qt mV
  by_cases z : i < n
  · rw [if_pos z, if_pos z, if_pos z]
    by_cases l : 0 < nL b n i
    · rw [if_pos l, if_pos l, if_pos l]
      refine ⟨fun w => absurd w.1 (by decide), fun w w2 => ?_⟩
      split at w
      · rw [if_pos (by assumption)] at w2
        omega
      · split at w <;> omega
    · rw [if_neg l, if_neg l, if_neg l]
      by_cases d : 0 < nD b n i
      · rw [if_pos d, if_pos d, if_pos d]
        unfold dV
        by_cases d3 : nD b n i ≤ 3
        · rw [if_pos d3, if_pos d3]
          have h1 := numF_lt (b := b) (i := i) (nD b n i) (fun j hj => (isD_ok (run_all 201 i j hj)).2)
          have h2 : 10 ^ nD b n i ≤ 10 ^ 3 := Nat.pow_le_pow_right (by decide) d3
          exact ⟨fun _ => ⟨by omega, by omega, by rw [Nat.add_sub_cancel_left]⟩, fun _ _ => ⟨rfl, nI_pos (by omega)⟩⟩
        · rw [if_neg d3, if_neg d3]
          exact ⟨fun w => absurd (show (-1 : Int32) < 0 by decide) w.2, fun w => by omega⟩
      · rw [if_neg d, if_neg d, if_neg d]
        have := eb i
        exact ⟨fun w => absurd w.1 (by decide), fun w => by omega⟩
  · rw [if_neg z, if_neg z, if_neg z]
    exact ⟨fun w => absurd w.1 (by decide), fun w => by omega⟩
theorem q_word {b : Nat → Nat} {n i a : Nat} (eb : ∀ i, b i < 256) (ha : a < 6) : (mS b n i = 1 ∧ mW b n i = lN (wvs.getD a 0)) ↔ qt b n i = 257 + a := by
  unfold mS qt mW
  by_cases z : i < n
  · rw [if_pos z, if_pos z, if_pos z]
    by_cases l : 0 < nL b n i
    · rw [if_pos l, if_pos l, wL_spl (by omega) nL_all]
      have A := fw6_eq (b := b) (i := i) (L := nL b n i) (o := 0) (r := a) (by decide) nL_all ha
      rw [Nat.zero_add] at A
      rw [← A]
      by_cases y : fw6 b i (nL b n i) 6 < 6
      · rw [if_pos y]
        have B := (fw6_eq (b := b) (i := i) (L := nL b n i) (o := 6) (by decide) nL_all y).mp rfl
        exact ⟨fun w => absurd (spl_one (by omega) (by omega) nL_all (A.mp w.2) B) (by omega), fun w => by omega⟩
      · rw [if_neg y]
        by_cases x : fw6 b i (nL b n i) 0 < 6
        · rw [if_pos x]
          exact ⟨fun w => by rw [w.2], fun w => ⟨rfl, by omega⟩⟩
        · rw [if_neg x]
          exact ⟨fun w => by omega, fun w => by omega⟩
    · rw [if_neg l, if_neg l]
      by_cases d : 0 < nD b n i
      · rw [if_pos d, if_pos d]
        refine ⟨fun w => absurd w.1 (by decide), fun w => ?_⟩
        split at w <;> omega
      · rw [if_neg d, if_neg d]
        have := eb i
        exact ⟨fun w => absurd w.1 (by decide), fun w => by omega⟩
  · rw [if_neg z, if_neg z, if_neg z]
    exact ⟨fun w => absurd w.1 (by decide), fun w => by omega⟩
theorem q_name {b : Nat → Nat} {n i a : Nat} (eb : ∀ i, b i < 256) (ha : a < 6) : (mS b n i = 1 ∧ mW b n i = lN (wvs.getD (6 + a) 0)) ↔ qt b n i = 4000 + a := by
  unfold mS qt mW
  by_cases z : i < n
  · rw [if_pos z, if_pos z, if_pos z]
    by_cases l : 0 < nL b n i
    · rw [if_pos l, if_pos l, wL_spl (by omega) nL_all]
      have A := fw6_eq (b := b) (i := i) (L := nL b n i) (o := 6) (r := a) (by decide) nL_all ha
      rw [← A]
      by_cases y : fw6 b i (nL b n i) 6 < 6
      · rw [if_pos y]
        exact ⟨fun w => by rw [w.2], fun w => ⟨rfl, by omega⟩⟩
      · rw [if_neg y]
        have := @fw6_le b i (nL b n i) 0
        refine ⟨fun w => by omega, fun w => ?_⟩
        split at w <;> omega
    · rw [if_neg l, if_neg l]
      by_cases d : 0 < nD b n i
      · rw [if_pos d, if_pos d]
        refine ⟨fun w => absurd w.1 (by decide), fun w => ?_⟩
        split at w
        · have h1 := numF_lt (b := b) (i := i) (nD b n i) (fun j hj => (isD_ok (run_all 201 i j hj)).2)
          have h2 : 10 ^ nD b n i ≤ 10 ^ 3 := Nat.pow_le_pow_right (by decide) (by assumption)
          omega
        · omega
      · rw [if_neg d, if_neg d]
        have := eb i
        exact ⟨fun w => absurd w.1 (by decide), fun w => by omega⟩
  · rw [if_neg z, if_neg z, if_neg z]
    exact ⟨fun w => absurd w.1 (by decide), fun w => by omega⟩
