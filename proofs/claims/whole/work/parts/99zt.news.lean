/-! the start: both are new -/
def fl0 : Nat → Int32 := upd (fl_init 169) 84 0
theorem fli {p : Nat} : ∀ n, fl_init n p = if p < n then fl_v p else 0
  | 0 => rfl
  | n + 1 => by
    show (if p = n then fl_v n else fl_init n p) = _
    rw [fli n]
    by_cases e : p = n
    · rw [if_pos e, if_pos (by omega), e]
    · rw [if_neg e]
      by_cases c : p < n
      · rw [if_pos c, if_pos (by omega)]
      · rw [if_neg c, if_neg (by omega)]
theorem fl0_t : (∀ i, i < 91 → (if ma_cell i = 84 then (0 : Int32) else fl_v (ma_cell i)) ≠ -2 ∧ (if ma_cell i = 84 then (0 : Int32) else fl_v (ma_cell i)) = ml_bg i ∧ ma_cell i < 169 ∧ (ml_bg i = -1 ∨ ¬ ml_bg i < 0)) ∧ ∀ q, q < 169 → (cix q < 91 ∧ q = ma_cell (cix q)) ∨ (q ≠ 84 ∧ fl_v q = -2) := by decide +kernel
theorem fl0_v {q : Nat} (h : q < 169) : fl0 q = if q = 84 then 0 else fl_v q := by
  show (if q = 84 then (0 : Int32) else fl_init 169 q) = _
  rw [fli, if_pos h]
theorem fl0_ok : fl_ok fl0 := ⟨fun i hi => by rw [fl0_v (fl0_t.1 i hi).2.2.1]; exact (fl0_t.1 i hi).1, fun q hq w => by
  rcases fl0_t.2 q hq with ⟨a, b⟩ | ⟨a, b⟩
  · exact absurd b (w _ a)
  · rw [fl0_v hq, if_neg a, b]⟩
theorem fl0_eq {i : Nat} (hi : i < 91) : fl0 (ma_cell i) = ml_bg i := by
  rw [fl0_v (fl0_t.1 i hi).2.2.1]
  exact (fl0_t.1 i hi).2.1
set_option maxRecDepth 20000 in
theorem sh0 {sc : Nat × (Nat → Int32)} : Sh (HL sc (faC ++ moC 80)) := ⟨Nat.le_refl 115, fun a ha => match a, ha with
  | 0, _ => rfl
  | 1, _ => rfl
  | 2, _ => rfl
  | 3, _ => rfl
  | 4, _ => rfl
  | 5, _ => rfl
  | 6, _ => rfl
  | 7, _ => rfl
  | 8, _ => rfl
  | 9, _ => rfl
  | 10, _ => rfl
  | 11, _ => rfl
  | 12, _ => rfl
  | 13, _ => rfl
  | 14, _ => rfl
  | 15, _ => rfl
  | 16, _ => rfl
  | 17, _ => rfl
  | 18, _ => rfl
  | 19, _ => rfl
  | 20, _ => rfl
  | 21, _ => rfl
  | 22, _ => rfl
  | 23, _ => rfl
  | 24, _ => rfl
  | 25, _ => rfl
  | 26, _ => rfl
  | 27, _ => rfl
  | 28, _ => rfl
  | 29, _ => rfl
  | 30, _ => rfl
  | 31, _ => rfl
  | 32, _ => rfl
  | 33, _ => rfl
  | 34, _ => rfl
  | 35, _ => rfl
  | 36, _ => rfl
  | 37, _ => rfl
  | 38, _ => rfl
  | 39, _ => rfl
  | 40, _ => rfl
  | 41, _ => rfl
  | 42, _ => rfl
  | 43, _ => rfl
  | 44, _ => rfl
  | 45, _ => rfl
  | 46, _ => rfl
  | 47, _ => rfl
  | 48, _ => rfl
  | 49, _ => rfl
  | 50, _ => rfl
  | 51, _ => rfl
  | 52, _ => rfl
  | 53, _ => rfl
  | 54, _ => rfl
  | 55, _ => rfl
  | 56, _ => rfl
  | 57, _ => rfl
  | 58, _ => rfl
  | 59, _ => rfl
  | 60, _ => rfl
  | 61, _ => rfl
  | 62, _ => rfl
  | 63, _ => rfl
  | 64, _ => rfl
  | 65, _ => rfl
  | 66, _ => rfl
  | 67, _ => rfl
  | 68, _ => rfl
  | 69, _ => rfl
  | 70, _ => rfl
  | 71, _ => rfl
  | 72, _ => rfl
  | 73, _ => rfl
  | 74, _ => rfl
  | 75, _ => rfl
  | 76, _ => rfl
  | 77, _ => rfl
  | 78, _ => rfl
  | 79, _ => rfl
  | 80, _ => rfl
  | 81, _ => rfl
  | 82, _ => rfl
  | 83, _ => rfl
  | 84, _ => rfl
  | 85, _ => rfl
  | 86, _ => rfl
  | 87, _ => rfl
  | 88, _ => rfl
  | 89, _ => rfl
  | 90, _ => rfl
  | 91, _ => rfl
  | 92, _ => rfl
  | 93, _ => rfl
  | 94, _ => rfl
  | 95, _ => rfl
  | 96, _ => rfl
  | 97, _ => rfl
  | 98, _ => rfl
  | 99, _ => rfl
  | 100, _ => rfl
  | 101, _ => rfl
  | 102, _ => rfl
  | 103, _ => rfl
  | 104, _ => rfl
  | 105, _ => rfl
  | 106, _ => rfl
  | 107, _ => rfl
  | 108, _ => rfl
  | 109, _ => rfl
  | 110, _ => rfl
  | 111, _ => rfl
  | 112, _ => rfl
  | 113, _ => rfl
  | 114, _ => rfl
  | a + 115, ha => absurd ha (by omega)⟩
theorem inv0 {sc : Nat × (Nat → Int32)} {h1 : ma_H} (S : Sh h1) (R : Rt h1) (fr : ∀ a, ¬ (81 ≤ a ∧ a ≤ 88) → h1.2.1 a = (HL sc (faC ++ moC 80)).2.1 a) (bg : ∀ g, g < 4 → ∀ i, i < 91 → ai h1 88 (91 * g + i) = ml_bg i) : Inv h1 := by
  have e37 : ai h1 37 = fl0 := congrArg aiC (fr 37 (by decide))
  have e40 : ai h1 40 = fl0 := congrArg aiC (fr 40 (by decide))
  have e43 : ai h1 43 = fl0 := congrArg aiC (fr 43 (by decide))
  have e46 : ai h1 46 = fl0 := congrArg aiC (fr 46 (by decide))
  have e32 : ai h1 32 = fl0 := congrArg aiC (fr 32 (by decide))
  have f36_0 : fi h1 36 0 = 0 := congrArg (fun c => fiC c 0) (fr 36 (by decide))
  have f39_0 : fi h1 39 0 = 0 := congrArg (fun c => fiC c 0) (fr 39 (by decide))
  have f42_0 : fi h1 42 0 = 0 := congrArg (fun c => fiC c 0) (fr 42 (by decide))
  have f45_0 : fi h1 45 0 = 0 := congrArg (fun c => fiC c 0) (fr 45 (by decide))
  have e89 : ai h1 89 = fun _ => 0 := congrArg aiC (fr 89 (by decide))
  have e1 : ai h1 1 = fun _ => 0 := congrArg aiC (fr 1 (by decide))
  have e53 : ai h1 53 = fun _ => 0 := congrArg aiC (fr 53 (by decide))
  have e54 : ai h1 54 = fun _ => 0 := congrArg aiC (fr 54 (by decide))
  have e91 : ai h1 91 = fun _ => 0 := congrArg aiC (fr 91 (by decide))
  have e23 : ai h1 23 = upd (upd (upd (upd (fun _ => 0) 0 (-1)) 1 (-1)) 2 (-1)) 3 (-1) := congrArg aiC (fr 23 (by decide))
  have e106 : ai h1 106 = upd (upd (upd (upd (fun _ => 0) 0 (-1)) 1 (-1)) 2 (-1)) 3 (-1) := congrArg aiC (fr 106 (by decide))
  have e25 : ai h1 25 = upd (upd (upd (upd (fun _ => 0) 0 (-1)) 1 (-1)) 2 (-1)) 3 (-1) := congrArg aiC (fr 25 (by decide))
  have e109 : ai h1 109 = upd (upd (upd (upd (fun _ => 0) 0 (-1)) 1 (-1)) 2 (-1)) 3 (-1) := congrArg aiC (fr 109 (by decide))
  have e24 : ai h1 24 = fun _ => 0 := congrArg aiC (fr 24 (by decide))
  have e107 : ai h1 107 = fun _ => 0 := congrArg aiC (fr 107 (by decide))
  have e19 : ai h1 19 = fun _ => 0 := congrArg aiC (fr 19 (by decide))
  have e20 : ai h1 20 = fun _ => 0 := congrArg aiC (fr 20 (by decide))
  have e21 : ai h1 21 = fun _ => 0 := congrArg aiC (fr 21 (by decide))
  have e22 : ai h1 22 = fun _ => 0 := congrArg aiC (fr 22 (by decide))
  have e108 : al h1 108 = fun _ => 0 := congrArg alC (fr 108 (by decide))
  have f34_2 : fi h1 34 2 = 0 := congrArg (fun c => fiC c 2) (fr 34 (by decide))
  have f80_9 : fi h1 80 9 = 0 := congrArg (fun c => fiC c 9) (fr 80 (by decide))
  have f34_6 : fi h1 34 6 = 0 := congrArg (fun c => fiC c 6) (fr 34 (by decide))
  have f34_7 : fi h1 34 7 = 1 := congrArg (fun c => fiC c 7) (fr 34 (by decide))
  have f80_11 : fi h1 80 11 = 0 := congrArg (fun c => fiC c 11) (fr 80 (by decide))
  have f80_12 : fi h1 80 12 = 1 := congrArg (fun c => fiC c 12) (fr 80 (by decide))
  have f49_0 : fi h1 49 0 = 0 := congrArg (fun c => fiC c 0) (fr 49 (by decide))
  have f80_14 : fi h1 80 14 = 0 := congrArg (fun c => fiC c 14) (fr 80 (by decide))
  have f0_2 : fi h1 0 2 = 0 := congrArg (fun c => fiC c 2) (fr 0 (by decide))
  have f80_55 : fi h1 80 55 = 0 := congrArg (fun c => fiC c 55) (fr 80 (by decide))
  have f0_4 : fi h1 0 4 = 0 := congrArg (fun c => fiC c 4) (fr 0 (by decide))
  have f80_18 : fi h1 80 18 = 0 := congrArg (fun c => fiC c 18) (fr 80 (by decide))
  have f0_8 : fi h1 0 8 = 0 := congrArg (fun c => fiC c 8) (fr 0 (by decide))
  have f80_41 : fi h1 80 41 = 0 := congrArg (fun c => fiC c 41) (fr 80 (by decide))
  have f27_1 : fi h1 27 1 = 0 := congrArg (fun c => fiC c 1) (fr 27 (by decide))
  have f80_53 : fi h1 80 53 = 0 := congrArg (fun c => fiC c 53) (fr 80 (by decide))
  have e48 : ar h1 48 = fun _ => none := congrArg arC (fr 48 (by decide))
  have rr : Rr h1 := by
    refine ⟨?_, ?_, ?_, ?_⟩
    · intro f hf
      rw [show ar h1 35 = arC ((HL sc (faC ++ moC 80)).2.1 35) from congrArg arC (fr 35 (by decide))]
      match f, hf with
      | 0, _ => exact rfl
      | 1, _ => exact rfl
      | 2, _ => exact rfl
      | 3, _ => exact rfl
    · intro f hf
      rw [show ar h1 58 = arC ((HL sc (faC ++ moC 80)).2.1 58) from congrArg arC (fr 58 (by decide))]
      match f, hf with
      | 0, _ => exact rfl
      | 1, _ => exact rfl
      | 2, _ => exact rfl
      | 3, _ => exact rfl
    · intro f hf
      rw [show ar h1 11 = arC ((HL sc (faC ++ moC 80)).2.1 11) from congrArg arC (fr 11 (by decide))]
      match f, hf with
      | 0, _ => exact rfl
      | 1, _ => exact rfl
      | 2, _ => exact rfl
      | 3, _ => exact rfl
      | 4, _ => exact rfl
      | 5, _ => exact rfl
    · intro f hf
      rw [show ar h1 18 = arC ((HL sc (faC ++ moC 80)).2.1 18) from congrArg arC (fr 18 (by decide))]
      match f, hf with
      | 0, _ => exact rfl
      | 1, _ => exact rfl
      | 2, _ => exact rfl
      | 3, _ => exact rfl
  have e37f : ∀ f, f < 4 → ai h1 (37 + 3 * f) = fl0 := fun f hf => match f, hf with
    | 0, _ => e37
    | 1, _ => e40
    | 2, _ => e43
    | 3, _ => e46
  have f36f : ∀ f, f < 4 → fi h1 (36 + 3 * f) 0 = 0 := fun f hf => match f, hf with
    | 0, _ => f36_0
    | 1, _ => f39_0
    | 2, _ => f42_0
    | 3, _ => f45_0
  have e19f : ∀ s, s < 4 → ai h1 (19 + s) = fun _ => 0 := fun f hf => match f, hf with
    | 0, _ => e19
    | 1, _ => e20
    | 2, _ => e21
    | 3, _ => e22
  have m4 : ∀ s, s < 4 → (upd (upd (upd (upd (fun _ => 0) 0 (-1)) 1 (-1)) 2 (-1)) 3 (-1) : Nat → Int32) s = -1 := fun f hf => match f, hf with
    | 0, _ => rfl
    | 1, _ => rfl
    | 2, _ => rfl
    | 3, _ => rfl
  have nf : Nf h1 := by
    intro f hf
    dsimp only
    refine ⟨?_, fun i hi => ?_, fun i hi => ?_, ?_, 0, Nat.zero_le _, ?_⟩
    · rw [e37f f hf]; exact fl0_ok
    · rw [e37f f hf, fl0_eq hi, bg f hf i hi]
    · rw [bg f hf i hi]; exact (fl0_t.1 i hi).2.2.2
    · rw [f36f f hf, e89]
    · rw [e89]; rfl
  have ng : Ng h1 := by
    unfold Ng Wg
    rw [f34_2, f80_9, e48]
    exact ⟨⟨0, Nat.zero_le _, rfl, rfl, fun i hi => absurd hi (Nat.not_lt_zero _)⟩, fun i hi => Or.inl rfl⟩
  have nm : Nm h1 := by
    unfold Nm Wm
    rw [f34_6, f34_7, f80_11, f80_12]
    exact ⟨⟨0, Nat.zero_le _, rfl, rfl⟩, rfl⟩
  have na : Na h1 := by
    unfold Na Wa
    rw [e53, e54, e91]
    exact fun m hm => ⟨rfl, rfl⟩
  have nl : Nl h1 := by
    unfold Nl Wl
    rw [f49_0, f80_14]
    exact ⟨0, Nat.zero_le _, rfl, rfl, fun _ => 0, fun _ => 0, fun _ => [], fun _ => [], rfl, fun i hi => absurd hi (Nat.not_lt_zero _)⟩
  have rk : Rk h1 := Or.inl ⟨f0_2, f80_55⟩
  have rp : Rp h1 := ⟨0, Nat.zero_le _, f0_4, f80_18, fun i hi => absurd hi (Nat.not_lt_zero _), fun i => by rw [e1]; rfl⟩
  have rw_ : Rw h1 := ⟨0, Nat.zero_le _, f0_8, f80_41, fun i hi => absurd hi (Nat.not_lt_zero _)⟩
  have rs : Rs h1 := by
    intro s hs
    rw [e23, e24, e106, e107, e108, e19f s hs]
    exact ⟨rfl, Or.inl (m4 s hs), rfl, ⟨0, Nat.zero_le _, rfl⟩, fun i hi => rfl⟩
  have rv : Rv h1 := by
    intro s hs
    rw [e25, e109]
    exact Or.inl ⟨m4 s hs, m4 s hs⟩
  have ra : Ra h1 := ⟨0, Nat.zero_le _, f27_1, f80_53, fun i hi => absurd hi (Nat.not_lt_zero _)⟩
  have rc : Rc h1 := by
    unfold Rc
    rw [e32]
    exact fl0_ok
  exact ⟨S, rr, R, ⟨nf, ng, nm, na, nl⟩, rk, rp, rw_, rs, rv, ra, rc⟩
