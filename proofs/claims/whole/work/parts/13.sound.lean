/-! WHAT AN INSTRUCTION ASKS IS ENOUGH -/
theorem xi_inv {st : List Value} {f : Int32 → List Value → Prop} (h : xi st f) : ∃ x r, st = .int x :: r ∧ f x r := by
  match st, h with
  | .int x :: r, h => exact ⟨x, r, rfl, h⟩
theorem xl_inv {st : List Value} {f : Int64 → List Value → Prop} (h : xl st f) : ∃ x r, st = .long x :: r ∧ f x r := by
  match st, h with
  | .long x :: r, h => exact ⟨x, r, rfl, h⟩
theorem xr_inv {st : List Value} {f : Nat → List Value → Prop} (h : xr st f) : ∃ x r, st = .ref x :: r ∧ f x r := by
  match st, h with
  | .ref x :: r, h => exact ⟨x, r, rfl, h⟩
theorem xv_inv {st : List Value} {f : Value → List Value → Prop} (h : xv st f) : ∃ x r, st = x :: r ∧ f x r := by
  match st, h with
  | x :: r, h => exact ⟨x, r, rfl, h⟩
theorem xa_inv {st : List Value} {f g : Nat → List Value → Prop} (h : xa st f g) : (∃ x r, st = .ref x :: r ∧ f x r) ∨ ∃ x r, st = .retAddr x :: r ∧ g x r := by
  match st, h with
  | .ref x :: r, h => exact Or.inl ⟨x, r, rfl, h⟩
  | .retAddr x :: r, h => exact Or.inr ⟨x, r, rfl, h⟩
theorem xgi_inv {L : ma_L} {n : Nat} {f : Int32 → Prop} (h : xgi L n f) : ∃ x, L[n]? = some (some (.int x)) ∧ f x := by
  unfold xgi at h
  split at h
  · exact ⟨_, me_g_eq _ _ _ (by assumption), h⟩
  · exact h.elim
theorem xgl_inv {L : ma_L} {n : Nat} {f : Int64 → Prop} (h : xgl L n f) : ∃ x, L[n]? = some (some (.long x)) ∧ f x := by
  unfold xgl at h
  split at h
  · exact ⟨_, me_g_eq _ _ _ (by assumption), h⟩
  · exact h.elim
theorem xgr_inv {L : ma_L} {n : Nat} {f : Value → Prop} (h : xgr L n f) : ∃ x, L[n]? = some (some x) ∧ me_isR x ∧ f x := by
  unfold xgr at h
  split at h
  · exact ⟨_, me_g_eq _ _ _ (by assumption), h⟩
  · exact h.elim
theorem xo_inv {c : ma_C} {f : Nat → List Value → Prop} (h : xo c f) : ∃ ci fs, c = .inr (ci, fs) ∧ f ci fs := by
  match c, h with
  | .inr (ci, fs), h => exact ⟨ci, fs, rfl, h⟩
theorem xf_inv {fs : List Value} {k : Nat} {f : Value → Prop} (h : xf fs k f) : ∃ v, fs[k]? = some v ∧ f v := by
  unfold xf at h
  split at h
  · exact ⟨_, by assumption, h⟩
  · exact h.elim
theorem xI_inv {c : ma_C} {ty : FieldType} {f : Nat → (Nat → Int32) → Prop} (h : xI c ty f) : ∃ n g, c = .inl (ty, n, .inl g) ∧ f n g := by
  match c, h with
  | .inl (t, n, .inl g), h => exact ⟨n, g, by rw [h.1], h.2⟩
theorem xJ_inv {c : ma_C} {f : Nat → (Nat → Int64) → Prop} (h : xJ c f) : ∃ n g, c = .inl (.long, n, .inr (.inl g)) ∧ f n g := by
  match c, h with
  | .inl (t, n, .inr (.inl g)), h => exact ⟨n, g, by rw [h.1], h.2⟩
theorem xR_inv {c : ma_C} {f : FieldType → Nat → (Nat → Option Nat) → Prop} (h : xR c f) : ∃ t n g, c = .inl (t, n, .inr (.inr (.inr (.inr g)))) ∧ f t n g := by
  match c, h with
  | .inl (t, n, .inr (.inr (.inr (.inr g)))), h => exact ⟨t, n, g, rfl, h⟩
theorem xA_inv {c : ma_C} {f : FieldType → vp_A → Prop} (h : xA c f) : ∃ t a, c = .inl (t, a) ∧ f t a := by
  match c, h with
  | .inl (t, a), h => exact ⟨t, a, rfl, h⟩
theorem me_cat_eq {v : Value} {n : Nat} (h : me_cat v = n) : v.category = n := by
  subst h
  cases v <;> rfl
theorem xc_inv {m : Nat} {st : List Value} {f : List Value → List Value → Prop} (h : xc m st f) : ∃ as r, as.length = me_na m ∧ st = as.reverse ++ r ∧ f as r := by
  obtain ⟨h1, h2⟩ := h
  refine ⟨_, _, ?_, ?_, h2⟩
  · rw [List.length_reverse, List.length_take]
    omega
  · rw [List.reverse_reverse, List.take_append_drop]
theorem mk_a {a b : Bool} (h : (a && b) = true) : a = true ∧ b = true := (Bool.and_eq_true _ _).mp h
theorem mk_dec {p : Prop} [Decidable p] (h : decide p = true) : p := of_decide_eq_true h
theorem mk_tgt_ok {m pc : Nat} {off t : Int} (h : mk_tgt m pc off t = true) : (pc : Int) + off = (me_pc m t.toNat : Int) := of_decide_eq_true h
theorem mk_w_ok {w : Cond} (h : mk_w w = true) : w ∈ lw_ok := of_decide_eq_true h
theorem mk_lev_ok {m y : Nat} (h : mk_lev m y = true) : y < 285 ∧ mt_v y + 1 ≤ mt_v m := by
  unfold mk_lev at h
  simpa using h
theorem me_c_iconst {z : Int} {m k : Nat} {go aw : ma_K} {Q : ma_Q} {b : Nat × Nat} {L : ma_L} {st : List Value} {h : ma_H} (hm : m < 286) (hk : mk m (me_pc m k) (me_pc m (k + 1)) (.iconst z) = true) (hgo : ∀ k' b L st h, go k' b L st h → ma_P m (me_pc m k') b L st h Q) (haw : ∀ k' b L st h, aw k' b L st h → ma_P m (me_pc m k') b L st h Q) (hx : me_x m go aw Q (.iconst z) k b L st h) : ma_P m (me_pc m k) b L st h Q := by
  obtain ⟨hk, hk2⟩ := mk_a hk
  obtain ⟨d, e⟩ := mk_d_ok hk
  exact mr_iconst d (mk_dec hk2) (by rw [← e]; exact hgo _ _ _ _ _ hx)
theorem me_c_bipush {z : Int} {m k : Nat} {go aw : ma_K} {Q : ma_Q} {b : Nat × Nat} {L : ma_L} {st : List Value} {h : ma_H} (hm : m < 286) (hk : mk m (me_pc m k) (me_pc m (k + 1)) (.bipush z) = true) (hgo : ∀ k' b L st h, go k' b L st h → ma_P m (me_pc m k') b L st h Q) (haw : ∀ k' b L st h, aw k' b L st h → ma_P m (me_pc m k') b L st h Q) (hx : me_x m go aw Q (.bipush z) k b L st h) : ma_P m (me_pc m k) b L st h Q := by
  obtain ⟨hk, hk2⟩ := mk_a hk
  obtain ⟨d, e⟩ := mk_d_ok hk
  exact mr_bipush d (mk_dec hk2) (by rw [← e]; exact hgo _ _ _ _ _ hx)
theorem me_c_sipush {z : Int} {m k : Nat} {go aw : ma_K} {Q : ma_Q} {b : Nat × Nat} {L : ma_L} {st : List Value} {h : ma_H} (hm : m < 286) (hk : mk m (me_pc m k) (me_pc m (k + 1)) (.sipush z) = true) (hgo : ∀ k' b L st h, go k' b L st h → ma_P m (me_pc m k') b L st h Q) (haw : ∀ k' b L st h, aw k' b L st h → ma_P m (me_pc m k') b L st h Q) (hx : me_x m go aw Q (.sipush z) k b L st h) : ma_P m (me_pc m k) b L st h Q := by
  obtain ⟨hk, hk2⟩ := mk_a hk
  obtain ⟨d, e⟩ := mk_d_ok hk
  exact mr_sipush d (mk_dec hk2) (by rw [← e]; exact hgo _ _ _ _ _ hx)
theorem me_c_lconst {z : Fin 2} {m k : Nat} {go aw : ma_K} {Q : ma_Q} {b : Nat × Nat} {L : ma_L} {st : List Value} {h : ma_H} (hm : m < 286) (hk : mk m (me_pc m k) (me_pc m (k + 1)) (.lconst z) = true) (hgo : ∀ k' b L st h, go k' b L st h → ma_P m (me_pc m k') b L st h Q) (haw : ∀ k' b L st h, aw k' b L st h → ma_P m (me_pc m k') b L st h Q) (hx : me_x m go aw Q (.lconst z) k b L st h) : ma_P m (me_pc m k) b L st h Q := by
  obtain ⟨d, e⟩ := mk_d_ok hk
  exact mr_lconst d rfl (by rw [← e]; exact hgo _ _ _ _ _ hx)
theorem me_c_aconst_null  {m k : Nat} {go aw : ma_K} {Q : ma_Q} {b : Nat × Nat} {L : ma_L} {st : List Value} {h : ma_H} (hm : m < 286) (hk : mk m (me_pc m k) (me_pc m (k + 1)) (.aconst_null) = true) (hgo : ∀ k' b L st h, go k' b L st h → ma_P m (me_pc m k') b L st h Q) (haw : ∀ k' b L st h, aw k' b L st h → ma_P m (me_pc m k') b L st h Q) (hx : me_x m go aw Q (.aconst_null) k b L st h) : ma_P m (me_pc m k) b L st h Q := by
  obtain ⟨d, e⟩ := mk_d_ok hk
  exact mr_null d (by rw [← e]; exact hgo _ _ _ _ _ hx)
theorem me_c_jsr {z : Int} {m k : Nat} {go aw : ma_K} {Q : ma_Q} {b : Nat × Nat} {L : ma_L} {st : List Value} {h : ma_H} (hm : m < 286) (hk : mk m (me_pc m k) (me_pc m (k + 1)) (.jsr z) = true) (hgo : ∀ k' b L st h, go k' b L st h → ma_P m (me_pc m k') b L st h Q) (haw : ∀ k' b L st h, aw k' b L st h → ma_P m (me_pc m k') b L st h Q) (hx : me_x m go aw Q (.jsr z) k b L st h) : ma_P m (me_pc m k) b L st h Q := by
  obtain ⟨i, len, d, hk, e⟩ := mk_j_ok hk
  cases i <;> try (exact absurd hk Bool.false_ne_true)
  · obtain ⟨hk, hk2⟩ := mk_a hk
    have hl := mk_dec hk
    subst hl
    have hw := ln_ok _ (by simpa using hk2)
    exact mr_ldc d (by rw [me_cls m hm]; exact hw) (by rw [← e]; exact hgo _ _ _ _ _ hx)
  · obtain ⟨hk, hk2⟩ := mk_a hk
    have hl := mk_dec hk
    subst hl
    have hw := ln_ok _ (by simpa using hk2)
    exact mr_ldcw d (by rw [me_cls m hm]; exact hw) (by rw [← e]; exact hgo _ _ _ _ _ hx)
theorem me_c_jsr_w {z : Int} {m k : Nat} {go aw : ma_K} {Q : ma_Q} {b : Nat × Nat} {L : ma_L} {st : List Value} {h : ma_H} (hm : m < 286) (hk : mk m (me_pc m k) (me_pc m (k + 1)) (.jsr_w z) = true) (hgo : ∀ k' b L st h, go k' b L st h → ma_P m (me_pc m k') b L st h Q) (haw : ∀ k' b L st h, aw k' b L st h → ma_P m (me_pc m k') b L st h Q) (hx : me_x m go aw Q (.jsr_w z) k b L st h) : ma_P m (me_pc m k) b L st h Q := by
  obtain ⟨i, len, d, hk, e⟩ := mk_j_ok hk
  cases i <;> try (exact absurd hk Bool.false_ne_true)
  obtain ⟨hk, hk2⟩ := mk_a hk
  have hl := mk_dec hk
  subst hl
  have hw := ll_ok _ (by simpa using hk2)
  exact mr_ldc2 d (by rw [me_cls m hm]; exact hw) (by rw [← e]; exact hgo _ _ _ _ _ hx)
theorem me_c_ldc {q : Nat} {m k : Nat} {go aw : ma_K} {Q : ma_Q} {b : Nat × Nat} {L : ma_L} {st : List Value} {h : ma_H} (hm : m < 286) (hk : mk m (me_pc m k) (me_pc m (k + 1)) (.ldc q) = true) (hgo : ∀ k' b L st h, go k' b L st h → ma_P m (me_pc m k') b L st h Q) (haw : ∀ k' b L st h, aw k' b L st h → ma_P m (me_pc m k') b L st h Q) (hx : me_x m go aw Q (.ldc q) k b L st h) : ma_P m (me_pc m k) b L st h Q := by
  obtain ⟨i, len, d, hk, e⟩ := mk_j_ok hk
  cases i <;> try (exact absurd hk Bool.false_ne_true)
  obtain ⟨hk, h4⟩ := mk_a hk
  obtain ⟨hk, h3⟩ := mk_a hk
  obtain ⟨hk, h2⟩ := mk_a hk
  have hl := mk_dec hk
  subst hl
  exact mr_ldcS (mk_dec h2) (mk_dec h3) (by rw [me_cls m hm, mk_dec h4]; rfl) d (by rw [← e]; exact hgo _ _ _ _ _ hx)
theorem me_c_getstatic {j : Nat} {m k : Nat} {go aw : ma_K} {Q : ma_Q} {b : Nat × Nat} {L : ma_L} {st : List Value} {h : ma_H} (hm : m < 286) (hk : mk m (me_pc m k) (me_pc m (k + 1)) (.getstatic j) = true) (hgo : ∀ k' b L st h, go k' b L st h → ma_P m (me_pc m k') b L st h Q) (haw : ∀ k' b L st h, aw k' b L st h → ma_P m (me_pc m k') b L st h Q) (hx : me_x m go aw Q (.getstatic j) k b L st h) : ma_P m (me_pc m k) b L st h Q := by
  obtain ⟨i, len, d, hk, e⟩ := mk_j_ok hk
  cases i <;> try (exact absurd hk Bool.false_ne_true)
  obtain ⟨hk, hk2⟩ := mk_a hk
  have hl := mk_dec hk
  subst hl
  obtain ⟨h1, hw⟩ := ls_ok _ (show (_, _, _) ∈ ls_l by simpa using hk2)
  exact mr_getstatic h1 (by rw [me_cls m hm]; exact hw) d (by rw [← e]; exact hgo _ _ _ _ _ hx)
theorem me_c_iload {n : Nat} {m k : Nat} {go aw : ma_K} {Q : ma_Q} {b : Nat × Nat} {L : ma_L} {st : List Value} {h : ma_H} (hm : m < 286) (hk : mk m (me_pc m k) (me_pc m (k + 1)) (.iload n) = true) (hgo : ∀ k' b L st h, go k' b L st h → ma_P m (me_pc m k') b L st h Q) (haw : ∀ k' b L st h, aw k' b L st h → ma_P m (me_pc m k') b L st h Q) (hx : me_x m go aw Q (.iload n) k b L st h) : ma_P m (me_pc m k) b L st h Q := by
  obtain ⟨d, e⟩ := mk_d_ok hk
  have hx0 := xgi_inv hx
  clear hx
  obtain ⟨x, hv, hx⟩ := hx0
  exact mr_iload d hv (by rw [← e]; exact hgo _ _ _ _ _ hx)
theorem me_c_iload_n {n : Fin 4} {m k : Nat} {go aw : ma_K} {Q : ma_Q} {b : Nat × Nat} {L : ma_L} {st : List Value} {h : ma_H} (hm : m < 286) (hk : mk m (me_pc m k) (me_pc m (k + 1)) (.iload_n n) = true) (hgo : ∀ k' b L st h, go k' b L st h → ma_P m (me_pc m k') b L st h Q) (haw : ∀ k' b L st h, aw k' b L st h → ma_P m (me_pc m k') b L st h Q) (hx : me_x m go aw Q (.iload_n n) k b L st h) : ma_P m (me_pc m k) b L st h Q := by
  obtain ⟨d, e⟩ := mk_d_ok hk
  have hx0 := xgi_inv hx
  clear hx
  obtain ⟨x, hv, hx⟩ := hx0
  exact mr_iload_n d hv (by rw [← e]; exact hgo _ _ _ _ _ hx)
theorem me_c_lload {n : Nat} {m k : Nat} {go aw : ma_K} {Q : ma_Q} {b : Nat × Nat} {L : ma_L} {st : List Value} {h : ma_H} (hm : m < 286) (hk : mk m (me_pc m k) (me_pc m (k + 1)) (.lload n) = true) (hgo : ∀ k' b L st h, go k' b L st h → ma_P m (me_pc m k') b L st h Q) (haw : ∀ k' b L st h, aw k' b L st h → ma_P m (me_pc m k') b L st h Q) (hx : me_x m go aw Q (.lload n) k b L st h) : ma_P m (me_pc m k) b L st h Q := by
  obtain ⟨d, e⟩ := mk_d_ok hk
  have hx0 := xgl_inv hx
  clear hx
  obtain ⟨x, hv, hx⟩ := hx0
  exact mr_lload d hv (by rw [← e]; exact hgo _ _ _ _ _ hx)
theorem me_c_lload_n {n : Fin 4} {m k : Nat} {go aw : ma_K} {Q : ma_Q} {b : Nat × Nat} {L : ma_L} {st : List Value} {h : ma_H} (hm : m < 286) (hk : mk m (me_pc m k) (me_pc m (k + 1)) (.lload_n n) = true) (hgo : ∀ k' b L st h, go k' b L st h → ma_P m (me_pc m k') b L st h Q) (haw : ∀ k' b L st h, aw k' b L st h → ma_P m (me_pc m k') b L st h Q) (hx : me_x m go aw Q (.lload_n n) k b L st h) : ma_P m (me_pc m k) b L st h Q := by
  obtain ⟨d, e⟩ := mk_d_ok hk
  have hx0 := xgl_inv hx
  clear hx
  obtain ⟨x, hv, hx⟩ := hx0
  exact mr_lload_n d hv (by rw [← e]; exact hgo _ _ _ _ _ hx)
theorem me_c_aload {n : Nat} {m k : Nat} {go aw : ma_K} {Q : ma_Q} {b : Nat × Nat} {L : ma_L} {st : List Value} {h : ma_H} (hm : m < 286) (hk : mk m (me_pc m k) (me_pc m (k + 1)) (.aload n) = true) (hgo : ∀ k' b L st h, go k' b L st h → ma_P m (me_pc m k') b L st h Q) (haw : ∀ k' b L st h, aw k' b L st h → ma_P m (me_pc m k') b L st h Q) (hx : me_x m go aw Q (.aload n) k b L st h) : ma_P m (me_pc m k) b L st h Q := by
  obtain ⟨d, e⟩ := mk_d_ok hk
  have hx0 := xgr_inv hx
  clear hx
  obtain ⟨x, hv, hr, hx⟩ := hx0
  exact mr_aload d hv (me_isR_eq hr) (by rw [← e]; exact hgo _ _ _ _ _ hx)
theorem me_c_aload_n {n : Fin 4} {m k : Nat} {go aw : ma_K} {Q : ma_Q} {b : Nat × Nat} {L : ma_L} {st : List Value} {h : ma_H} (hm : m < 286) (hk : mk m (me_pc m k) (me_pc m (k + 1)) (.aload_n n) = true) (hgo : ∀ k' b L st h, go k' b L st h → ma_P m (me_pc m k') b L st h Q) (haw : ∀ k' b L st h, aw k' b L st h → ma_P m (me_pc m k') b L st h Q) (hx : me_x m go aw Q (.aload_n n) k b L st h) : ma_P m (me_pc m k) b L st h Q := by
  obtain ⟨d, e⟩ := mk_d_ok hk
  have hx0 := xgr_inv hx
  clear hx
  obtain ⟨x, hv, hr, hx⟩ := hx0
  exact mr_aload_n d hv (me_isR_eq hr) (by rw [← e]; exact hgo _ _ _ _ _ hx)
theorem me_c_istore {n : Nat} {m k : Nat} {go aw : ma_K} {Q : ma_Q} {b : Nat × Nat} {L : ma_L} {st : List Value} {h : ma_H} (hm : m < 286) (hk : mk m (me_pc m k) (me_pc m (k + 1)) (.istore n) = true) (hgo : ∀ k' b L st h, go k' b L st h → ma_P m (me_pc m k') b L st h Q) (haw : ∀ k' b L st h, aw k' b L st h → ma_P m (me_pc m k') b L st h Q) (hx : me_x m go aw Q (.istore n) k b L st h) : ma_P m (me_pc m k) b L st h Q := by
  obtain ⟨hk, hk2⟩ := mk_a hk
  obtain ⟨d, e⟩ := mk_d_ok hk
  have hx0 := xi_inv hx
  clear hx
  obtain ⟨x, r, rfl, hp, hx⟩ := hx0
  rw [me_s_eq] at hx
  exact mr_istore d (mk_dec hk2) (me_nl_eq hp) (by rw [← e]; exact hgo _ _ _ _ _ hx)
theorem me_c_lstore {n : Nat} {m k : Nat} {go aw : ma_K} {Q : ma_Q} {b : Nat × Nat} {L : ma_L} {st : List Value} {h : ma_H} (hm : m < 286) (hk : mk m (me_pc m k) (me_pc m (k + 1)) (.lstore n) = true) (hgo : ∀ k' b L st h, go k' b L st h → ma_P m (me_pc m k') b L st h Q) (haw : ∀ k' b L st h, aw k' b L st h → ma_P m (me_pc m k') b L st h Q) (hx : me_x m go aw Q (.lstore n) k b L st h) : ma_P m (me_pc m k) b L st h Q := by
  obtain ⟨hk, hk2⟩ := mk_a hk
  obtain ⟨d, e⟩ := mk_d_ok hk
  have hx0 := xl_inv hx
  clear hx
  obtain ⟨x, r, rfl, hp, hx⟩ := hx0
  rw [me_s_eq, me_s_eq] at hx
  exact mr_lstore d (mk_dec hk2) (me_nl_eq hp) (by rw [← e]; exact hgo _ _ _ _ _ hx)
theorem me_c_astore {n : Nat} {m k : Nat} {go aw : ma_K} {Q : ma_Q} {b : Nat × Nat} {L : ma_L} {st : List Value} {h : ma_H} (hm : m < 286) (hk : mk m (me_pc m k) (me_pc m (k + 1)) (.astore n) = true) (hgo : ∀ k' b L st h, go k' b L st h → ma_P m (me_pc m k') b L st h Q) (haw : ∀ k' b L st h, aw k' b L st h → ma_P m (me_pc m k') b L st h Q) (hx : me_x m go aw Q (.astore n) k b L st h) : ma_P m (me_pc m k) b L st h Q := by
  obtain ⟨hk, hk2⟩ := mk_a hk
  obtain ⟨d, e⟩ := mk_d_ok hk
  have hx0 := xv_inv hx
  clear hx
  obtain ⟨x, r, rfl, hr, hp, hx⟩ := hx0
  rw [me_s_eq] at hx
  exact mr_astore d (mk_dec hk2) (me_nl_eq hp) (me_isR_eq hr) (by rw [← e]; exact hgo _ _ _ _ _ hx)
theorem me_c_istore_n {n : Fin 4} {m k : Nat} {go aw : ma_K} {Q : ma_Q} {b : Nat × Nat} {L : ma_L} {st : List Value} {h : ma_H} (hm : m < 286) (hk : mk m (me_pc m k) (me_pc m (k + 1)) (.istore_n n) = true) (hgo : ∀ k' b L st h, go k' b L st h → ma_P m (me_pc m k') b L st h Q) (haw : ∀ k' b L st h, aw k' b L st h → ma_P m (me_pc m k') b L st h Q) (hx : me_x m go aw Q (.istore_n n) k b L st h) : ma_P m (me_pc m k) b L st h Q := by
  obtain ⟨hk, hk2⟩ := mk_a hk
  obtain ⟨d, e⟩ := mk_d_ok hk
  have hx0 := xi_inv hx
  clear hx
  obtain ⟨x, r, rfl, hp, hx⟩ := hx0
  rw [me_s_eq] at hx
  exact mr_istore_n d (mk_dec hk2) (me_nl_eq hp) (by rw [← e]; exact hgo _ _ _ _ _ hx)
theorem me_c_lstore_n {n : Fin 4} {m k : Nat} {go aw : ma_K} {Q : ma_Q} {b : Nat × Nat} {L : ma_L} {st : List Value} {h : ma_H} (hm : m < 286) (hk : mk m (me_pc m k) (me_pc m (k + 1)) (.lstore_n n) = true) (hgo : ∀ k' b L st h, go k' b L st h → ma_P m (me_pc m k') b L st h Q) (haw : ∀ k' b L st h, aw k' b L st h → ma_P m (me_pc m k') b L st h Q) (hx : me_x m go aw Q (.lstore_n n) k b L st h) : ma_P m (me_pc m k) b L st h Q := by
  obtain ⟨hk, hk2⟩ := mk_a hk
  obtain ⟨d, e⟩ := mk_d_ok hk
  have hx0 := xl_inv hx
  clear hx
  obtain ⟨x, r, rfl, hp, hx⟩ := hx0
  rw [me_s_eq, me_s_eq] at hx
  exact mr_lstore_n d (mk_dec hk2) (me_nl_eq hp) (by rw [← e]; exact hgo _ _ _ _ _ hx)
theorem me_c_astore_n {n : Fin 4} {m k : Nat} {go aw : ma_K} {Q : ma_Q} {b : Nat × Nat} {L : ma_L} {st : List Value} {h : ma_H} (hm : m < 286) (hk : mk m (me_pc m k) (me_pc m (k + 1)) (.astore_n n) = true) (hgo : ∀ k' b L st h, go k' b L st h → ma_P m (me_pc m k') b L st h Q) (haw : ∀ k' b L st h, aw k' b L st h → ma_P m (me_pc m k') b L st h Q) (hx : me_x m go aw Q (.astore_n n) k b L st h) : ma_P m (me_pc m k) b L st h Q := by
  obtain ⟨hk, hk2⟩ := mk_a hk
  obtain ⟨d, e⟩ := mk_d_ok hk
  have hx0 := xv_inv hx
  clear hx
  obtain ⟨x, r, rfl, hr, hp, hx⟩ := hx0
  rw [me_s_eq] at hx
  exact mr_astore_n d (mk_dec hk2) (me_nl_eq hp) (me_isR_eq hr) (by rw [← e]; exact hgo _ _ _ _ _ hx)
theorem me_c_iinc {n : Nat} {z : Int} {m k : Nat} {go aw : ma_K} {Q : ma_Q} {b : Nat × Nat} {L : ma_L} {st : List Value} {h : ma_H} (hm : m < 286) (hk : mk m (me_pc m k) (me_pc m (k + 1)) (.iinc n z) = true) (hgo : ∀ k' b L st h, go k' b L st h → ma_P m (me_pc m k') b L st h Q) (haw : ∀ k' b L st h, aw k' b L st h → ma_P m (me_pc m k') b L st h Q) (hx : me_x m go aw Q (.iinc n z) k b L st h) : ma_P m (me_pc m k) b L st h Q := by
  obtain ⟨hk, h3⟩ := mk_a hk
  obtain ⟨hk, hk2⟩ := mk_a hk
  obtain ⟨d, e⟩ := mk_d_ok hk
  have hx0 := xgi_inv hx
  clear hx
  obtain ⟨x, hv, hp, hx⟩ := hx0
  rw [me_s_eq] at hx
  exact mr_iinc d hv (mk_dec hk2) (me_nl_eq hp) (mk_dec h3) (by rw [← e]; exact hgo _ _ _ _ _ hx)
theorem me_c_iadd  {m k : Nat} {go aw : ma_K} {Q : ma_Q} {b : Nat × Nat} {L : ma_L} {st : List Value} {h : ma_H} (hm : m < 286) (hk : mk m (me_pc m k) (me_pc m (k + 1)) (.iadd) = true) (hgo : ∀ k' b L st h, go k' b L st h → ma_P m (me_pc m k') b L st h Q) (haw : ∀ k' b L st h, aw k' b L st h → ma_P m (me_pc m k') b L st h Q) (hx : me_x m go aw Q (.iadd) k b L st h) : ma_P m (me_pc m k) b L st h Q := by
  obtain ⟨d, e⟩ := mk_d_ok hk
  have hx0 := xi_inv hx
  clear hx
  obtain ⟨y, r, rfl, hx⟩ := hx0
  have hx0 := xi_inv hx
  clear hx
  obtain ⟨x, r, rfl, hx⟩ := hx0
  exact mr_iadd d (by rw [← e]; exact hgo _ _ _ _ _ hx)
theorem me_c_isub  {m k : Nat} {go aw : ma_K} {Q : ma_Q} {b : Nat × Nat} {L : ma_L} {st : List Value} {h : ma_H} (hm : m < 286) (hk : mk m (me_pc m k) (me_pc m (k + 1)) (.isub) = true) (hgo : ∀ k' b L st h, go k' b L st h → ma_P m (me_pc m k') b L st h Q) (haw : ∀ k' b L st h, aw k' b L st h → ma_P m (me_pc m k') b L st h Q) (hx : me_x m go aw Q (.isub) k b L st h) : ma_P m (me_pc m k) b L st h Q := by
  obtain ⟨d, e⟩ := mk_d_ok hk
  have hx0 := xi_inv hx
  clear hx
  obtain ⟨y, r, rfl, hx⟩ := hx0
  have hx0 := xi_inv hx
  clear hx
  obtain ⟨x, r, rfl, hx⟩ := hx0
  exact mr_isub d (by rw [← e]; exact hgo _ _ _ _ _ hx)
theorem me_c_imul  {m k : Nat} {go aw : ma_K} {Q : ma_Q} {b : Nat × Nat} {L : ma_L} {st : List Value} {h : ma_H} (hm : m < 286) (hk : mk m (me_pc m k) (me_pc m (k + 1)) (.imul) = true) (hgo : ∀ k' b L st h, go k' b L st h → ma_P m (me_pc m k') b L st h Q) (haw : ∀ k' b L st h, aw k' b L st h → ma_P m (me_pc m k') b L st h Q) (hx : me_x m go aw Q (.imul) k b L st h) : ma_P m (me_pc m k) b L st h Q := by
  obtain ⟨d, e⟩ := mk_d_ok hk
  have hx0 := xi_inv hx
  clear hx
  obtain ⟨y, r, rfl, hx⟩ := hx0
  have hx0 := xi_inv hx
  clear hx
  obtain ⟨x, r, rfl, hx⟩ := hx0
  exact mr_imul d (by rw [← e]; exact hgo _ _ _ _ _ hx)
theorem me_c_iand  {m k : Nat} {go aw : ma_K} {Q : ma_Q} {b : Nat × Nat} {L : ma_L} {st : List Value} {h : ma_H} (hm : m < 286) (hk : mk m (me_pc m k) (me_pc m (k + 1)) (.iand) = true) (hgo : ∀ k' b L st h, go k' b L st h → ma_P m (me_pc m k') b L st h Q) (haw : ∀ k' b L st h, aw k' b L st h → ma_P m (me_pc m k') b L st h Q) (hx : me_x m go aw Q (.iand) k b L st h) : ma_P m (me_pc m k) b L st h Q := by
  obtain ⟨d, e⟩ := mk_d_ok hk
  have hx0 := xi_inv hx
  clear hx
  obtain ⟨y, r, rfl, hx⟩ := hx0
  have hx0 := xi_inv hx
  clear hx
  obtain ⟨x, r, rfl, hx⟩ := hx0
  exact mr_iand d (by rw [← e]; exact hgo _ _ _ _ _ hx)
theorem me_c_ior  {m k : Nat} {go aw : ma_K} {Q : ma_Q} {b : Nat × Nat} {L : ma_L} {st : List Value} {h : ma_H} (hm : m < 286) (hk : mk m (me_pc m k) (me_pc m (k + 1)) (.ior) = true) (hgo : ∀ k' b L st h, go k' b L st h → ma_P m (me_pc m k') b L st h Q) (haw : ∀ k' b L st h, aw k' b L st h → ma_P m (me_pc m k') b L st h Q) (hx : me_x m go aw Q (.ior) k b L st h) : ma_P m (me_pc m k) b L st h Q := by
  obtain ⟨d, e⟩ := mk_d_ok hk
  have hx0 := xi_inv hx
  clear hx
  obtain ⟨y, r, rfl, hx⟩ := hx0
  have hx0 := xi_inv hx
  clear hx
  obtain ⟨x, r, rfl, hx⟩ := hx0
  exact mr_ior d (by rw [← e]; exact hgo _ _ _ _ _ hx)
theorem me_c_ixor  {m k : Nat} {go aw : ma_K} {Q : ma_Q} {b : Nat × Nat} {L : ma_L} {st : List Value} {h : ma_H} (hm : m < 286) (hk : mk m (me_pc m k) (me_pc m (k + 1)) (.ixor) = true) (hgo : ∀ k' b L st h, go k' b L st h → ma_P m (me_pc m k') b L st h Q) (haw : ∀ k' b L st h, aw k' b L st h → ma_P m (me_pc m k') b L st h Q) (hx : me_x m go aw Q (.ixor) k b L st h) : ma_P m (me_pc m k) b L st h Q := by
  obtain ⟨d, e⟩ := mk_d_ok hk
  have hx0 := xi_inv hx
  clear hx
  obtain ⟨y, r, rfl, hx⟩ := hx0
  have hx0 := xi_inv hx
  clear hx
  obtain ⟨x, r, rfl, hx⟩ := hx0
  exact mr_ixor d (by rw [← e]; exact hgo _ _ _ _ _ hx)
theorem me_c_ishl  {m k : Nat} {go aw : ma_K} {Q : ma_Q} {b : Nat × Nat} {L : ma_L} {st : List Value} {h : ma_H} (hm : m < 286) (hk : mk m (me_pc m k) (me_pc m (k + 1)) (.ishl) = true) (hgo : ∀ k' b L st h, go k' b L st h → ma_P m (me_pc m k') b L st h Q) (haw : ∀ k' b L st h, aw k' b L st h → ma_P m (me_pc m k') b L st h Q) (hx : me_x m go aw Q (.ishl) k b L st h) : ma_P m (me_pc m k) b L st h Q := by
  obtain ⟨d, e⟩ := mk_d_ok hk
  have hx0 := xi_inv hx
  clear hx
  obtain ⟨y, r, rfl, hx⟩ := hx0
  have hx0 := xi_inv hx
  clear hx
  obtain ⟨x, r, rfl, hx⟩ := hx0
  exact mr_ishl d (by rw [← e]; exact hgo _ _ _ _ _ hx)
theorem me_c_ishr  {m k : Nat} {go aw : ma_K} {Q : ma_Q} {b : Nat × Nat} {L : ma_L} {st : List Value} {h : ma_H} (hm : m < 286) (hk : mk m (me_pc m k) (me_pc m (k + 1)) (.ishr) = true) (hgo : ∀ k' b L st h, go k' b L st h → ma_P m (me_pc m k') b L st h Q) (haw : ∀ k' b L st h, aw k' b L st h → ma_P m (me_pc m k') b L st h Q) (hx : me_x m go aw Q (.ishr) k b L st h) : ma_P m (me_pc m k) b L st h Q := by
  obtain ⟨d, e⟩ := mk_d_ok hk
  have hx0 := xi_inv hx
  clear hx
  obtain ⟨y, r, rfl, hx⟩ := hx0
  have hx0 := xi_inv hx
  clear hx
  obtain ⟨x, r, rfl, hx⟩ := hx0
  exact mr_ishr d (by rw [← e]; exact hgo _ _ _ _ _ hx)
theorem me_c_iushr  {m k : Nat} {go aw : ma_K} {Q : ma_Q} {b : Nat × Nat} {L : ma_L} {st : List Value} {h : ma_H} (hm : m < 286) (hk : mk m (me_pc m k) (me_pc m (k + 1)) (.iushr) = true) (hgo : ∀ k' b L st h, go k' b L st h → ma_P m (me_pc m k') b L st h Q) (haw : ∀ k' b L st h, aw k' b L st h → ma_P m (me_pc m k') b L st h Q) (hx : me_x m go aw Q (.iushr) k b L st h) : ma_P m (me_pc m k) b L st h Q := by
  obtain ⟨d, e⟩ := mk_d_ok hk
  have hx0 := xi_inv hx
  clear hx
  obtain ⟨y, r, rfl, hx⟩ := hx0
  have hx0 := xi_inv hx
  clear hx
  obtain ⟨x, r, rfl, hx⟩ := hx0
  exact mr_iushr d (by rw [← e]; exact hgo _ _ _ _ _ hx)
theorem me_c_idiv  {m k : Nat} {go aw : ma_K} {Q : ma_Q} {b : Nat × Nat} {L : ma_L} {st : List Value} {h : ma_H} (hm : m < 286) (hk : mk m (me_pc m k) (me_pc m (k + 1)) (.idiv) = true) (hgo : ∀ k' b L st h, go k' b L st h → ma_P m (me_pc m k') b L st h Q) (haw : ∀ k' b L st h, aw k' b L st h → ma_P m (me_pc m k') b L st h Q) (hx : me_x m go aw Q (.idiv) k b L st h) : ma_P m (me_pc m k) b L st h Q := by
  obtain ⟨d, e⟩ := mk_d_ok hk
  have hx0 := xi_inv hx
  clear hx
  obtain ⟨y, r, rfl, hx⟩ := hx0
  have hx0 := xi_inv hx
  clear hx
  obtain ⟨x, r, rfl, hne, hx⟩ := hx0
  exact mr_idiv d hne (by rw [← e]; exact hgo _ _ _ _ _ hx)
theorem me_c_irem  {m k : Nat} {go aw : ma_K} {Q : ma_Q} {b : Nat × Nat} {L : ma_L} {st : List Value} {h : ma_H} (hm : m < 286) (hk : mk m (me_pc m k) (me_pc m (k + 1)) (.irem) = true) (hgo : ∀ k' b L st h, go k' b L st h → ma_P m (me_pc m k') b L st h Q) (haw : ∀ k' b L st h, aw k' b L st h → ma_P m (me_pc m k') b L st h Q) (hx : me_x m go aw Q (.irem) k b L st h) : ma_P m (me_pc m k) b L st h Q := by
  obtain ⟨d, e⟩ := mk_d_ok hk
  have hx0 := xi_inv hx
  clear hx
  obtain ⟨y, r, rfl, hx⟩ := hx0
  have hx0 := xi_inv hx
  clear hx
  obtain ⟨x, r, rfl, hne, hx⟩ := hx0
  exact mr_irem d hne (by rw [← e]; exact hgo _ _ _ _ _ hx)
theorem me_c_ladd  {m k : Nat} {go aw : ma_K} {Q : ma_Q} {b : Nat × Nat} {L : ma_L} {st : List Value} {h : ma_H} (hm : m < 286) (hk : mk m (me_pc m k) (me_pc m (k + 1)) (.ladd) = true) (hgo : ∀ k' b L st h, go k' b L st h → ma_P m (me_pc m k') b L st h Q) (haw : ∀ k' b L st h, aw k' b L st h → ma_P m (me_pc m k') b L st h Q) (hx : me_x m go aw Q (.ladd) k b L st h) : ma_P m (me_pc m k) b L st h Q := by
  obtain ⟨d, e⟩ := mk_d_ok hk
  have hx0 := xl_inv hx
  clear hx
  obtain ⟨y, r, rfl, hx⟩ := hx0
  have hx0 := xl_inv hx
  clear hx
  obtain ⟨x, r, rfl, hx⟩ := hx0
  exact mr_ladd d (by rw [← e]; exact hgo _ _ _ _ _ hx)
theorem me_c_lsub  {m k : Nat} {go aw : ma_K} {Q : ma_Q} {b : Nat × Nat} {L : ma_L} {st : List Value} {h : ma_H} (hm : m < 286) (hk : mk m (me_pc m k) (me_pc m (k + 1)) (.lsub) = true) (hgo : ∀ k' b L st h, go k' b L st h → ma_P m (me_pc m k') b L st h Q) (haw : ∀ k' b L st h, aw k' b L st h → ma_P m (me_pc m k') b L st h Q) (hx : me_x m go aw Q (.lsub) k b L st h) : ma_P m (me_pc m k) b L st h Q := by
  obtain ⟨d, e⟩ := mk_d_ok hk
  have hx0 := xl_inv hx
  clear hx
  obtain ⟨y, r, rfl, hx⟩ := hx0
  have hx0 := xl_inv hx
  clear hx
  obtain ⟨x, r, rfl, hx⟩ := hx0
  exact mr_lsub d (by rw [← e]; exact hgo _ _ _ _ _ hx)
theorem me_c_lmul  {m k : Nat} {go aw : ma_K} {Q : ma_Q} {b : Nat × Nat} {L : ma_L} {st : List Value} {h : ma_H} (hm : m < 286) (hk : mk m (me_pc m k) (me_pc m (k + 1)) (.lmul) = true) (hgo : ∀ k' b L st h, go k' b L st h → ma_P m (me_pc m k') b L st h Q) (haw : ∀ k' b L st h, aw k' b L st h → ma_P m (me_pc m k') b L st h Q) (hx : me_x m go aw Q (.lmul) k b L st h) : ma_P m (me_pc m k) b L st h Q := by
  obtain ⟨d, e⟩ := mk_d_ok hk
  have hx0 := xl_inv hx
  clear hx
  obtain ⟨y, r, rfl, hx⟩ := hx0
  have hx0 := xl_inv hx
  clear hx
  obtain ⟨x, r, rfl, hx⟩ := hx0
  exact mr_lmul d (by rw [← e]; exact hgo _ _ _ _ _ hx)
theorem me_c_land  {m k : Nat} {go aw : ma_K} {Q : ma_Q} {b : Nat × Nat} {L : ma_L} {st : List Value} {h : ma_H} (hm : m < 286) (hk : mk m (me_pc m k) (me_pc m (k + 1)) (.land) = true) (hgo : ∀ k' b L st h, go k' b L st h → ma_P m (me_pc m k') b L st h Q) (haw : ∀ k' b L st h, aw k' b L st h → ma_P m (me_pc m k') b L st h Q) (hx : me_x m go aw Q (.land) k b L st h) : ma_P m (me_pc m k) b L st h Q := by
  obtain ⟨d, e⟩ := mk_d_ok hk
  have hx0 := xl_inv hx
  clear hx
  obtain ⟨y, r, rfl, hx⟩ := hx0
  have hx0 := xl_inv hx
  clear hx
  obtain ⟨x, r, rfl, hx⟩ := hx0
  exact mr_land d (by rw [← e]; exact hgo _ _ _ _ _ hx)
theorem me_c_lor  {m k : Nat} {go aw : ma_K} {Q : ma_Q} {b : Nat × Nat} {L : ma_L} {st : List Value} {h : ma_H} (hm : m < 286) (hk : mk m (me_pc m k) (me_pc m (k + 1)) (.lor) = true) (hgo : ∀ k' b L st h, go k' b L st h → ma_P m (me_pc m k') b L st h Q) (haw : ∀ k' b L st h, aw k' b L st h → ma_P m (me_pc m k') b L st h Q) (hx : me_x m go aw Q (.lor) k b L st h) : ma_P m (me_pc m k) b L st h Q := by
  obtain ⟨d, e⟩ := mk_d_ok hk
  have hx0 := xl_inv hx
  clear hx
  obtain ⟨y, r, rfl, hx⟩ := hx0
  have hx0 := xl_inv hx
  clear hx
  obtain ⟨x, r, rfl, hx⟩ := hx0
  exact mr_lor d (by rw [← e]; exact hgo _ _ _ _ _ hx)
theorem me_c_lxor  {m k : Nat} {go aw : ma_K} {Q : ma_Q} {b : Nat × Nat} {L : ma_L} {st : List Value} {h : ma_H} (hm : m < 286) (hk : mk m (me_pc m k) (me_pc m (k + 1)) (.lxor) = true) (hgo : ∀ k' b L st h, go k' b L st h → ma_P m (me_pc m k') b L st h Q) (haw : ∀ k' b L st h, aw k' b L st h → ma_P m (me_pc m k') b L st h Q) (hx : me_x m go aw Q (.lxor) k b L st h) : ma_P m (me_pc m k) b L st h Q := by
  obtain ⟨d, e⟩ := mk_d_ok hk
  have hx0 := xl_inv hx
  clear hx
  obtain ⟨y, r, rfl, hx⟩ := hx0
  have hx0 := xl_inv hx
  clear hx
  obtain ⟨x, r, rfl, hx⟩ := hx0
  exact mr_lxor d (by rw [← e]; exact hgo _ _ _ _ _ hx)
theorem me_c_lcmp  {m k : Nat} {go aw : ma_K} {Q : ma_Q} {b : Nat × Nat} {L : ma_L} {st : List Value} {h : ma_H} (hm : m < 286) (hk : mk m (me_pc m k) (me_pc m (k + 1)) (.lcmp) = true) (hgo : ∀ k' b L st h, go k' b L st h → ma_P m (me_pc m k') b L st h Q) (haw : ∀ k' b L st h, aw k' b L st h → ma_P m (me_pc m k') b L st h Q) (hx : me_x m go aw Q (.lcmp) k b L st h) : ma_P m (me_pc m k) b L st h Q := by
  obtain ⟨d, e⟩ := mk_d_ok hk
  have hx0 := xl_inv hx
  clear hx
  obtain ⟨y, r, rfl, hx⟩ := hx0
  have hx0 := xl_inv hx
  clear hx
  obtain ⟨x, r, rfl, hx⟩ := hx0
  exact mr_lcmp d (by rw [← e]; exact hgo _ _ _ _ _ hx)
theorem me_c_ldiv  {m k : Nat} {go aw : ma_K} {Q : ma_Q} {b : Nat × Nat} {L : ma_L} {st : List Value} {h : ma_H} (hm : m < 286) (hk : mk m (me_pc m k) (me_pc m (k + 1)) (.ldiv) = true) (hgo : ∀ k' b L st h, go k' b L st h → ma_P m (me_pc m k') b L st h Q) (haw : ∀ k' b L st h, aw k' b L st h → ma_P m (me_pc m k') b L st h Q) (hx : me_x m go aw Q (.ldiv) k b L st h) : ma_P m (me_pc m k) b L st h Q := by
  obtain ⟨d, e⟩ := mk_d_ok hk
  have hx0 := xl_inv hx
  clear hx
  obtain ⟨y, r, rfl, hx⟩ := hx0
  have hx0 := xl_inv hx
  clear hx
  obtain ⟨x, r, rfl, hne, hx⟩ := hx0
  exact mr_ldiv d hne (by rw [← e]; exact hgo _ _ _ _ _ hx)
theorem me_c_lrem  {m k : Nat} {go aw : ma_K} {Q : ma_Q} {b : Nat × Nat} {L : ma_L} {st : List Value} {h : ma_H} (hm : m < 286) (hk : mk m (me_pc m k) (me_pc m (k + 1)) (.lrem) = true) (hgo : ∀ k' b L st h, go k' b L st h → ma_P m (me_pc m k') b L st h Q) (haw : ∀ k' b L st h, aw k' b L st h → ma_P m (me_pc m k') b L st h Q) (hx : me_x m go aw Q (.lrem) k b L st h) : ma_P m (me_pc m k) b L st h Q := by
  obtain ⟨d, e⟩ := mk_d_ok hk
  have hx0 := xl_inv hx
  clear hx
  obtain ⟨y, r, rfl, hx⟩ := hx0
  have hx0 := xl_inv hx
  clear hx
  obtain ⟨x, r, rfl, hne, hx⟩ := hx0
  exact mr_lrem d hne (by rw [← e]; exact hgo _ _ _ _ _ hx)
theorem me_c_lushr  {m k : Nat} {go aw : ma_K} {Q : ma_Q} {b : Nat × Nat} {L : ma_L} {st : List Value} {h : ma_H} (hm : m < 286) (hk : mk m (me_pc m k) (me_pc m (k + 1)) (.lushr) = true) (hgo : ∀ k' b L st h, go k' b L st h → ma_P m (me_pc m k') b L st h Q) (haw : ∀ k' b L st h, aw k' b L st h → ma_P m (me_pc m k') b L st h Q) (hx : me_x m go aw Q (.lushr) k b L st h) : ma_P m (me_pc m k) b L st h Q := by
  obtain ⟨d, e⟩ := mk_d_ok hk
  have hx0 := xi_inv hx
  clear hx
  obtain ⟨y, r, rfl, hx⟩ := hx0
  have hx0 := xl_inv hx
  clear hx
  obtain ⟨x, r, rfl, hx⟩ := hx0
  exact mr_lushr d (by rw [← e]; exact hgo _ _ _ _ _ hx)
theorem me_c_lshl  {m k : Nat} {go aw : ma_K} {Q : ma_Q} {b : Nat × Nat} {L : ma_L} {st : List Value} {h : ma_H} (hm : m < 286) (hk : mk m (me_pc m k) (me_pc m (k + 1)) (.lshl) = true) (hgo : ∀ k' b L st h, go k' b L st h → ma_P m (me_pc m k') b L st h Q) (haw : ∀ k' b L st h, aw k' b L st h → ma_P m (me_pc m k') b L st h Q) (hx : me_x m go aw Q (.lshl) k b L st h) : ma_P m (me_pc m k) b L st h Q := by
  obtain ⟨d, e⟩ := mk_d_ok hk
  have hx0 := xi_inv hx
  clear hx
  obtain ⟨y, r, rfl, hx⟩ := hx0
  have hx0 := xl_inv hx
  clear hx
  obtain ⟨x, r, rfl, hx⟩ := hx0
  exact mr_lshl d (by rw [← e]; exact hgo _ _ _ _ _ hx)
theorem me_c_lshr  {m k : Nat} {go aw : ma_K} {Q : ma_Q} {b : Nat × Nat} {L : ma_L} {st : List Value} {h : ma_H} (hm : m < 286) (hk : mk m (me_pc m k) (me_pc m (k + 1)) (.lshr) = true) (hgo : ∀ k' b L st h, go k' b L st h → ma_P m (me_pc m k') b L st h Q) (haw : ∀ k' b L st h, aw k' b L st h → ma_P m (me_pc m k') b L st h Q) (hx : me_x m go aw Q (.lshr) k b L st h) : ma_P m (me_pc m k) b L st h Q := by
  obtain ⟨d, e⟩ := mk_d_ok hk
  have hx0 := xi_inv hx
  clear hx
  obtain ⟨y, r, rfl, hx⟩ := hx0
  have hx0 := xl_inv hx
  clear hx
  obtain ⟨x, r, rfl, hx⟩ := hx0
  exact mr_lshr d (by rw [← e]; exact hgo _ _ _ _ _ hx)
theorem me_c_ineg  {m k : Nat} {go aw : ma_K} {Q : ma_Q} {b : Nat × Nat} {L : ma_L} {st : List Value} {h : ma_H} (hm : m < 286) (hk : mk m (me_pc m k) (me_pc m (k + 1)) (.ineg) = true) (hgo : ∀ k' b L st h, go k' b L st h → ma_P m (me_pc m k') b L st h Q) (haw : ∀ k' b L st h, aw k' b L st h → ma_P m (me_pc m k') b L st h Q) (hx : me_x m go aw Q (.ineg) k b L st h) : ma_P m (me_pc m k) b L st h Q := by
  obtain ⟨d, e⟩ := mk_d_ok hk
  have hx0 := xi_inv hx
  clear hx
  obtain ⟨x, r, rfl, hx⟩ := hx0
  exact mr_ineg d (by rw [← e]; exact hgo _ _ _ _ _ hx)
theorem me_c_i2l  {m k : Nat} {go aw : ma_K} {Q : ma_Q} {b : Nat × Nat} {L : ma_L} {st : List Value} {h : ma_H} (hm : m < 286) (hk : mk m (me_pc m k) (me_pc m (k + 1)) (.i2l) = true) (hgo : ∀ k' b L st h, go k' b L st h → ma_P m (me_pc m k') b L st h Q) (haw : ∀ k' b L st h, aw k' b L st h → ma_P m (me_pc m k') b L st h Q) (hx : me_x m go aw Q (.i2l) k b L st h) : ma_P m (me_pc m k) b L st h Q := by
  obtain ⟨d, e⟩ := mk_d_ok hk
  have hx0 := xi_inv hx
  clear hx
  obtain ⟨x, r, rfl, hx⟩ := hx0
  exact mr_i2l d (by rw [← e]; exact hgo _ _ _ _ _ hx)
theorem me_c_l2i  {m k : Nat} {go aw : ma_K} {Q : ma_Q} {b : Nat × Nat} {L : ma_L} {st : List Value} {h : ma_H} (hm : m < 286) (hk : mk m (me_pc m k) (me_pc m (k + 1)) (.l2i) = true) (hgo : ∀ k' b L st h, go k' b L st h → ma_P m (me_pc m k') b L st h Q) (haw : ∀ k' b L st h, aw k' b L st h → ma_P m (me_pc m k') b L st h Q) (hx : me_x m go aw Q (.l2i) k b L st h) : ma_P m (me_pc m k) b L st h Q := by
  obtain ⟨d, e⟩ := mk_d_ok hk
  have hx0 := xl_inv hx
  clear hx
  obtain ⟨x, r, rfl, hx⟩ := hx0
  exact mr_l2i d (by rw [← e]; exact hgo _ _ _ _ _ hx)
theorem me_c_i2b  {m k : Nat} {go aw : ma_K} {Q : ma_Q} {b : Nat × Nat} {L : ma_L} {st : List Value} {h : ma_H} (hm : m < 286) (hk : mk m (me_pc m k) (me_pc m (k + 1)) (.i2b) = true) (hgo : ∀ k' b L st h, go k' b L st h → ma_P m (me_pc m k') b L st h Q) (haw : ∀ k' b L st h, aw k' b L st h → ma_P m (me_pc m k') b L st h Q) (hx : me_x m go aw Q (.i2b) k b L st h) : ma_P m (me_pc m k) b L st h Q := by
  obtain ⟨d, e⟩ := mk_d_ok hk
  have hx0 := xi_inv hx
  clear hx
  obtain ⟨x, r, rfl, hx⟩ := hx0
  exact mr_i2b d (by rw [← e]; exact hgo _ _ _ _ _ hx)
theorem me_c_i2s  {m k : Nat} {go aw : ma_K} {Q : ma_Q} {b : Nat × Nat} {L : ma_L} {st : List Value} {h : ma_H} (hm : m < 286) (hk : mk m (me_pc m k) (me_pc m (k + 1)) (.i2s) = true) (hgo : ∀ k' b L st h, go k' b L st h → ma_P m (me_pc m k') b L st h Q) (haw : ∀ k' b L st h, aw k' b L st h → ma_P m (me_pc m k') b L st h Q) (hx : me_x m go aw Q (.i2s) k b L st h) : ma_P m (me_pc m k) b L st h Q := by
  obtain ⟨d, e⟩ := mk_d_ok hk
  have hx0 := xi_inv hx
  clear hx
  obtain ⟨x, r, rfl, hx⟩ := hx0
  exact mr_i2s d (by rw [← e]; exact hgo _ _ _ _ _ hx)
theorem me_c_dup  {m k : Nat} {go aw : ma_K} {Q : ma_Q} {b : Nat × Nat} {L : ma_L} {st : List Value} {h : ma_H} (hm : m < 286) (hk : mk m (me_pc m k) (me_pc m (k + 1)) (.dup) = true) (hgo : ∀ k' b L st h, go k' b L st h → ma_P m (me_pc m k') b L st h Q) (haw : ∀ k' b L st h, aw k' b L st h → ma_P m (me_pc m k') b L st h Q) (hx : me_x m go aw Q (.dup) k b L st h) : ma_P m (me_pc m k) b L st h Q := by
  obtain ⟨d, e⟩ := mk_d_ok hk
  have hx0 := xv_inv hx
  clear hx
  obtain ⟨v, r, rfl, hv, hx⟩ := hx0
  exact mr_dup d (me_cat_eq hv) (by rw [← e]; exact hgo _ _ _ _ _ hx)
theorem me_c_pop  {m k : Nat} {go aw : ma_K} {Q : ma_Q} {b : Nat × Nat} {L : ma_L} {st : List Value} {h : ma_H} (hm : m < 286) (hk : mk m (me_pc m k) (me_pc m (k + 1)) (.pop) = true) (hgo : ∀ k' b L st h, go k' b L st h → ma_P m (me_pc m k') b L st h Q) (haw : ∀ k' b L st h, aw k' b L st h → ma_P m (me_pc m k') b L st h Q) (hx : me_x m go aw Q (.pop) k b L st h) : ma_P m (me_pc m k) b L st h Q := by
  obtain ⟨d, e⟩ := mk_d_ok hk
  have hx0 := xv_inv hx
  clear hx
  obtain ⟨v, r, rfl, hv, hx⟩ := hx0
  exact mr_pop d (me_cat_eq hv) (by rw [← e]; exact hgo _ _ _ _ _ hx)
theorem me_c_dup_x1  {m k : Nat} {go aw : ma_K} {Q : ma_Q} {b : Nat × Nat} {L : ma_L} {st : List Value} {h : ma_H} (hm : m < 286) (hk : mk m (me_pc m k) (me_pc m (k + 1)) (.dup_x1) = true) (hgo : ∀ k' b L st h, go k' b L st h → ma_P m (me_pc m k') b L st h Q) (haw : ∀ k' b L st h, aw k' b L st h → ma_P m (me_pc m k') b L st h Q) (hx : me_x m go aw Q (.dup_x1) k b L st h) : ma_P m (me_pc m k) b L st h Q := by
  obtain ⟨d, e⟩ := mk_d_ok hk
  have hx0 := xv_inv hx
  clear hx
  obtain ⟨v, r, rfl, hx⟩ := hx0
  have hx0 := xv_inv hx
  clear hx
  obtain ⟨w, r, rfl, ⟨hv, hw⟩, hx⟩ := hx0
  exact mr_dup_x1 d (me_cat_eq hv) (me_cat_eq hw) (by rw [← e]; exact hgo _ _ _ _ _ hx)
theorem me_c_dup2  {m k : Nat} {go aw : ma_K} {Q : ma_Q} {b : Nat × Nat} {L : ma_L} {st : List Value} {h : ma_H} (hm : m < 286) (hk : mk m (me_pc m k) (me_pc m (k + 1)) (.dup2) = true) (hgo : ∀ k' b L st h, go k' b L st h → ma_P m (me_pc m k') b L st h Q) (haw : ∀ k' b L st h, aw k' b L st h → ma_P m (me_pc m k') b L st h Q) (hx : me_x m go aw Q (.dup2) k b L st h) : ma_P m (me_pc m k) b L st h Q := by
  obtain ⟨d, e⟩ := mk_d_ok hk
  have hx0 := xv_inv hx
  clear hx
  obtain ⟨v, r, rfl, hx⟩ := hx0
  have hx0 := xv_inv hx
  clear hx
  obtain ⟨w, r, rfl, ⟨hv, hw⟩, hx⟩ := hx0
  exact mr_dup2 d (me_cat_eq hv) (me_cat_eq hw) (by rw [← e]; exact hgo _ _ _ _ _ hx)
theorem me_c_ifCond {c : ClassFile.Cond} {t : Int} {m k : Nat} {go aw : ma_K} {Q : ma_Q} {b : Nat × Nat} {L : ma_L} {st : List Value} {h : ma_H} (hm : m < 286) (hk : mk m (me_pc m k) (me_pc m (k + 1)) (.ifCond c t) = true) (hgo : ∀ k' b L st h, go k' b L st h → ma_P m (me_pc m k') b L st h Q) (haw : ∀ k' b L st h, aw k' b L st h → ma_P m (me_pc m k') b L st h Q) (hx : me_x m go aw Q (.ifCond c t) k b L st h) : ma_P m (me_pc m k) b L st h Q := by
  obtain ⟨i, len, d, hk, e⟩ := mk_j_ok hk
  cases i <;> try (exact absurd hk Bool.false_ne_true)
  obtain ⟨hk, h3⟩ := mk_a hk
  obtain ⟨hk, h2⟩ := mk_a hk
  have hc := mk_dec hk
  rw [hc] at d
  have hl := mk_dec h2
  subst hl
  have ht := mk_tgt_ok h3
  cases c with
  | eq =>
    have hx0 := xi_inv hx
    clear hx
    obtain ⟨x, r, rfl, hx⟩ := hx0
    exact mr_if_eq d ht (fun q => by rw [if_pos q] at hx; exact hgo _ _ _ _ _ hx) (fun q => by rw [if_neg q] at hx; rw [← e]; exact hgo _ _ _ _ _ hx)
  | ne =>
    have hx0 := xi_inv hx
    clear hx
    obtain ⟨x, r, rfl, hx⟩ := hx0
    exact mr_if_ne d ht (fun q => by rw [if_neg q] at hx; exact hgo _ _ _ _ _ hx) (fun q => by rw [if_pos q] at hx; rw [← e]; exact hgo _ _ _ _ _ hx)
  | lt =>
    have hx0 := xi_inv hx
    clear hx
    obtain ⟨x, r, rfl, hx⟩ := hx0
    exact mr_if_lt d ht (fun q => by rw [if_pos q] at hx; exact hgo _ _ _ _ _ hx) (fun q => by rw [if_neg q] at hx; rw [← e]; exact hgo _ _ _ _ _ hx)
  | ge =>
    have hx0 := xi_inv hx
    clear hx
    obtain ⟨x, r, rfl, hx⟩ := hx0
    exact mr_if_ge d ht (fun q => by rw [if_neg (Int32.not_lt.mpr q)] at hx; exact hgo _ _ _ _ _ hx) (fun q => by rw [if_pos (Int32.not_le.mp q)] at hx; rw [← e]; exact hgo _ _ _ _ _ hx)
  | gt =>
    have hx0 := xi_inv hx
    clear hx
    obtain ⟨x, r, rfl, hx⟩ := hx0
    exact mr_if_gt d ht (fun q => by rw [if_neg (Int32.not_le.mpr q)] at hx; exact hgo _ _ _ _ _ hx) (fun q => by rw [if_pos (Int32.not_lt.mp q)] at hx; rw [← e]; exact hgo _ _ _ _ _ hx)
  | le =>
    have hx0 := xi_inv hx
    clear hx
    obtain ⟨x, r, rfl, hx⟩ := hx0
    exact mr_if_le d ht (fun q => by rw [if_pos q] at hx; exact hgo _ _ _ _ _ hx) (fun q => by rw [if_neg q] at hx; rw [← e]; exact hgo _ _ _ _ _ hx)
theorem me_c_if_icmp {c : ClassFile.Cond} {t : Int} {m k : Nat} {go aw : ma_K} {Q : ma_Q} {b : Nat × Nat} {L : ma_L} {st : List Value} {h : ma_H} (hm : m < 286) (hk : mk m (me_pc m k) (me_pc m (k + 1)) (.if_icmp c t) = true) (hgo : ∀ k' b L st h, go k' b L st h → ma_P m (me_pc m k') b L st h Q) (haw : ∀ k' b L st h, aw k' b L st h → ma_P m (me_pc m k') b L st h Q) (hx : me_x m go aw Q (.if_icmp c t) k b L st h) : ma_P m (me_pc m k) b L st h Q := by
  obtain ⟨i, len, d, hk, e⟩ := mk_j_ok hk
  cases i <;> try (exact absurd hk Bool.false_ne_true)
  obtain ⟨hk, h3⟩ := mk_a hk
  obtain ⟨hk, h2⟩ := mk_a hk
  have hc := mk_dec hk
  rw [hc] at d
  have hl := mk_dec h2
  subst hl
  have ht := mk_tgt_ok h3
  cases c with
  | eq =>
    have hx0 := xi_inv hx
    clear hx
    obtain ⟨y, r, rfl, hx⟩ := hx0
    have hx0 := xi_inv hx
    clear hx
    obtain ⟨x, r, rfl, hx⟩ := hx0
    exact mr_icmp_eq d ht (fun q => by rw [if_pos q] at hx; exact hgo _ _ _ _ _ hx) (fun q => by rw [if_neg q] at hx; rw [← e]; exact hgo _ _ _ _ _ hx)
  | ne =>
    have hx0 := xi_inv hx
    clear hx
    obtain ⟨y, r, rfl, hx⟩ := hx0
    have hx0 := xi_inv hx
    clear hx
    obtain ⟨x, r, rfl, hx⟩ := hx0
    exact mr_icmp_ne d ht (fun q => by rw [if_neg q] at hx; exact hgo _ _ _ _ _ hx) (fun q => by rw [if_pos q] at hx; rw [← e]; exact hgo _ _ _ _ _ hx)
  | lt =>
    have hx0 := xi_inv hx
    clear hx
    obtain ⟨y, r, rfl, hx⟩ := hx0
    have hx0 := xi_inv hx
    clear hx
    obtain ⟨x, r, rfl, hx⟩ := hx0
    exact mr_icmp_lt d ht (fun q => by rw [if_pos q] at hx; exact hgo _ _ _ _ _ hx) (fun q => by rw [if_neg q] at hx; rw [← e]; exact hgo _ _ _ _ _ hx)
  | ge =>
    have hx0 := xi_inv hx
    clear hx
    obtain ⟨y, r, rfl, hx⟩ := hx0
    have hx0 := xi_inv hx
    clear hx
    obtain ⟨x, r, rfl, hx⟩ := hx0
    exact mr_icmp_ge d ht (fun q => by rw [if_neg (Int32.not_lt.mpr q)] at hx; exact hgo _ _ _ _ _ hx) (fun q => by rw [if_pos (Int32.not_le.mp q)] at hx; rw [← e]; exact hgo _ _ _ _ _ hx)
  | gt =>
    have hx0 := xi_inv hx
    clear hx
    obtain ⟨y, r, rfl, hx⟩ := hx0
    have hx0 := xi_inv hx
    clear hx
    obtain ⟨x, r, rfl, hx⟩ := hx0
    exact mr_icmp_gt d ht (fun q => by rw [if_neg (Int32.not_le.mpr q)] at hx; exact hgo _ _ _ _ _ hx) (fun q => by rw [if_pos (Int32.not_lt.mp q)] at hx; rw [← e]; exact hgo _ _ _ _ _ hx)
  | le =>
    have hx0 := xi_inv hx
    clear hx
    obtain ⟨y, r, rfl, hx⟩ := hx0
    have hx0 := xi_inv hx
    clear hx
    obtain ⟨x, r, rfl, hx⟩ := hx0
    exact mr_icmp_le d ht (fun q => by rw [if_pos q] at hx; exact hgo _ _ _ _ _ hx) (fun q => by rw [if_neg q] at hx; rw [← e]; exact hgo _ _ _ _ _ hx)
theorem me_c_goto {t : Int} {m k : Nat} {go aw : ma_K} {Q : ma_Q} {b : Nat × Nat} {L : ma_L} {st : List Value} {h : ma_H} (hm : m < 286) (hk : mk m (me_pc m k) (me_pc m (k + 1)) (.goto t) = true) (hgo : ∀ k' b L st h, go k' b L st h → ma_P m (me_pc m k') b L st h Q) (haw : ∀ k' b L st h, aw k' b L st h → ma_P m (me_pc m k') b L st h Q) (hx : me_x m go aw Q (.goto t) k b L st h) : ma_P m (me_pc m k) b L st h Q := by
  have hk' : (match decode (mt_b m) (me_pc m k) with | .ok (.goto off, len) => decide (len = 3) && mk_tgt m (me_pc m k) off t | _ => false) = true := hk
  split at hk'
  · rename_i off len d
    obtain ⟨h1, h2⟩ := mk_a hk'
    have hl := mk_dec h1
    subst hl
    exact mr_goto d (mk_tgt_ok h2) (hgo _ _ _ _ _ hx)
  · cases hk'
theorem me_c_ifnull {t : Int} {m k : Nat} {go aw : ma_K} {Q : ma_Q} {b : Nat × Nat} {L : ma_L} {st : List Value} {h : ma_H} (hm : m < 286) (hk : mk m (me_pc m k) (me_pc m (k + 1)) (.ifnull t) = true) (hgo : ∀ k' b L st h, go k' b L st h → ma_P m (me_pc m k') b L st h Q) (haw : ∀ k' b L st h, aw k' b L st h → ma_P m (me_pc m k') b L st h Q) (hx : me_x m go aw Q (.ifnull t) k b L st h) : ma_P m (me_pc m k) b L st h Q := by
  obtain ⟨i, len, d, hk, e⟩ := mk_j_ok hk
  cases i <;> try (exact absurd hk Bool.false_ne_true)
  obtain ⟨hk, h2⟩ := mk_a hk
  have hl := mk_dec hk
  subst hl
  have ht := mk_tgt_ok h2
  match st, hx with
  | .null :: r, hx => exact mr_ifnullN d ht (hgo _ _ _ _ _ hx)
  | .ref a :: r, hx => exact mr_ifnullR d ht (by rw [← e]; exact hgo _ _ _ _ _ hx)
theorem me_c_ifnonnull {t : Int} {m k : Nat} {go aw : ma_K} {Q : ma_Q} {b : Nat × Nat} {L : ma_L} {st : List Value} {h : ma_H} (hm : m < 286) (hk : mk m (me_pc m k) (me_pc m (k + 1)) (.ifnonnull t) = true) (hgo : ∀ k' b L st h, go k' b L st h → ma_P m (me_pc m k') b L st h Q) (haw : ∀ k' b L st h, aw k' b L st h → ma_P m (me_pc m k') b L st h Q) (hx : me_x m go aw Q (.ifnonnull t) k b L st h) : ma_P m (me_pc m k) b L st h Q := by
  obtain ⟨i, len, d, hk, e⟩ := mk_j_ok hk
  cases i <;> try (exact absurd hk Bool.false_ne_true)
  obtain ⟨hk, h2⟩ := mk_a hk
  have hl := mk_dec hk
  subst hl
  have ht := mk_tgt_ok h2
  match st, hx with
  | .null :: r, hx => exact mr_ifnonnullN d ht (by rw [← e]; exact hgo _ _ _ _ _ hx)
  | .ref a :: r, hx => exact mr_ifnonnullR d ht (hgo _ _ _ _ _ hx)
theorem me_c_tableswitch {t lo hi : Int} {ts : Array Int} {m k : Nat} {go aw : ma_K} {Q : ma_Q} {b : Nat × Nat} {L : ma_L} {st : List Value} {h : ma_H} (hm : m < 286) (hk : mk m (me_pc m k) (me_pc m (k + 1)) (.tableswitch t lo hi ts) = true) (hgo : ∀ k' b L st h, go k' b L st h → ma_P m (me_pc m k') b L st h Q) (haw : ∀ k' b L st h, aw k' b L st h → ma_P m (me_pc m k') b L st h Q) (hx : me_x m go aw Q (.tableswitch t lo hi ts) k b L st h) : ma_P m (me_pc m k) b L st h Q := by
  have hk' : (match decode (mt_b m) (me_pc m k) with | .ok (.tableswitch t2 lo2 hi2 ts2, _) => decide (lo2 = lo) && decide (hi2 = hi) && mk_tgt m (me_pc m k) t2 t && decide (ts2.toList.length = ts.toList.length) && decide ((ts2.toList.length : Int) = hi - lo + 1) && (ts2.toList.zip ts.toList).all (fun q => mk_tgt m (me_pc m k) q.1 q.2) | _ => false) = true := hk
  split at hk'
  · rename_i t2 lo2 hi2 ts2 len d
    obtain ⟨hk', g6⟩ := mk_a hk'
    obtain ⟨hk', g5⟩ := mk_a hk'
    obtain ⟨hk', g4⟩ := mk_a hk'
    obtain ⟨hk', g3⟩ := mk_a hk'
    obtain ⟨g1, g2⟩ := mk_a hk'
    have e1 := mk_dec g1
    have e2 := mk_dec g2
    subst e1
    subst e2
    have e4 := mk_dec g4
    have e5 := mk_dec g5
    have hx0 := xi_inv hx
    clear hx
    obtain ⟨x, r, rfl, hx⟩ := hx0
    by_cases hq : x.toInt < lo2 ∨ hi2 < x.toInt
    · rw [if_pos hq] at hx
      exact mr_tabOut d hq (mk_tgt_ok g3) (hgo _ _ _ _ _ hx)
    · rw [if_neg hq] at hx
      have hlo : ¬ x.toInt < lo2 := fun q => hq (Or.inl q)
      have hhi : ¬ hi2 < x.toInt := fun q => hq (Or.inr q)
      have hlt : (x.toInt - lo2).toNat < ts2.toList.length := by omega
      have hlt2 : (x.toInt - lo2).toNat < ts.toList.length := by omega
      have h1 : ts2[(x.toInt - lo2).toNat]? = some (ts2.toList[(x.toInt - lo2).toNat]) := by rw [← Array.getElem?_toList]; exact List.getElem?_eq_getElem hlt
      have h2 : ts.toList.getD (x.toInt - lo2).toNat 0 = ts.toList[(x.toInt - lo2).toNat] := by rw [List.getD_eq_getElem?_getD, List.getElem?_eq_getElem hlt2]; rfl
      rw [h2] at hx
      have h3 := List.all_eq_true.mp g6 (ts2.toList[(x.toInt - lo2).toNat], ts.toList[(x.toInt - lo2).toNat]) (List.mem_of_getElem? (i := (x.toInt - lo2).toNat) (by rw [List.getElem?_zip_eq_some]; exact ⟨List.getElem?_eq_getElem hlt, List.getElem?_eq_getElem hlt2⟩))
      exact mr_tabIn d hlo hhi h1 (mk_tgt_ok h3) (hgo _ _ _ _ _ hx)
  · cases hk'
theorem me_offs {m pc : Nat} {x : Int} : ∀ (l2 l : List (Int × Int)) (t2 t : Int), mk_tgt m pc t2 t = true → l2.map (fun q => q.1) = l.map (fun q => q.1) → (l2.zip l).all (fun q => mk_tgt m pc q.1.2 q.2.2) = true → mk_tgt m pc (Op.lookupswitch.offset l2 t2 x) (Op.lookupswitch.offset l t x) = true
  | [], [], _, _, h, _, _ => h
  | [], _ :: _, _, _, _, h, _ => by cases h
  | _ :: _, [], _, _, _, h, _ => by cases h
  | (a, o2) :: l2, (b, o1) :: l, t2, t, h, he, hz => by
    rw [List.map_cons, List.map_cons] at he
    injection he with h1 h2
    rw [List.zip_cons_cons, List.all_cons] at hz
    obtain ⟨g1, g2⟩ := mk_a hz
    have h1 : a = b := h1
    subst h1
    show mk_tgt m pc (if a = x then o2 else Op.lookupswitch.offset l2 t2 x) (if a = x then o1 else Op.lookupswitch.offset l t x) = true
    by_cases e : a = x
    · rw [if_pos e, if_pos e]; exact g1
    · rw [if_neg e, if_neg e]; exact me_offs l2 l t2 t h h2 g2
theorem me_c_lookupswitch {t : Int} {ps : Array (Int × Int)} {m k : Nat} {go aw : ma_K} {Q : ma_Q} {b : Nat × Nat} {L : ma_L} {st : List Value} {h : ma_H} (hm : m < 286) (hk : mk m (me_pc m k) (me_pc m (k + 1)) (.lookupswitch t ps) = true) (hgo : ∀ k' b L st h, go k' b L st h → ma_P m (me_pc m k') b L st h Q) (haw : ∀ k' b L st h, aw k' b L st h → ma_P m (me_pc m k') b L st h Q) (hx : me_x m go aw Q (.lookupswitch t ps) k b L st h) : ma_P m (me_pc m k) b L st h Q := by
  have hk' : (match decode (mt_b m) (me_pc m k) with | .ok (.lookupswitch t2 ps2, _) => mk_tgt m (me_pc m k) t2 t && decide (ps2.toList.map (fun q => q.1) = ps.toList.map (fun q => q.1)) && (ps2.toList.zip (ps2.toList.drop 1)).all (fun (a, next) => a.1 < next.1) && (ps2.toList.zip ps.toList).all (fun q => mk_tgt m (me_pc m k) q.1.2 q.2.2) | _ => false) = true := hk
  split at hk'
  · rename_i t2 ps2 len d
    obtain ⟨hk', g4⟩ := mk_a hk'
    obtain ⟨hk', g3⟩ := mk_a hk'
    obtain ⟨g1, g2⟩ := mk_a hk'
    have hx0 := xi_inv hx
    clear hx
    obtain ⟨x, r, rfl, hx⟩ := hx0
    exact mr_lookup d g3 rfl (mk_tgt_ok (me_offs _ _ _ _ g1 (mk_dec g2) g4)) (hgo _ _ _ _ _ hx)
  · cases hk'
theorem me_c_getfield {base n : Nat} {m k : Nat} {go aw : ma_K} {Q : ma_Q} {b : Nat × Nat} {L : ma_L} {st : List Value} {h : ma_H} (hm : m < 286) (hk : mk m (me_pc m k) (me_pc m (k + 1)) (.multianewarray base n) = true) (hgo : ∀ k' b L st h, go k' b L st h → ma_P m (me_pc m k') b L st h Q) (haw : ∀ k' b L st h, aw k' b L st h → ma_P m (me_pc m k') b L st h Q) (hx : me_x m go aw Q (.multianewarray base n) k b L st h) : ma_P m (me_pc m k) b L st h Q := by
  obtain ⟨i, len, d, hk, e⟩ := mk_j_ok hk
  cases i <;> try (exact absurd hk Bool.false_ne_true)
  obtain ⟨hk, h2⟩ := mk_a hk
  have hl := mk_dec hk
  subst hl
  have hx0 := xr_inv hx
  clear hx
  obtain ⟨a, r, rfl, hx⟩ := hx0
  have hx0 := xo_inv hx
  clear hx
  obtain ⟨ci, fs, he, hu, hx⟩ := hx0
  have hx0 := xf_inv hx
  clear hx
  obtain ⟨v, hv, hx⟩ := hx0
  obtain ⟨h13, hn, -, ref, hw, hs⟩ := lf_use h2 hu
  exact mr_getfield he h13 hn hv (by rw [me_cls m hm]; exact hw) hs d (by rw [← e]; exact hgo _ _ _ _ _ hx)
theorem me_c_putfield {base n : Nat} {m k : Nat} {go aw : ma_K} {Q : ma_Q} {b : Nat × Nat} {L : ma_L} {st : List Value} {h : ma_H} (hm : m < 286) (hk : mk m (me_pc m k) (me_pc m (k + 1)) (.invokeinterface base n) = true) (hgo : ∀ k' b L st h, go k' b L st h → ma_P m (me_pc m k') b L st h Q) (haw : ∀ k' b L st h, aw k' b L st h → ma_P m (me_pc m k') b L st h Q) (hx : me_x m go aw Q (.invokeinterface base n) k b L st h) : ma_P m (me_pc m k) b L st h Q := by
  obtain ⟨i, len, d, hk, e⟩ := mk_j_ok hk
  cases i <;> try (exact absurd hk Bool.false_ne_true)
  obtain ⟨hk, h3⟩ := mk_a hk
  obtain ⟨hk, h2⟩ := mk_a hk
  have hl := mk_dec hk
  subst hl
  have hx0 := xv_inv hx
  clear hx
  obtain ⟨v, r, rfl, hx⟩ := hx0
  have hx0 := xr_inv hx
  clear hx
  obtain ⟨a, r, rfl, hx⟩ := hx0
  have hx0 := xo_inv hx
  clear hx
  obtain ⟨ci, fs, he, hu, hlt, hfit, hx⟩ := hx0
  obtain ⟨h13, hn, hty, ref, hw, hs⟩ := lf_use h2 hu
  have hci : ci ∈ lf_ci := by
    have : ∀ c, c < 13 → c ∈ lf_ci := by decide
    exact this ci h13
  have hfin := List.all_eq_true.mp h3 ci hci
  rw [hu] at hfin
  have hfin : (ct_T ci n).2.2.2 = false ∨ ((mt_y m).name = "<init>" ∧ (ct_T ci n).1 = (mt_y m).cls) := by simpa using hfin
  rw [← hty] at hfit
  obtain ⟨f1, f2⟩ := me_fit_eq hfit
  exact mr_putfield he h13 hn hlt (by rw [me_cls m hm]; exact hw) hs hfin f1 f2 d (by rw [← e]; exact hgo _ _ _ _ _ hx)
theorem me_c_iaload  {m k : Nat} {go aw : ma_K} {Q : ma_Q} {b : Nat × Nat} {L : ma_L} {st : List Value} {h : ma_H} (hm : m < 286) (hk : mk m (me_pc m k) (me_pc m (k + 1)) (.iaload) = true) (hgo : ∀ k' b L st h, go k' b L st h → ma_P m (me_pc m k') b L st h Q) (haw : ∀ k' b L st h, aw k' b L st h → ma_P m (me_pc m k') b L st h Q) (hx : me_x m go aw Q (.iaload) k b L st h) : ma_P m (me_pc m k) b L st h Q := by
  obtain ⟨d, e⟩ := mk_d_ok hk
  have hx0 := xi_inv hx
  clear hx
  obtain ⟨i, r, rfl, hx⟩ := hx0
  have hx0 := xa_inv hx
  clear hx
  rcases hx0 with ⟨a, r, rfl, hx⟩ | ⟨j, r, rfl, hx⟩
  · have hx0 := xI_inv hx
    clear hx
    obtain ⟨n, f, he, hi, hx⟩ := hx0
    exact mr_iald he hi d (by rw [← e]; exact hgo _ _ _ _ _ hx)
  · split at hx
    · rename_i ej
      subst ej
      exact mr_scld hx.1 d (by rw [← e]; exact hgo _ _ _ _ _ hx.2)
    · exact mr_sald hx.1 hx.2.1 d (by rw [← e]; exact hgo _ _ _ _ _ hx.2.2)
theorem me_c_baload  {m k : Nat} {go aw : ma_K} {Q : ma_Q} {b : Nat × Nat} {L : ma_L} {st : List Value} {h : ma_H} (hm : m < 286) (hk : mk m (me_pc m k) (me_pc m (k + 1)) (.baload) = true) (hgo : ∀ k' b L st h, go k' b L st h → ma_P m (me_pc m k') b L st h Q) (haw : ∀ k' b L st h, aw k' b L st h → ma_P m (me_pc m k') b L st h Q) (hx : me_x m go aw Q (.baload) k b L st h) : ma_P m (me_pc m k) b L st h Q := by
  obtain ⟨d, e⟩ := mk_d_ok hk
  have hx0 := xi_inv hx
  clear hx
  obtain ⟨i, r, rfl, hx⟩ := hx0
  have hx0 := xr_inv hx
  clear hx
  obtain ⟨a, r, rfl, hx⟩ := hx0
  have hx0 := xI_inv hx
  clear hx
  obtain ⟨n, f, he, hi, hx⟩ := hx0
  exact mr_bald he hi d (by rw [← e]; exact hgo _ _ _ _ _ hx)
theorem me_c_faload  {m k : Nat} {go aw : ma_K} {Q : ma_Q} {b : Nat × Nat} {L : ma_L} {st : List Value} {h : ma_H} (hm : m < 286) (hk : mk m (me_pc m k) (me_pc m (k + 1)) (.faload) = true) (hgo : ∀ k' b L st h, go k' b L st h → ma_P m (me_pc m k') b L st h Q) (haw : ∀ k' b L st h, aw k' b L st h → ma_P m (me_pc m k') b L st h Q) (hx : me_x m go aw Q (.faload) k b L st h) : ma_P m (me_pc m k) b L st h Q := by
  obtain ⟨d, e⟩ := mk_d_ok hk
  have hx0 := xi_inv hx
  clear hx
  obtain ⟨i, r, rfl, hx⟩ := hx0
  have hx0 := xr_inv hx
  clear hx
  obtain ⟨a, r, rfl, hx⟩ := hx0
  have hx0 := xI_inv hx
  clear hx
  obtain ⟨n, f, he, hi, hx⟩ := hx0
  exact mr_zald he hi d (by rw [← e]; exact hgo _ _ _ _ _ hx)
theorem me_c_laload  {m k : Nat} {go aw : ma_K} {Q : ma_Q} {b : Nat × Nat} {L : ma_L} {st : List Value} {h : ma_H} (hm : m < 286) (hk : mk m (me_pc m k) (me_pc m (k + 1)) (.laload) = true) (hgo : ∀ k' b L st h, go k' b L st h → ma_P m (me_pc m k') b L st h Q) (haw : ∀ k' b L st h, aw k' b L st h → ma_P m (me_pc m k') b L st h Q) (hx : me_x m go aw Q (.laload) k b L st h) : ma_P m (me_pc m k) b L st h Q := by
  obtain ⟨d, e⟩ := mk_d_ok hk
  have hx0 := xi_inv hx
  clear hx
  obtain ⟨i, r, rfl, hx⟩ := hx0
  have hx0 := xr_inv hx
  clear hx
  obtain ⟨a, r, rfl, hx⟩ := hx0
  have hx0 := xJ_inv hx
  clear hx
  obtain ⟨n, f, he, hi, hx⟩ := hx0
  exact mr_lald he hi d (by rw [← e]; exact hgo _ _ _ _ _ hx)
theorem me_c_aaload  {m k : Nat} {go aw : ma_K} {Q : ma_Q} {b : Nat × Nat} {L : ma_L} {st : List Value} {h : ma_H} (hm : m < 286) (hk : mk m (me_pc m k) (me_pc m (k + 1)) (.aaload) = true) (hgo : ∀ k' b L st h, go k' b L st h → ma_P m (me_pc m k') b L st h Q) (haw : ∀ k' b L st h, aw k' b L st h → ma_P m (me_pc m k') b L st h Q) (hx : me_x m go aw Q (.aaload) k b L st h) : ma_P m (me_pc m k) b L st h Q := by
  obtain ⟨d, e⟩ := mk_d_ok hk
  have hx0 := xi_inv hx
  clear hx
  obtain ⟨i, r, rfl, hx⟩ := hx0
  have hx0 := xr_inv hx
  clear hx
  obtain ⟨a, r, rfl, hx⟩ := hx0
  have hx0 := xR_inv hx
  clear hx
  obtain ⟨t, n, f, he, ht, hi, hx⟩ := hx0
  rcases ht with rfl | rfl | rfl
  · exact mr_aald4 he hi d (by rw [← e]; exact hgo _ _ _ _ _ hx)
  · exact mr_aald5 he hi d (by rw [← e]; exact hgo _ _ _ _ _ hx)
  · exact mr_aald6 he hi d (by rw [← e]; exact hgo _ _ _ _ _ hx)
theorem me_c_iastore  {m k : Nat} {go aw : ma_K} {Q : ma_Q} {b : Nat × Nat} {L : ma_L} {st : List Value} {h : ma_H} (hm : m < 286) (hk : mk m (me_pc m k) (me_pc m (k + 1)) (.iastore) = true) (hgo : ∀ k' b L st h, go k' b L st h → ma_P m (me_pc m k') b L st h Q) (haw : ∀ k' b L st h, aw k' b L st h → ma_P m (me_pc m k') b L st h Q) (hx : me_x m go aw Q (.iastore) k b L st h) : ma_P m (me_pc m k) b L st h Q := by
  obtain ⟨d, e⟩ := mk_d_ok hk
  have hx0 := xi_inv hx
  clear hx
  obtain ⟨x, r, rfl, hx⟩ := hx0
  have hx0 := xi_inv hx
  clear hx
  obtain ⟨i, r, rfl, hx⟩ := hx0
  have hx0 := xr_inv hx
  clear hx
  obtain ⟨a, r, rfl, hx⟩ := hx0
  have hx0 := xI_inv hx
  clear hx
  obtain ⟨n, f, he, hi, hx⟩ := hx0
  exact mr_iast he hi d (by rw [← e]; exact hgo _ _ _ _ _ hx)
theorem me_c_bastore  {m k : Nat} {go aw : ma_K} {Q : ma_Q} {b : Nat × Nat} {L : ma_L} {st : List Value} {h : ma_H} (hm : m < 286) (hk : mk m (me_pc m k) (me_pc m (k + 1)) (.bastore) = true) (hgo : ∀ k' b L st h, go k' b L st h → ma_P m (me_pc m k') b L st h Q) (haw : ∀ k' b L st h, aw k' b L st h → ma_P m (me_pc m k') b L st h Q) (hx : me_x m go aw Q (.bastore) k b L st h) : ma_P m (me_pc m k) b L st h Q := by
  obtain ⟨d, e⟩ := mk_d_ok hk
  have hx0 := xi_inv hx
  clear hx
  obtain ⟨x, r, rfl, hx⟩ := hx0
  have hx0 := xi_inv hx
  clear hx
  obtain ⟨i, r, rfl, hx⟩ := hx0
  have hx0 := xr_inv hx
  clear hx
  obtain ⟨a, r, rfl, hx⟩ := hx0
  have hx0 := xI_inv hx
  clear hx
  obtain ⟨n, f, he, hi, hx⟩ := hx0
  exact mr_bast he hi d (by rw [← e]; exact hgo _ _ _ _ _ hx)
theorem me_c_fastore  {m k : Nat} {go aw : ma_K} {Q : ma_Q} {b : Nat × Nat} {L : ma_L} {st : List Value} {h : ma_H} (hm : m < 286) (hk : mk m (me_pc m k) (me_pc m (k + 1)) (.fastore) = true) (hgo : ∀ k' b L st h, go k' b L st h → ma_P m (me_pc m k') b L st h Q) (haw : ∀ k' b L st h, aw k' b L st h → ma_P m (me_pc m k') b L st h Q) (hx : me_x m go aw Q (.fastore) k b L st h) : ma_P m (me_pc m k) b L st h Q := by
  obtain ⟨d, e⟩ := mk_d_ok hk
  have hx0 := xi_inv hx
  clear hx
  obtain ⟨x, r, rfl, hx⟩ := hx0
  have hx0 := xi_inv hx
  clear hx
  obtain ⟨i, r, rfl, hx⟩ := hx0
  have hx0 := xr_inv hx
  clear hx
  obtain ⟨a, r, rfl, hx⟩ := hx0
  have hx0 := xI_inv hx
  clear hx
  obtain ⟨n, f, he, hi, hx⟩ := hx0
  exact mr_zast he hi d (by rw [← e]; exact hgo _ _ _ _ _ hx)
theorem me_c_lastore  {m k : Nat} {go aw : ma_K} {Q : ma_Q} {b : Nat × Nat} {L : ma_L} {st : List Value} {h : ma_H} (hm : m < 286) (hk : mk m (me_pc m k) (me_pc m (k + 1)) (.lastore) = true) (hgo : ∀ k' b L st h, go k' b L st h → ma_P m (me_pc m k') b L st h Q) (haw : ∀ k' b L st h, aw k' b L st h → ma_P m (me_pc m k') b L st h Q) (hx : me_x m go aw Q (.lastore) k b L st h) : ma_P m (me_pc m k) b L st h Q := by
  obtain ⟨d, e⟩ := mk_d_ok hk
  have hx0 := xl_inv hx
  clear hx
  obtain ⟨x, r, rfl, hx⟩ := hx0
  have hx0 := xi_inv hx
  clear hx
  obtain ⟨i, r, rfl, hx⟩ := hx0
  have hx0 := xr_inv hx
  clear hx
  obtain ⟨a, r, rfl, hx⟩ := hx0
  have hx0 := xJ_inv hx
  clear hx
  obtain ⟨n, f, he, hi, hx⟩ := hx0
  exact mr_last he hi d (by rw [← e]; exact hgo _ _ _ _ _ hx)
theorem me_c_aastore  {m k : Nat} {go aw : ma_K} {Q : ma_Q} {b : Nat × Nat} {L : ma_L} {st : List Value} {h : ma_H} (hm : m < 286) (hk : mk m (me_pc m k) (me_pc m (k + 1)) (.aastore) = true) (hgo : ∀ k' b L st h, go k' b L st h → ma_P m (me_pc m k') b L st h Q) (haw : ∀ k' b L st h, aw k' b L st h → ma_P m (me_pc m k') b L st h Q) (hx : me_x m go aw Q (.aastore) k b L st h) : ma_P m (me_pc m k) b L st h Q := by
  obtain ⟨d, e⟩ := mk_d_ok hk
  have hx0 := xr_inv hx
  clear hx
  obtain ⟨v, r, rfl, hx⟩ := hx0
  have hx0 := xi_inv hx
  clear hx
  obtain ⟨i, r, rfl, hx⟩ := hx0
  have hx0 := xr_inv hx
  clear hx
  obtain ⟨a, r, rfl, hx⟩ := hx0
  have hx0 := xR_inv hx
  clear hx
  obtain ⟨t, n, f, he, hx⟩ := hx0
  have hx0 := xo_inv hx
  clear hx
  obtain ⟨ci, fs, hev, hct, hi, hx⟩ := hx0
  rcases hct with ⟨rfl, rfl⟩ | ⟨rfl, g1, g2⟩
  · exact mr_aast (t := 2) (ti := 4) he rfl hev (by decide) (Or.inl rfl) hi d (by rw [← e]; exact hgo _ _ _ _ _ hx)
  · have h13 : ci < 13 := by
      have : ci ∈ [0, 1, 3, 6, 7, 8] := by simpa [ma_gk] using g1
      simp at this
      omega
    exact mr_aast (t := 3) (ti := 5) he rfl hev h13 (Or.inr ⟨g1, rfl, g2⟩) hi d (by rw [← e]; exact hgo _ _ _ _ _ hx)
theorem me_c_arraylength  {m k : Nat} {go aw : ma_K} {Q : ma_Q} {b : Nat × Nat} {L : ma_L} {st : List Value} {h : ma_H} (hm : m < 286) (hk : mk m (me_pc m k) (me_pc m (k + 1)) (.arraylength) = true) (hgo : ∀ k' b L st h, go k' b L st h → ma_P m (me_pc m k') b L st h Q) (haw : ∀ k' b L st h, aw k' b L st h → ma_P m (me_pc m k') b L st h Q) (hx : me_x m go aw Q (.arraylength) k b L st h) : ma_P m (me_pc m k) b L st h Q := by
  obtain ⟨d, e⟩ := mk_d_ok hk
  have hx0 := xa_inv hx
  clear hx
  rcases hx0 with ⟨a, r, rfl, hx⟩ | ⟨j, r, rfl, hx⟩
  · have hx0 := xA_inv hx
    clear hx
    obtain ⟨t, z, he, ht, hx⟩ := hx0
    have hmem : t ∈ ma_tyl := by simpa using ht
    obtain ⟨q, hq⟩ := List.getElem?_of_mem hmem
    exact mr_alen he hq d (by rw [← e]; exact hgo _ _ _ _ _ hx)
  · split at hx
    · rename_i ej
      subst ej
      exact mr_sclen d (by rw [← e]; exact hgo _ _ _ _ _ hx)
    · exact mr_slen hx.1 d (by rw [← e]; exact hgo _ _ _ _ _ hx.2)
theorem me_c_new {c : Nat} {m k : Nat} {go aw : ma_K} {Q : ma_Q} {b : Nat × Nat} {L : ma_L} {st : List Value} {h : ma_H} (hm : m < 286) (hk : mk m (me_pc m k) (me_pc m (k + 1)) (.new c) = true) (hgo : ∀ k' b L st h, go k' b L st h → ma_P m (me_pc m k') b L st h Q) (haw : ∀ k' b L st h, aw k' b L st h → ma_P m (me_pc m k') b L st h Q) (hx : me_x m go aw Q (.new c) k b L st h) : ma_P m (me_pc m k) b L st h Q := by
  obtain ⟨i, len, d, hk, e⟩ := mk_j_ok hk
  cases i <;> try (exact absurd hk Bool.false_ne_true)
  obtain ⟨hk, h5⟩ := mk_a hk
  obtain ⟨hk, h4⟩ := mk_a hk
  obtain ⟨hk, h3⟩ := mk_a hk
  obtain ⟨hk, h2⟩ := mk_a hk
  have hl := mk_dec hk
  subst hl
  obtain ⟨g1, g2, hx⟩ := hx
  exact mr_new (b' := (b.1 - 1, b.2 - ct_N c)) (mk_dec h2) (mk_w_ok h3) (mk_w_ok h4) (mk_w_ok h5) ⟨by show b.1 - 1 + 1 = b.1; omega, by show b.2 - ct_N c + ct_N c = b.2; omega⟩ d (by rw [← e]; exact hgo _ _ _ _ _ hx)
theorem me_c_newarray_int  {m k : Nat} {go aw : ma_K} {Q : ma_Q} {b : Nat × Nat} {L : ma_L} {st : List Value} {h : ma_H} (hm : m < 286) (hk : mk m (me_pc m k) (me_pc m (k + 1)) (.newarray .int) = true) (hgo : ∀ k' b L st h, go k' b L st h → ma_P m (me_pc m k') b L st h Q) (haw : ∀ k' b L st h, aw k' b L st h → ma_P m (me_pc m k') b L st h Q) (hx : me_x m go aw Q (.newarray .int) k b L st h) : ma_P m (me_pc m k) b L st h Q := by
  obtain ⟨hk, hk2⟩ := mk_a hk
  obtain ⟨d, e⟩ := mk_d_ok hk
  have hx0 := xi_inv hx
  clear hx
  obtain ⟨x, r, rfl, ⟨hn, hlt⟩, g1, g2, hx⟩ := hx0
  rw [hn]
  exact mr_newa_int (b' := (b.1 - 1, b.2 - x.toNatClampNeg)) hlt (mk_w_ok hk2) ⟨by show b.1 - 1 + 1 = b.1; omega, by show b.2 - _ + _ = b.2; omega⟩ d (by rw [← e]; exact hgo _ _ _ _ _ hx)
theorem me_c_newarray_long  {m k : Nat} {go aw : ma_K} {Q : ma_Q} {b : Nat × Nat} {L : ma_L} {st : List Value} {h : ma_H} (hm : m < 286) (hk : mk m (me_pc m k) (me_pc m (k + 1)) (.newarray .long) = true) (hgo : ∀ k' b L st h, go k' b L st h → ma_P m (me_pc m k') b L st h Q) (haw : ∀ k' b L st h, aw k' b L st h → ma_P m (me_pc m k') b L st h Q) (hx : me_x m go aw Q (.newarray .long) k b L st h) : ma_P m (me_pc m k) b L st h Q := by
  obtain ⟨hk, hk2⟩ := mk_a hk
  obtain ⟨d, e⟩ := mk_d_ok hk
  have hx0 := xi_inv hx
  clear hx
  obtain ⟨x, r, rfl, ⟨hn, hlt⟩, g1, g2, hx⟩ := hx0
  rw [hn]
  exact mr_newa_long (b' := (b.1 - 1, b.2 - x.toNatClampNeg)) hlt (mk_w_ok hk2) ⟨by show b.1 - 1 + 1 = b.1; omega, by show b.2 - _ + _ = b.2; omega⟩ d (by rw [← e]; exact hgo _ _ _ _ _ hx)
theorem me_c_newarray_byte  {m k : Nat} {go aw : ma_K} {Q : ma_Q} {b : Nat × Nat} {L : ma_L} {st : List Value} {h : ma_H} (hm : m < 286) (hk : mk m (me_pc m k) (me_pc m (k + 1)) (.newarray .byte) = true) (hgo : ∀ k' b L st h, go k' b L st h → ma_P m (me_pc m k') b L st h Q) (haw : ∀ k' b L st h, aw k' b L st h → ma_P m (me_pc m k') b L st h Q) (hx : me_x m go aw Q (.newarray .byte) k b L st h) : ma_P m (me_pc m k) b L st h Q := by
  obtain ⟨hk, hk2⟩ := mk_a hk
  obtain ⟨d, e⟩ := mk_d_ok hk
  have hx0 := xi_inv hx
  clear hx
  obtain ⟨x, r, rfl, ⟨hn, hlt⟩, g1, g2, hx⟩ := hx0
  rw [hn]
  exact mr_newa_byte (b' := (b.1 - 1, b.2 - x.toNatClampNeg)) hlt (mk_w_ok hk2) ⟨by show b.1 - 1 + 1 = b.1; omega, by show b.2 - _ + _ = b.2; omega⟩ d (by rw [← e]; exact hgo _ _ _ _ _ hx)
theorem me_c_newarray_boolean  {m k : Nat} {go aw : ma_K} {Q : ma_Q} {b : Nat × Nat} {L : ma_L} {st : List Value} {h : ma_H} (hm : m < 286) (hk : mk m (me_pc m k) (me_pc m (k + 1)) (.newarray .boolean) = true) (hgo : ∀ k' b L st h, go k' b L st h → ma_P m (me_pc m k') b L st h Q) (haw : ∀ k' b L st h, aw k' b L st h → ma_P m (me_pc m k') b L st h Q) (hx : me_x m go aw Q (.newarray .boolean) k b L st h) : ma_P m (me_pc m k) b L st h Q := by
  obtain ⟨hk, hk2⟩ := mk_a hk
  obtain ⟨d, e⟩ := mk_d_ok hk
  have hx0 := xi_inv hx
  clear hx
  obtain ⟨x, r, rfl, ⟨hn, hlt⟩, g1, g2, hx⟩ := hx0
  rw [hn]
  exact mr_newa_boolean (b' := (b.1 - 1, b.2 - x.toNatClampNeg)) hlt (mk_w_ok hk2) ⟨by show b.1 - 1 + 1 = b.1; omega, by show b.2 - _ + _ = b.2; omega⟩ d (by rw [← e]; exact hgo _ _ _ _ _ hx)
theorem me_c_anewarray {c : Nat} {m k : Nat} {go aw : ma_K} {Q : ma_Q} {b : Nat × Nat} {L : ma_L} {st : List Value} {h : ma_H} (hm : m < 286) (hk : mk m (me_pc m k) (me_pc m (k + 1)) (.anewarray c) = true) (hgo : ∀ k' b L st h, go k' b L st h → ma_P m (me_pc m k') b L st h Q) (haw : ∀ k' b L st h, aw k' b L st h → ma_P m (me_pc m k') b L st h Q) (hx : me_x m go aw Q (.anewarray c) k b L st h) : ma_P m (me_pc m k) b L st h Q := by
  obtain ⟨i, len, d, hk, e⟩ := mk_j_ok hk
  cases i <;> try (exact absurd hk Bool.false_ne_true)
  obtain ⟨hk, h3⟩ := mk_a hk
  obtain ⟨hk, h2⟩ := mk_a hk
  have hl := mk_dec hk
  subst hl
  have hx0 := xi_inv hx
  clear hx
  obtain ⟨x, r, rfl, ⟨hn, hlt⟩, g1, g2, hc, hx⟩ := hx0
  rw [hn]
  rcases hc with rfl | rfl
  · exact mr_anew4 (b' := (b.1 - 1, b.2 - x.toNatClampNeg)) hlt (mk_w_ok h2) ⟨by show b.1 - 1 + 1 = b.1; omega, by show b.2 - _ + _ = b.2; omega⟩ d (by rw [← e]; exact hgo _ _ _ _ _ hx)
  · exact mr_anew5 (b' := (b.1 - 1, b.2 - x.toNatClampNeg)) hlt (mk_w_ok h2) ⟨by show b.1 - 1 + 1 = b.1; omega, by show b.2 - _ + _ = b.2; omega⟩ d (by rw [← e]; exact hgo _ _ _ _ _ hx)
theorem me_c_mna {z : Nat} {m k : Nat} {go aw : ma_K} {Q : ma_Q} {b : Nat × Nat} {L : ma_L} {st : List Value} {h : ma_H} (hm : m < 286) (hk : mk m (me_pc m k) (me_pc m (k + 1)) (.ret z) = true) (hgo : ∀ k' b L st h, go k' b L st h → ma_P m (me_pc m k') b L st h Q) (haw : ∀ k' b L st h, aw k' b L st h → ma_P m (me_pc m k') b L st h Q) (hx : me_x m go aw Q (.ret z) k b L st h) : ma_P m (me_pc m k) b L st h Q := by
  obtain ⟨i, len, d, hk, e⟩ := mk_j_ok hk
  cases i <;> try (exact absurd hk Bool.false_ne_true)
  rename_i i dims
  split at hk
  · rename_i i2 heq
    injection heq with q1 q2
    subst q1
    subst q2
    obtain ⟨hk, h3⟩ := mk_a hk
    obtain ⟨hk, h2⟩ := mk_a hk
    have hl := mk_dec hk
    subst hl
    have hx0 := xi_inv hx
    clear hx
    obtain ⟨y, r, rfl, hx⟩ := hx0
    have hx0 := xi_inv hx
    clear hx
    obtain ⟨x, r, rfl, ⟨hn, hlt, hn2, hlt2⟩, g1, g2, hx⟩ := hx0
    rw [hn, hn2]
    exact mr_mna (b' := (b.1 - (1 + x.toNatClampNeg), b.2 - (x.toNatClampNeg + x.toNatClampNeg * y.toNatClampNeg))) hlt hlt2 (mk_w_ok h2) (mk_w_ok h3) ⟨by show b.1 - _ + _ = b.1; omega, by show b.2 - _ + _ = b.2; omega⟩ d (by rw [← e]; exact hgo _ _ _ _ _ hx)
  · cases hk
theorem me_c_instanceof {t : Nat} {m k : Nat} {go aw : ma_K} {Q : ma_Q} {b : Nat × Nat} {L : ma_L} {st : List Value} {h : ma_H} (hm : m < 286) (hk : mk m (me_pc m k) (me_pc m (k + 1)) (.instanceof t) = true) (hgo : ∀ k' b L st h, go k' b L st h → ma_P m (me_pc m k') b L st h Q) (haw : ∀ k' b L st h, aw k' b L st h → ma_P m (me_pc m k') b L st h Q) (hx : me_x m go aw Q (.instanceof t) k b L st h) : ma_P m (me_pc m k) b L st h Q := by
  obtain ⟨i, len, d, hk, e⟩ := mk_j_ok hk
  cases i <;> try (exact absurd hk Bool.false_ne_true)
  obtain ⟨hk, h3⟩ := mk_a hk
  obtain ⟨hk, h2⟩ := mk_a hk
  have hl := mk_dec hk
  subst hl
  have hx0 := xr_inv hx
  clear hx
  obtain ⟨a, r, rfl, hx⟩ := hx0
  have hx0 := xo_inv hx
  clear hx
  obtain ⟨ci, fs, he, hg, hx⟩ := hx0
  exact mr_inst he hg h2 (mk_w_ok h3) d (by rw [← e]; exact hgo _ _ _ _ _ hx)
theorem me_c_invokestatic {x : Nat} {m k : Nat} {go aw : ma_K} {Q : ma_Q} {b : Nat × Nat} {L : ma_L} {st : List Value} {h : ma_H} (hm : m < 286) (hk : mk m (me_pc m k) (me_pc m (k + 1)) (.invokestatic x) = true) (hgo : ∀ k' b L st h, go k' b L st h → ma_P m (me_pc m k') b L st h Q) (haw : ∀ k' b L st h, aw k' b L st h → ma_P m (me_pc m k') b L st h Q) (hx : me_x m go aw Q (.invokestatic x) k b L st h) : ma_P m (me_pc m k) b L st h Q := by
  obtain ⟨i, len, d, hk, e⟩ := mk_j_ok hk
  cases i <;> try (exact absurd hk Bool.false_ne_true)
  obtain ⟨hk, h3⟩ := mk_a hk
  obtain ⟨hk, h2⟩ := mk_a hk
  have hl := mk_dec hk
  subst hl
  obtain ⟨hy, hlev⟩ := mk_lev_ok h2
  have hx0 := xc_inv (m := x) (st := st) (f := fun as r => me_call m x aw k b L as r h) hx
  clear hx
  obtain ⟨as, r, hlen, rfl, g1, g2, g3, hX⟩ := hx0
  rcases (Bool.or_eq_true _ _).mp h3 with h3 | h3
  · obtain ⟨z, hz⟩ := lm_of lm0_tl lm0_ok h3
    obtain ⟨hz, hst⟩ := mk_a hz
    obtain ⟨hz, z1⟩ := mk_a hz
    exact mr_static (b' := (b.1 - (mt_c x).1, b.2 - (mt_c x).2)) (Or.inl hy) hlev (by rw [hlen]; exact lp_ns hy hst) (by rw [me_cs_eq]; exact g1) ⟨by show b.1 - _ + _ = b.1; omega, by show b.2 - _ + _ = b.2; omega⟩ (by rw [me_cls m hm]; exact lw_at (mk_dec z1) rfl) (lp_static hy hst) d (ma_mono (fun v h' q => by rw [← e]; exact haw _ _ _ _ _ q) hX)
  · obtain ⟨z, hz⟩ := lm_of lm1_tl lm1_ok h3
    obtain ⟨hz, z3⟩ := mk_a hz
    obtain ⟨hz, hst⟩ := mk_a hz
    obtain ⟨hz, z1⟩ := mk_a hz
    exact mr_staticU (x := ⟨z.1, (mt_y x).name, (mt_y x).desc⟩) (b' := (b.1 - (mt_c x).1, b.2 - (mt_c x).2)) (Or.inl hy) hlev (by rw [hlen]; exact lp_ns hy hst) (by rw [me_cs_eq]; exact g1) ⟨by show b.1 - _ + _ = b.1; omega, by show b.2 - _ + _ = b.2; omega⟩ rfl (by rw [me_cls m hm]; exact lw_at (mk_dec z1) rfl) (lw_at (mk_dec z3) rfl) (lp_static hy hst) d (ma_mono (fun v h' q => by rw [← e]; exact haw _ _ _ _ _ q) hX)
theorem me_c_invokespecial {x : Nat} {m k : Nat} {go aw : ma_K} {Q : ma_Q} {b : Nat × Nat} {L : ma_L} {st : List Value} {h : ma_H} (hm : m < 286) (hk : mk m (me_pc m k) (me_pc m (k + 1)) (.invokespecial x) = true) (hgo : ∀ k' b L st h, go k' b L st h → ma_P m (me_pc m k') b L st h Q) (haw : ∀ k' b L st h, aw k' b L st h → ma_P m (me_pc m k') b L st h Q) (hx : me_x m go aw Q (.invokespecial x) k b L st h) : ma_P m (me_pc m k) b L st h Q := by
  obtain ⟨i, len, d, hk, e⟩ := mk_j_ok hk
  cases i <;> try (exact absurd hk Bool.false_ne_true)
  obtain ⟨hk, h3⟩ := mk_a hk
  obtain ⟨hk, h2⟩ := mk_a hk
  have hl := mk_dec hk
  subst hl
  obtain ⟨hy, hlev⟩ := mk_lev_ok h2
  have hx0 := xc_inv (m := x) (st := st) (f := fun as r => xr as fun _ _ => me_call m x aw k b L as r h) hx
  clear hx
  obtain ⟨as, r, hlen, rfl, hx⟩ := hx0
  have hx0 := xr_inv hx
  clear hx
  obtain ⟨a, as', rfl, g1, g2, g3, hX⟩ := hx0
  rw [List.reverse_cons, List.append_assoc]
  have hln : as'.length = me_na x - 1 := by rw [← hlen]; rfl
  obtain ⟨z, hz⟩ := lm_of lm2_tl lm2_ok h3
  obtain ⟨hz, z5⟩ := mk_a hz
  obtain ⟨hz, z4⟩ := mk_a hz
  obtain ⟨hz, z3⟩ := mk_a hz
  obtain ⟨hz, z1⟩ := mk_a hz
  have hst : lp_st x = false := by simpa using z3
  exact mr_init (b' := (b.1 - (mt_c x).1, b.2 - (mt_c x).2)) (Or.inl hy) hlev (by rw [hln]; exact (lp_ni hy hst).1) (by rw [me_cs_eq]; exact g1) ⟨by show b.1 - _ + _ = b.1; omega, by show b.2 - _ + _ = b.2; omega⟩ (mk_dec z5) (by rw [me_cls m hm]; exact lw_at (mk_dec z1) rfl) (lp_inst hy hst) (mk_dec z4) d (ma_mono (fun v h' q => by rw [← e]; exact haw _ _ _ _ _ q) hX)
theorem me_c_invokedynamic {x : Nat} {m k : Nat} {go aw : ma_K} {Q : ma_Q} {b : Nat × Nat} {L : ma_L} {st : List Value} {h : ma_H} (hm : m < 286) (hk : mk m (me_pc m k) (me_pc m (k + 1)) (.invokedynamic x) = true) (hgo : ∀ k' b L st h, go k' b L st h → ma_P m (me_pc m k') b L st h Q) (haw : ∀ k' b L st h, aw k' b L st h → ma_P m (me_pc m k') b L st h Q) (hx : me_x m go aw Q (.invokedynamic x) k b L st h) : ma_P m (me_pc m k) b L st h Q := by
  obtain ⟨i, len, d, hk, e⟩ := mk_j_ok hk
  cases i <;> try (exact absurd hk Bool.false_ne_true)
  obtain ⟨hk, h3⟩ := mk_a hk
  obtain ⟨hk, h2⟩ := mk_a hk
  have hl := mk_dec hk
  subst hl
  obtain ⟨hy, hlev⟩ := mk_lev_ok h2
  have hx0 := xc_inv (m := x) (st := st) (f := fun as r => xr as fun a _ => xo (h.2.1 a) fun ci _ => ci < 13 ∧ me_call m x aw k b L as r h) hx
  clear hx
  obtain ⟨as, r, hlen, rfl, hx⟩ := hx0
  have hx0 := xr_inv hx
  clear hx
  obtain ⟨a, as', rfl, hx⟩ := hx0
  rw [List.reverse_cons, List.append_assoc]
  have hln : as'.length = me_na x - 1 := by rw [← hlen]; rfl
  have hx0 := xo_inv hx
  clear hx
  obtain ⟨ci, fs, he, hci, g1, g2, g3, hX⟩ := hx0
  rcases (Bool.or_eq_true _ _).mp h3 with h3 | h3
  · obtain ⟨z, hz⟩ := lm_of lm3_tl lm3_ok h3
    obtain ⟨hz, z6⟩ := mk_a hz
    obtain ⟨hz, z5⟩ := mk_a hz
    obtain ⟨hz, z4⟩ := mk_a hz
    obtain ⟨hz, z3⟩ := mk_a hz
    obtain ⟨hz, z1⟩ := mk_a hz
    have hst : lp_st x = false := by simpa using z3
    exact mr_super (b' := (b.1 - (mt_c x).1, b.2 - (mt_c x).2)) (Or.inl hy) hlev (by rw [hln]; exact (lp_ni hy hst).1) (by rw [me_cs_eq]; exact g1) ⟨by show b.1 - _ + _ = b.1; omega, by show b.2 - _ + _ = b.2; omega⟩ he hci (by rw [me_cls m hm]; exact lw_at (mk_dec z1) rfl) (lw_at (mk_dec z4) rfl) (lp_inst hy hst) (by rw [me_cls m hm]; exact lw_at (mk_dec z5) rfl) (mk_dec z6) d (ma_mono (fun v h' q => by rw [← e]; exact haw _ _ _ _ _ q) hX)
  · obtain ⟨z, hz⟩ := lm_of lm4_tl lm4_ok h3
    obtain ⟨hz, z8⟩ := mk_a hz
    obtain ⟨hz, z7⟩ := mk_a hz
    obtain ⟨hz, z6⟩ := mk_a hz
    obtain ⟨hz, z5⟩ := mk_a hz
    obtain ⟨hz, z4⟩ := mk_a hz
    obtain ⟨hz, z3⟩ := mk_a hz
    obtain ⟨hz, z1⟩ := mk_a hz
    have hst : lp_st x = false := by simpa using z3
    refine mr_superU (x := ⟨z.1, (mt_y x).name, (mt_y x).desc⟩) (b' := (b.1 - (mt_c x).1, b.2 - (mt_c x).2)) (Or.inl hy) hlev (by rw [hln]; exact (lp_ni hy hst).1) (by rw [me_cs_eq]; exact g1) ⟨by show b.1 - _ + _ = b.1; omega, by show b.2 - _ + _ = b.2; omega⟩ he hci rfl (by rw [me_cls m hm]; exact lw_at (mk_dec z1) rfl) (lw_at (mk_dec z4) rfl) (lp_inst hy hst) (by rw [me_cls m hm]; exact lw_at (mk_dec z5) rfl) (mk_dec z7) ?_ (mk_dec z6) d (ma_mono (fun v h' q => by rw [← e]; exact haw _ _ _ _ _ q) hX)
    rcases (Bool.or_eq_true _ _).mp z8 with z8 | z8
    · exact Or.inl (mk_dec z8)
    · obtain ⟨z8, y4⟩ := mk_a z8
      obtain ⟨z8, y3⟩ := mk_a z8
      obtain ⟨y1, y2⟩ := mk_a z8
      exact Or.inr ⟨_, mk_dec y1, mk_dec y2, mk_dec y3, mk_dec y4⟩
theorem me_c_invokevirtual {x : Nat} {m k : Nat} {go aw : ma_K} {Q : ma_Q} {b : Nat × Nat} {L : ma_L} {st : List Value} {h : ma_H} (hm : m < 286) (hk : mk m (me_pc m k) (me_pc m (k + 1)) (.invokevirtual x) = true) (hgo : ∀ k' b L st h, go k' b L st h → ma_P m (me_pc m k') b L st h Q) (haw : ∀ k' b L st h, aw k' b L st h → ma_P m (me_pc m k') b L st h Q) (hx : me_x m go aw Q (.invokevirtual x) k b L st h) : ma_P m (me_pc m k) b L st h Q := by
  obtain ⟨i, len, d, hk, e⟩ := mk_j_ok hk
  cases i <;> try (exact absurd hk Bool.false_ne_true)
  obtain ⟨hk, h3⟩ := mk_a hk
  obtain ⟨hk, h2⟩ := mk_a hk
  have hl := mk_dec hk
  subst hl
  obtain ⟨hy, hlev⟩ := mk_lev_ok h2
  have hx0 := xc_inv (m := x) (st := st) (f := fun as r => xr as fun a _ => xo (h.2.1 a) fun ci _ => ci = me_ow x ∧ me_call m x aw k b L as r h) hx
  clear hx
  obtain ⟨as, r, hlen, rfl, hx⟩ := hx0
  have hx0 := xr_inv hx
  clear hx
  obtain ⟨a, as', rfl, hx⟩ := hx0
  rw [List.reverse_cons, List.append_assoc]
  have hln : as'.length = me_na x - 1 := by rw [← hlen]; rfl
  have hx0 := xo_inv hx
  clear hx
  obtain ⟨ci, fs, he, hci, g1, g2, g3, hX⟩ := hx0
  obtain ⟨z, hz⟩ := lm_of lm5_tl lm5_ok h3
  obtain ⟨hz, z5⟩ := mk_a hz
  obtain ⟨hz, z4⟩ := mk_a hz
  obtain ⟨hz, z3⟩ := mk_a hz
  obtain ⟨hz, z1⟩ := mk_a hz
  have hst : lp_st x = false := by simpa using z3
  subst hci
  exact mr_virtual (b' := (b.1 - (mt_c x).1, b.2 - (mt_c x).2)) (Or.inl hy) hlev (by rw [hln]; exact (lp_ni hy hst).1) (by rw [me_cs_eq]; exact g1) ⟨by show b.1 - _ + _ = b.1; omega, by show b.2 - _ + _ = b.2; omega⟩ he (mk_dec z4) (by rw [me_cls m hm]; exact lw_at (mk_dec z1) rfl) (lp_inst hy hst) (lw_at (mk_dec z5) rfl) d (ma_mono (fun v h' q => by rw [← e]; exact haw _ _ _ _ _ q) hX)
theorem lk_use {x ci y : Nat} (h : me_vt x ci = some y) : ∃ q, q ∈ lk_t ∧ q.1 = x ∧ ∃ p, (ci, y, p) ∈ q.2.2.2.2 := by
  unfold me_vt at h
  cases hf : me_vl.find? (fun q => q.1 == x && q.2.1 == ci) with
  | none => rw [hf] at h; cases h
  | some z =>
    rw [hf] at h
    have hy : z.2.2 = y := Option.some.inj h
    have hmem := List.mem_of_find?_eq_some hf
    have hp := List.find?_some hf
    simp only [Bool.and_eq_true, beq_iff_eq] at hp
    rw [← lk_vl] at hmem
    obtain ⟨q, hq, hz⟩ := List.mem_flatMap.mp hmem
    obtain ⟨w, hw, e⟩ := List.mem_map.mp hz
    refine ⟨q, hq, ?_, w.2.2, ?_⟩
    · rw [← hp.1, ← e]
    · rw [← hp.2, ← hy, ← e]
      exact hw
theorem lk_nx {q : Nat × String × Nat × Nat × List (Nat × Nat × Nat)} (h : q ∈ lk_t) : lk_n q.1 = lk_x q := by
  have hd : lk_t.all (fun q => decide (lk_n q.1 = lk_x q)) = true := by decide +kernel
  exact mk_dec (List.all_eq_true.mp hd q h)
theorem me_c_putstatic {x : Nat} {m k : Nat} {go aw : ma_K} {Q : ma_Q} {b : Nat × Nat} {L : ma_L} {st : List Value} {h : ma_H} (hm : m < 286) (hk : mk m (me_pc m k) (me_pc m (k + 1)) (.putstatic x) = true) (hgo : ∀ k' b L st h, go k' b L st h → ma_P m (me_pc m k') b L st h Q) (haw : ∀ k' b L st h, aw k' b L st h → ma_P m (me_pc m k') b L st h Q) (hx : me_x m go aw Q (.putstatic x) k b L st h) : ma_P m (me_pc m k) b L st h Q := by
  obtain ⟨i, len, d, hk, e⟩ := mk_j_ok hk
  cases i <;> try (exact absurd hk Bool.false_ne_true)
  obtain ⟨hk, h3⟩ := mk_a hk
  obtain ⟨hk, h2⟩ := mk_a hk
  have hl := mk_dec hk
  subst hl
  have hx0 := xc_inv (m := x) (st := st) (f := fun as r => xr as fun a _ => xo (h.2.1 a) fun ci _ => match me_vt x ci with | some y => me_call m y aw k b L as r h | none => False) hx
  clear hx
  obtain ⟨as, r, hlen, rfl, hx⟩ := hx0
  have hx0 := xr_inv hx
  clear hx
  obtain ⟨a, as', rfl, hx⟩ := hx0
  rw [List.reverse_cons, List.append_assoc]
  have hln : as'.length = me_na x - 1 := by rw [← hlen]; rfl
  have hx0 := xo_inv hx
  clear hx
  obtain ⟨ci, fs, he, hx⟩ := hx0
  split at hx
  · rename_i y hvt
    obtain ⟨g1, g2, g3, hX⟩ := hx
    obtain ⟨q, hq, hqx, p, hp⟩ := lk_use hvt
    have hc := List.all_eq_true.mp lk_ok q hq
    unfold lk_c at hc
    obtain ⟨hc, c5⟩ := mk_a hc
    obtain ⟨hc, c4⟩ := mk_a hc
    obtain ⟨hc, c3⟩ := mk_a hc
    obtain ⟨c1, c2⟩ := mk_a hc
    have hs := List.all_eq_true.mp c5 _ hp
    obtain ⟨hs, s6⟩ := mk_a hs
    obtain ⟨hs, s5⟩ := mk_a hs
    obtain ⟨hs, s4⟩ := mk_a hs
    obtain ⟨hs, s3⟩ := mk_a hs
    obtain ⟨s1, s2⟩ := mk_a hs
    have hy : y < 285 := mk_dec s2
    have hst : lp_st y = false := by simpa using s3
    have hst0 : lp_st q.2.2.1 = false := by simpa using c2
    have hlv : mt_v y + 1 ≤ mt_v m := by
      have hmem : (x, ci, y) ∈ me_vl := by
        rw [← lk_vl]
        exact List.mem_flatMap.mpr ⟨q, hq, List.mem_map.mpr ⟨_, hp, by rw [hqx]⟩⟩
      have := List.all_eq_true.mp h3 _ hmem
      simp only [beq_self_eq_true, Bool.not_true, Bool.false_or] at this
      exact (mk_lev_ok this).2
    have hna : me_na y = me_na x := by rw [← hqx]; exact mk_dec s4
    have hlink : ∀ {ix : Nat}, lm6.contains (me_ow m, ix, x) = true → Cond.methodLink (ct_R (me_ow m)) ix (lk_x q) ∈ lw_ok := by
      intro ix h2
      have hmem : (me_ow m, ix, x) ∈ lm6 := by simpa using h2
      rw [← lm6_tl] at hmem
      obtain ⟨w, hw, ew⟩ := List.mem_map.mp hmem
      have hd := mk_dec (List.all_eq_true.mp lm6_ok w hw)
      rw [ew] at hd
      rw [← lk_nx hq, hqx]
      exact lw_at hd rfl
    exact mr_virtualU (b' := (b.1 - (mt_c y).1, b.2 - (mt_c y).2)) (Or.inl hy) hlv (by rw [hln, ← hna]; exact (lp_ni hy hst).1) (by rw [me_cs_eq]; exact g1) ⟨by show b.1 - _ + _ = b.1; omega, by show b.2 - _ + _ = b.2; omega⟩ he (mk_dec s1) (x := lk_x q) (owner := (mt_y q.2.2.1).cls) (m0 := q.2.2.1) (Or.inl (mk_dec c1)) rfl (mk_dec s5).symm (by rw [me_cls m hm]; exact hlink h2) (lw_at (mk_dec c3) rfl) (lp_inst (mk_dec c1) hst0) (lp_inst hy hst) (lw_at (mk_dec s6) rfl) d (ma_mono (fun v h' q => by rw [← e]; exact haw _ _ _ _ _ q) hX)
  · exact hx.elim
theorem me_c_ireturn  {m k : Nat} {go aw : ma_K} {Q : ma_Q} {b : Nat × Nat} {L : ma_L} {st : List Value} {h : ma_H} (hm : m < 286) (hk : mk m (me_pc m k) (me_pc m (k + 1)) (.ireturn) = true) (hgo : ∀ k' b L st h, go k' b L st h → ma_P m (me_pc m k') b L st h Q) (haw : ∀ k' b L st h, aw k' b L st h → ma_P m (me_pc m k') b L st h Q) (hx : me_x m go aw Q (.ireturn) k b L st h) : ma_P m (me_pc m k) b L st h Q := by
  have d := mk_dec hk
  match st, hx with
  | [.int x], hx =>
    refine mr_ret (v := some (.int x)) ⟨d, rfl, ?_⟩ hx.2
    have h1 := hx.1
    unfold me_rz at h1
    split at h1
    · rename_i hr; exact ⟨_, hr, rfl⟩
    · rename_i hr
      refine ⟨_, hr, ?_⟩
      rcases h1 with rfl | rfl <;> rfl
    · exact h1.elim
theorem me_c_lreturn  {m k : Nat} {go aw : ma_K} {Q : ma_Q} {b : Nat × Nat} {L : ma_L} {st : List Value} {h : ma_H} (hm : m < 286) (hk : mk m (me_pc m k) (me_pc m (k + 1)) (.lreturn) = true) (hgo : ∀ k' b L st h, go k' b L st h → ma_P m (me_pc m k') b L st h Q) (haw : ∀ k' b L st h, aw k' b L st h → ma_P m (me_pc m k') b L st h Q) (hx : me_x m go aw Q (.lreturn) k b L st h) : ma_P m (me_pc m k) b L st h Q := by
  obtain ⟨d, h2⟩ := mk_a hk
  match st, hx with
  | [.long x], hx => exact mr_ret (v := some (.long x)) ⟨mk_dec d, rfl, mk_dec h2⟩ hx
theorem me_c_areturn  {m k : Nat} {go aw : ma_K} {Q : ma_Q} {b : Nat × Nat} {L : ma_L} {st : List Value} {h : ma_H} (hm : m < 286) (hk : mk m (me_pc m k) (me_pc m (k + 1)) (.areturn) = true) (hgo : ∀ k' b L st h, go k' b L st h → ma_P m (me_pc m k') b L st h Q) (haw : ∀ k' b L st h, aw k' b L st h → ma_P m (me_pc m k') b L st h Q) (hx : me_x m go aw Q (.areturn) k b L st h) : ma_P m (me_pc m k) b L st h Q := by
  obtain ⟨d, h2⟩ := mk_a hk
  have ht : ∃ ty, mt_r m = some ty ∧ ((∃ n, ty = .object n) ∨ ∃ t, ty = .array t) := by
    split at h2
    · rename_i n hr; exact ⟨_, hr, Or.inl ⟨_, rfl⟩⟩
    · rename_i n hr; exact ⟨_, hr, Or.inr ⟨_, rfl⟩⟩
    · cases h2
  match st, hx with
  | [.ref a], hx => exact mr_ret (v := some (.ref a)) ⟨mk_dec d, rfl, Or.inr ⟨_, rfl⟩, ht⟩ hx
  | [.null], hx => exact mr_ret (v := some .null) ⟨mk_dec d, rfl, Or.inl rfl, ht⟩ hx
theorem me_c_return_  {m k : Nat} {go aw : ma_K} {Q : ma_Q} {b : Nat × Nat} {L : ma_L} {st : List Value} {h : ma_H} (hm : m < 286) (hk : mk m (me_pc m k) (me_pc m (k + 1)) (.return_) = true) (hgo : ∀ k' b L st h, go k' b L st h → ma_P m (me_pc m k') b L st h Q) (haw : ∀ k' b L st h, aw k' b L st h → ma_P m (me_pc m k') b L st h Q) (hx : me_x m go aw Q (.return_) k b L st h) : ma_P m (me_pc m k) b L st h Q := by
  obtain ⟨d, h2⟩ := mk_a hk
  match st, hx with
  | [], hx => exact mr_ret (v := none) ⟨mk_dec d, rfl, mk_dec h2⟩ hx
