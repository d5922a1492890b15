/-! THE RUN: from what an instruction asks, step by step, to a walk; a walk halts where the code says so and behind calls -/
theorem me_c_ldc2_w {j : Nat} {m k : Nat} {go aw : ma_K} {Q : ma_Q} {b : Nat × Nat} {L : ma_L} {st : List Value} {h : ma_H} (hm : m < 286) (hk : mk m (me_pc m k) (me_pc m (k + 1)) (.ldc2_w j) = true) (hgo : ∀ k' b L st h, go k' b L st h → ma_P m (me_pc m k') b L st h Q) (haw : ∀ k' b L st h, aw k' b L st h → ma_P m (me_pc m k') b L st h Q) (hx : me_x m go aw Q (.ldc2_w j) k b L st h) : ma_P m (me_pc m k) b L st h Q := by
  obtain ⟨i, len, d, hk, e⟩ := mk_j_ok hk
  obtain ⟨hv, hk⟩ := mk_a hk
  have hv := mk_dec hv
  have hl : ∀ {a : Nat}, lm7.contains (me_ow m, a, j) = true → Cond.methodLink (mt_y m).cls a (lm7_y j) ∈ lw_ok := by
    intro a h7
    have hmem : (me_ow m, a, j) ∈ lm7 := by simpa using h7
    rw [← lm7_tl] at hmem
    obtain ⟨w, hw, ew⟩ := List.mem_map.mp hmem
    have hd := mk_dec (List.all_eq_true.mp lm7_ok w hw)
    rw [ew] at hd
    rw [me_cls m hm]
    exact lw_at hd rfl
  obtain ⟨mj1, mj2, mj3⟩ := mj_max
  obtain ⟨mj4, mj5⟩ := mj_min
  obtain ⟨mj6, mj7⟩ := mj_abs
  obtain ⟨mj8, mj9, mj10⟩ := mj_cpy
  obtain ⟨mj11, mj12⟩ := mj_obj
  replace hx : me_jdk m j go k b L st h := hx
  cases i <;> try (exact absurd hk Bool.false_ne_true)
  case invokestatic i =>
    obtain ⟨hk, h3⟩ := mk_a hk
    obtain ⟨hk, h2⟩ := mk_a hk
    have hlen := mk_dec hk
    subst hlen
    have hj := mk_dec h2
    match j, hj, hx, hl h3 with
    | 0, _, hx1, hw =>
      clear hx
      have hx0 := xi_inv (st := st) hx1
      clear hx1
      obtain ⟨y, r, rfl, hx⟩ := hx0
      have hx0 := xi_inv (st := r) hx
      clear hx
      obtain ⟨x, r, rfl, g, hx⟩ := hx0
      exact mr_mmax (by rw [me_cs_eq]; exact g) hv hw mj1 mj2 mj3 d (by rw [← e]; exact hgo _ _ _ _ _ hx)
    | 1, _, hx1, hw =>
      clear hx
      have hx0 := xi_inv (st := st) hx1
      clear hx1
      obtain ⟨y, r, rfl, hx⟩ := hx0
      have hx0 := xi_inv (st := r) hx
      clear hx
      obtain ⟨x, r, rfl, g, hx⟩ := hx0
      exact mr_mmin (by rw [me_cs_eq]; exact g) hv hw mj4 mj2 mj5 d (by rw [← e]; exact hgo _ _ _ _ _ hx)
    | 2, _, hx1, hw =>
      clear hx
      have hx0 := xi_inv (st := st) hx1
      clear hx1
      obtain ⟨x, r, rfl, g, hx⟩ := hx0
      exact mr_mabs (by rw [me_cs_eq]; exact g) hv hw mj6 mj2 mj7 d (by rw [← e]; exact hgo _ _ _ _ _ hx)
    | 3, _, hx1, hw =>
      clear hx
      have hx0 := xi_inv (st := st) hx1
      clear hx1
      obtain ⟨n, r, rfl, hx⟩ := hx0
      have hx0 := xi_inv (st := r) hx
      clear hx
      obtain ⟨dp, r, rfl, hx⟩ := hx0
      have hx0 := xr_inv (st := r) hx
      clear hx
      obtain ⟨a, r, rfl, hx⟩ := hx0
      have hx0 := xi_inv (st := r) hx
      clear hx
      obtain ⟨sp, r, rfl, hx⟩ := hx0
      have hx0 := xr_inv (st := r) hx
      clear hx
      obtain ⟨a0, r, rfl, hx⟩ := hx0
      have hx0 := xI_inv hx
      clear hx
      obtain ⟨n0, f, he0, hx⟩ := hx0
      have hx0 := xI_inv hx
      clear hx
      obtain ⟨n1, g, he, ⟨q1, q2, q3, q4, q5⟩, q6, hx⟩ := hx0
      exact mr_copyi he0 he q1 q2 q3 q4 q5 (fun _ _ => rfl) (by rw [me_cs_eq]; exact q6) hv hw mj8 mj9 mj10 d (by rw [← e]; exact hgo _ _ _ _ _ hx)
    | 4, _, hx1, hw =>
      clear hx
      have hx0 := xi_inv (st := st) hx1
      clear hx1
      obtain ⟨n, r, rfl, hx⟩ := hx0
      have hx0 := xi_inv (st := r) hx
      clear hx
      obtain ⟨dp, r, rfl, hx⟩ := hx0
      have hx0 := xr_inv (st := r) hx
      clear hx
      obtain ⟨a, r, rfl, hx⟩ := hx0
      have hx0 := xi_inv (st := r) hx
      clear hx
      obtain ⟨sp, r, rfl, hx⟩ := hx0
      have hx0 := xr_inv (st := r) hx
      clear hx
      obtain ⟨a0, r, rfl, hx⟩ := hx0
      have hx0 := xI_inv hx
      clear hx
      obtain ⟨n0, f, he0, hx⟩ := hx0
      have hx0 := xI_inv hx
      clear hx
      obtain ⟨n1, g, he, ⟨q1, q2, q3, q4, q5, q7⟩, q6, hx⟩ := hx0
      exact mr_copyb he0 he q1 q2 q3 q4 q5 q7 (by rw [me_cs_eq]; exact q6) hv hw mj8 mj9 mj10 d (by rw [← e]; exact hgo _ _ _ _ _ hx)
    | j + 5, hj, _, _ => exact absurd hj (by omega)
  case invokespecial i =>
    obtain ⟨hk, h3⟩ := mk_a hk
    obtain ⟨hk, h2⟩ := mk_a hk
    have hlen := mk_dec hk
    subst hlen
    have hj := mk_dec h2
    subst hj
    have hx0 := xr_inv (st := st) hx
    clear hx
    obtain ⟨a, r, rfl, g, hx⟩ := hx0
    exact mr_objInit (by rw [me_cs_eq]; exact g) hv (hl h3) mj11 mj12 d (by rw [← e]; exact hgo _ _ _ _ _ hx)
  case invokevirtual i =>
    obtain ⟨hk, h3⟩ := mk_a hk
    obtain ⟨hk, h10⟩ := mk_a hk
    obtain ⟨hk, h2⟩ := mk_a hk
    have hlen := mk_dec hk
    subst hlen
    rcases (Bool.or_eq_true _ _).mp h2 with h2 | h2
    · have hj := mk_dec h2
      subst hj
      rcases xa_inv (st := st) hx with ⟨a, r, -, hf⟩ | ⟨q, r, rfl, hq, g, hx⟩
      · exact hf.elim
      · exact mr_slength hq.1 hq.2 (by rw [me_cs_eq]; exact g) (mk_dec h10) (hl h3) d (by rw [← e]; exact hgo _ _ _ _ _ hx)
    · have hj := mk_dec h2
      subst hj
      have hx0 := xi_inv (st := st) hx
      clear hx
      obtain ⟨x, r, rfl, hx⟩ := hx0
      rcases xa_inv (st := r) hx with ⟨a, r, -, hf⟩ | ⟨q, r, rfl, hq, hi, g, hx⟩
      · exact hf.elim
      · exact mr_scharAt hq.1 hq.2 hi (by rw [me_cs_eq]; exact g) (mk_dec h10) (hl h3) d (by rw [← e]; exact hgo _ _ _ _ _ hx)
theorem me_ok {i : Instr} {m k : Nat} {go aw : ma_K} {Q : ma_Q} {b : Nat × Nat} {L : ma_L} {st : List Value} {h : ma_H} (hm : m < 286) (hk : mk m (me_pc m k) (me_pc m (k + 1)) i = true) (hgo : ∀ k' b L st h, go k' b L st h → ma_P m (me_pc m k') b L st h Q) (haw : ∀ k' b L st h, aw k' b L st h → ma_P m (me_pc m k') b L st h Q) (hx : me_x m go aw Q i k b L st h) : ma_P m (me_pc m k) b L st h Q := by
  cases i with
  | iconst z => exact me_c_iconst hm hk hgo haw hx
  | bipush z => exact me_c_bipush hm hk hgo haw hx
  | sipush z => exact me_c_sipush hm hk hgo haw hx
  | lconst z => exact me_c_lconst hm hk hgo haw hx
  | aconst_null => exact me_c_aconst_null hm hk hgo haw hx
  | jsr z => exact me_c_jsr hm hk hgo haw hx
  | jsr_w z => exact me_c_jsr_w hm hk hgo haw hx
  | ldc q => exact me_c_ldc hm hk hgo haw hx
  | getstatic j => exact me_c_getstatic hm hk hgo haw hx
  | iload n => exact me_c_iload hm hk hgo haw hx
  | iload_n n => exact me_c_iload_n hm hk hgo haw hx
  | lload n => exact me_c_lload hm hk hgo haw hx
  | lload_n n => exact me_c_lload_n hm hk hgo haw hx
  | aload n => exact me_c_aload hm hk hgo haw hx
  | aload_n n => exact me_c_aload_n hm hk hgo haw hx
  | istore n => exact me_c_istore hm hk hgo haw hx
  | lstore n => exact me_c_lstore hm hk hgo haw hx
  | astore n => exact me_c_astore hm hk hgo haw hx
  | istore_n n => exact me_c_istore_n hm hk hgo haw hx
  | lstore_n n => exact me_c_lstore_n hm hk hgo haw hx
  | astore_n n => exact me_c_astore_n hm hk hgo haw hx
  | iinc n z => exact me_c_iinc hm hk hgo haw hx
  | iadd => exact me_c_iadd hm hk hgo haw hx
  | isub => exact me_c_isub hm hk hgo haw hx
  | imul => exact me_c_imul hm hk hgo haw hx
  | iand => exact me_c_iand hm hk hgo haw hx
  | ior => exact me_c_ior hm hk hgo haw hx
  | ixor => exact me_c_ixor hm hk hgo haw hx
  | ishl => exact me_c_ishl hm hk hgo haw hx
  | ishr => exact me_c_ishr hm hk hgo haw hx
  | iushr => exact me_c_iushr hm hk hgo haw hx
  | idiv => exact me_c_idiv hm hk hgo haw hx
  | irem => exact me_c_irem hm hk hgo haw hx
  | ladd => exact me_c_ladd hm hk hgo haw hx
  | lsub => exact me_c_lsub hm hk hgo haw hx
  | lmul => exact me_c_lmul hm hk hgo haw hx
  | land => exact me_c_land hm hk hgo haw hx
  | lor => exact me_c_lor hm hk hgo haw hx
  | lxor => exact me_c_lxor hm hk hgo haw hx
  | lcmp => exact me_c_lcmp hm hk hgo haw hx
  | ldiv => exact me_c_ldiv hm hk hgo haw hx
  | lrem => exact me_c_lrem hm hk hgo haw hx
  | lushr => exact me_c_lushr hm hk hgo haw hx
  | lshl => exact me_c_lshl hm hk hgo haw hx
  | lshr => exact me_c_lshr hm hk hgo haw hx
  | ineg => exact me_c_ineg hm hk hgo haw hx
  | i2l => exact me_c_i2l hm hk hgo haw hx
  | l2i => exact me_c_l2i hm hk hgo haw hx
  | i2b => exact me_c_i2b hm hk hgo haw hx
  | i2s => exact me_c_i2s hm hk hgo haw hx
  | dup => exact me_c_dup hm hk hgo haw hx
  | pop => exact me_c_pop hm hk hgo haw hx
  | dup_x1 => exact me_c_dup_x1 hm hk hgo haw hx
  | dup2 => exact me_c_dup2 hm hk hgo haw hx
  | ifCond c t => exact me_c_ifCond hm hk hgo haw hx
  | if_icmp c t => exact me_c_if_icmp hm hk hgo haw hx
  | goto t => exact me_c_goto hm hk hgo haw hx
  | ifnull t => exact me_c_ifnull hm hk hgo haw hx
  | ifnonnull t => exact me_c_ifnonnull hm hk hgo haw hx
  | tableswitch t lo hi ts => exact me_c_tableswitch hm hk hgo haw hx
  | lookupswitch t ps => exact me_c_lookupswitch hm hk hgo haw hx
  | multianewarray base n => exact me_c_getfield hm hk hgo haw hx
  | invokeinterface base n => exact me_c_putfield hm hk hgo haw hx
  | iaload => exact me_c_iaload hm hk hgo haw hx
  | baload => exact me_c_baload hm hk hgo haw hx
  | faload => exact me_c_faload hm hk hgo haw hx
  | laload => exact me_c_laload hm hk hgo haw hx
  | aaload => exact me_c_aaload hm hk hgo haw hx
  | iastore => exact me_c_iastore hm hk hgo haw hx
  | bastore => exact me_c_bastore hm hk hgo haw hx
  | fastore => exact me_c_fastore hm hk hgo haw hx
  | lastore => exact me_c_lastore hm hk hgo haw hx
  | aastore => exact me_c_aastore hm hk hgo haw hx
  | arraylength => exact me_c_arraylength hm hk hgo haw hx
  | new c => exact me_c_new hm hk hgo haw hx
  | newarray t =>
    cases t with
    | int => exact me_c_newarray_int hm hk hgo haw hx
    | long => exact me_c_newarray_long hm hk hgo haw hx
    | byte => exact me_c_newarray_byte hm hk hgo haw hx
    | boolean => exact me_c_newarray_boolean hm hk hgo haw hx
    | _ => exact hx.elim
  | anewarray c => exact me_c_anewarray hm hk hgo haw hx
  | ret z => exact me_c_mna hm hk hgo haw hx
  | instanceof t => exact me_c_instanceof hm hk hgo haw hx
  | invokestatic x => exact me_c_invokestatic hm hk hgo haw hx
  | invokespecial x => exact me_c_invokespecial hm hk hgo haw hx
  | invokedynamic x => exact me_c_invokedynamic hm hk hgo haw hx
  | invokevirtual x => exact me_c_invokevirtual hm hk hgo haw hx
  | putstatic x => exact me_c_putstatic hm hk hgo haw hx
  | ireturn => exact me_c_ireturn hm hk hgo haw hx
  | lreturn => exact me_c_lreturn hm hk hgo haw hx
  | areturn => exact me_c_areturn hm hk hgo haw hx
  | return_ => exact me_c_return_ hm hk hgo haw hx
  | ldc2_w j => exact me_c_ldc2_w hm hk hgo haw hx
  | _ => exact hx.elim
/-- at instruction k of method m -/
def At (m : Nat) (Q : ma_Q) : ma_K := fun k b L st h => ma_P m (me_pc m k) b L st h Q
/-- walk on: at most n instructions, as far as the next place where the code halts -/
def wk (m : Nat) (Q : ma_Q) : Nat → ma_K
  | 0, k, b, L, st, h => At m Q k b L st h
  | n + 1, k, b, L, st, h => match (me_cd m)[k]? with
    | some (_, false, i) => me_x m (wk m Q n) (At m Q) Q i k b L st h
    | some (_, true, _) => At m Q k b L st h
    | none => False
/-- the first instruction, and on -/
def wk1 (m : Nat) (Q : ma_Q) (n : Nat) : ma_K := fun k b L st h => match (me_cd m)[k]? with
    | some (_, _, i) => me_x m (wk m Q n) (At m Q) Q i k b L st h
    | none => False
theorem wk_pc {m k : Nat} {q : Nat × Bool × Instr} (e : (me_cd m)[k]? = some q) : me_pc m k = q.1 := by
  unfold me_pc
  rw [e]
theorem wk_mk {m k : Nat} {q : Nat × Bool × Instr} (hm : m < 286) (e : (me_cd m)[k]? = some q) : mk m (me_pc m k) (me_pc m (k + 1)) q.2.2 = true := by
  have h := mk_all hm e
  rw [wk_pc e]
  have hp : me_pc m (k + 1) = mk_hd ((me_cd m).drop (k + 1)) := by
    unfold me_pc mk_hd
    cases e2 : (me_cd m)[k + 1]? with
    | none =>
      rw [List.drop_eq_nil_of_le (by simpa using e2)]
    | some q2 =>
      have hlt := (List.getElem?_eq_some_iff.mp e2).1
      rw [List.drop_eq_getElem_cons hlt, (List.getElem?_eq_some_iff.mp e2).2]
  rw [hp]
  exact h
theorem wk_ok {m : Nat} {Q : ma_Q} (hm : m < 286) : ∀ (n k : Nat) (b : Nat × Nat) (L : ma_L) (st : List Value) (h : ma_H), wk m Q n k b L st h → At m Q k b L st h
  | 0, _, _, _, _, _, hx => hx
  | n + 1, k, b, L, st, h, hx => by
    have hx' : (match (me_cd m)[k]? with
      | some (_, false, i) => me_x m (wk m Q n) (At m Q) Q i k b L st h
      | some (_, true, _) => At m Q k b L st h
      | none => False) := hx
    split at hx'
    · rename_i i e
      exact me_ok hm (wk_mk hm e) (fun k' b L st h q => wk_ok hm n k' b L st h q) (fun _ _ _ _ _ q => q) hx'
    · exact hx'
    · exact hx'.elim
theorem go {m : Nat} {Q : ma_Q} (n : Nat) (hm : m < 286) {k : Nat} {b : Nat × Nat} {L : ma_L} {st : List Value} {h : ma_H} (hx : wk1 m Q n k b L st h) : At m Q k b L st h := by
  have hx' : (match (me_cd m)[k]? with
      | some (_, _, i) => me_x m (wk m Q n) (At m Q) Q i k b L st h
      | none => False) := hx
  split at hx'
  · rename_i i e
    exact me_ok hm (wk_mk hm e) (fun k' b L st h q => wk_ok hm n k' b L st h q) (fun _ _ _ _ _ q => q) hx'
  · exact hx'.elim
theorem At_sub {m k : Nat} {Q : ma_Q} {b : Nat × Nat} {L L' : ma_L} {st : List Value} {h : ma_H} (hw : ∀ (i : Nat) (v : Value), L'[i]? = some (some v) → L[i]? = some (some v)) (kk : At m Q k b L' st h) : At m Q k b L st h := mr_weaken hw kk
