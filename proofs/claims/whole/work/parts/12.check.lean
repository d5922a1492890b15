/-! THE CODES ARE THE BYTES' OWN: a check of every instruction, and that what an instruction asks is enough -/
theorem lw_at {p : Nat} {w : Cond} (h : lw_tbl[p]? = some w) (g : goodWord w = true) : w ∈ lw_ok := lw_in (List.mem_of_getElem? h) g
theorem lp_static {m : Nat} (hm : m < 285) (h : lp_st m = true) : Cond.static (mt_y m) ∈ lw_ok := by
  have q := of_decide_eq_true (List.all_eq_true.mp lp_ok m (List.mem_range.mpr hm))
  rw [if_pos h] at q
  exact lw_at q rfl
theorem lp_inst {m : Nat} (hm : m < 285) (h : lp_st m = false) : Cond.instanceMethod (mt_y m) ∈ lw_ok := by
  have q := of_decide_eq_true (List.all_eq_true.mp lp_ok m (List.mem_range.mpr hm))
  rw [if_neg (by rw [h]; decide)] at q
  exact lw_at q rfl
theorem lp_ns {m : Nat} (hm : m < 285) (h : lp_st m = true) : ma_np (mt_y m).desc (me_na m) := by
  have q := List.all_eq_true.mp lp_np m (List.mem_range.mpr hm)
  simp only [Bool.and_eq_true, decide_eq_true_eq] at q
  rw [if_pos h] at q
  exact q.1
theorem lp_ni {m : Nat} (hm : m < 285) (h : lp_st m = false) : ma_np (mt_y m).desc (me_na m - 1) ∧ 1 ≤ me_na m := by
  have q := List.all_eq_true.mp lp_np m (List.mem_range.mpr hm)
  simp only [Bool.and_eq_true, decide_eq_true_eq, Bool.or_eq_true, h, Bool.false_eq_true, false_or] at q
  rw [if_neg (by decide)] at q
  exact q
theorem lm_of {t : List ((Nat × Nat × Nat) × String × Nat × Nat × Nat)} {l : List (Nat × Nat × Nat)} {c : (Nat × Nat × Nat) × String × Nat × Nat × Nat → Bool} (h1 : t.map (fun q => q.1) = l) (h2 : t.all c = true) {x : Nat × Nat × Nat} (h : l.contains x = true) : ∃ z, c (x, z) = true := by
  have hm : x ∈ l := by simpa using h
  rw [← h1] at hm
  obtain ⟨q, hq, e⟩ := List.mem_map.mp hm
  exact ⟨q.2, by rw [← e]; exact List.all_eq_true.mp h2 q hq⟩
/-- the decoded instruction at a place, and where the next one stands -/
def mk_d (m pc nx : Nat) (i : Instr) (len : Nat) : Bool := decide (decode (mt_b m) pc = .ok (i, len)) && decide (nx = pc + len)
def mk_j (m pc nx : Nat) (f : Instr → Nat → Bool) : Bool := match decode (mt_b m) pc with
  | .ok (i, len) => f i len && decide (nx = pc + len)
  | _ => false
theorem mk_d_ok {m pc nx len : Nat} {i : Instr} (h : mk_d m pc nx i len = true) : decode (mt_b m) pc = .ok (i, len) ∧ nx = pc + len := by
  unfold mk_d at h
  simpa using h
theorem mk_j_ok {m pc nx : Nat} {f : Instr → Nat → Bool} (h : mk_j m pc nx f = true) : ∃ i len, decode (mt_b m) pc = .ok (i, len) ∧ f i len = true ∧ nx = pc + len := by
  unfold mk_j at h
  cases e : decode (mt_b m) pc with
  | error _ => rw [e] at h; cases h
  | ok q =>
    obtain ⟨i, len⟩ := q
    rw [e] at h
    simp only [Bool.and_eq_true, decide_eq_true_eq] at h
    exact ⟨i, len, rfl, h⟩
def mk_lev (m x : Nat) : Bool := decide (x < 285) && decide (mt_v x + 1 ≤ mt_v m)
def mk_tgt (m pc : Nat) (off t : Int) : Bool := decide ((pc : Int) + off = (me_pc m t.toNat : Int))
def mk_mem (q : MethodName → Cond) (y : MethodName) : Bool := decide (q y ∈ lw_ok)
theorem mj_max : Cond.static Lib.Math.max.name ∈ lw_ok ∧ Cond.initialized "java/lang/Math" ∈ lw_ok ∧ Cond.code Lib.Math.max.name Lib.Math.max.code 2 (some .int) ∈ lw_ok := by decide +kernel
theorem mj_min : Cond.static Lib.Math.min.name ∈ lw_ok ∧ Cond.code Lib.Math.min.name Lib.Math.min.code 2 (some .int) ∈ lw_ok := by decide +kernel
theorem mj_abs : Cond.static Lib.Math.abs.name ∈ lw_ok ∧ Cond.code Lib.Math.abs.name Lib.Math.abs.code 1 (some .int) ∈ lw_ok := by decide +kernel
theorem mj_cpy : Cond.native arraycopyName ∈ lw_ok ∧ Cond.static arraycopyName ∈ lw_ok ∧ Cond.initialized "java/lang/System" ∈ lw_ok := by decide +kernel
theorem mj_obj : Cond.instanceMethod Lib.objectInit ∈ lw_ok ∧ Cond.code Lib.objectInit ⟨#[0xb1]⟩ 1 none ∈ lw_ok := by decide +kernel
def mk_w (w : Cond) : Bool := decide (w ∈ lw_ok)
def mk (m pc nx : Nat) (i : Instr) : Bool := match i with
  | .iconst z => mk_d m pc nx (.iconst z) 1 && decide (Int32.ofInt z = ma_kI z)
  | .bipush z => mk_d m pc nx (.bipush z) 2 && decide ((Int8.ofInt z).toInt32 = ma_kI z)
  | .sipush z => mk_d m pc nx (.sipush z) 3 && decide ((Int16.ofInt z).toInt32 = ma_kI z)
  | .lconst z => mk_d m pc nx (.lconst z) 1
  | .jsr z => mk_j m pc nx fun j len => match j with | .ldc i => decide (len = 2) && ln_l.contains (me_ow m, i, z) | .ldc_w i => decide (len = 3) && ln_l.contains (me_ow m, i, z) | _ => false
  | .jsr_w z => mk_j m pc nx fun j len => match j with | .ldc2_w i => decide (len = 3) && ll_l.contains (me_ow m, i, z) | _ => false
  | .ldc q => mk_j m pc nx fun j len => match j with | .ldc i => decide (len = 2) && decide (q < 12) && decide (ma_ti.getD q 0 = i) && decide (me_ow m = 5) | _ => false
  | .getstatic j => mk_j m pc nx fun q len => match q with | .getstatic i => decide (len = 3) && ls_l.contains (me_ow m, i, j) | _ => false
  | .aconst_null => mk_d m pc nx (.aconst_null) 1
  | .iadd => mk_d m pc nx (.iadd) 1
  | .isub => mk_d m pc nx (.isub) 1
  | .imul => mk_d m pc nx (.imul) 1
  | .iand => mk_d m pc nx (.iand) 1
  | .ior => mk_d m pc nx (.ior) 1
  | .ixor => mk_d m pc nx (.ixor) 1
  | .ishl => mk_d m pc nx (.ishl) 1
  | .ishr => mk_d m pc nx (.ishr) 1
  | .iushr => mk_d m pc nx (.iushr) 1
  | .idiv => mk_d m pc nx (.idiv) 1
  | .irem => mk_d m pc nx (.irem) 1
  | .ladd => mk_d m pc nx (.ladd) 1
  | .lsub => mk_d m pc nx (.lsub) 1
  | .lmul => mk_d m pc nx (.lmul) 1
  | .land => mk_d m pc nx (.land) 1
  | .lor => mk_d m pc nx (.lor) 1
  | .lxor => mk_d m pc nx (.lxor) 1
  | .ldiv => mk_d m pc nx (.ldiv) 1
  | .lrem => mk_d m pc nx (.lrem) 1
  | .lushr => mk_d m pc nx (.lushr) 1
  | .lshl => mk_d m pc nx (.lshl) 1
  | .lshr => mk_d m pc nx (.lshr) 1
  | .lcmp => mk_d m pc nx (.lcmp) 1
  | .ineg => mk_d m pc nx (.ineg) 1
  | .i2l => mk_d m pc nx (.i2l) 1
  | .l2i => mk_d m pc nx (.l2i) 1
  | .i2b => mk_d m pc nx (.i2b) 1
  | .i2s => mk_d m pc nx (.i2s) 1
  | .dup => mk_d m pc nx (.dup) 1
  | .pop => mk_d m pc nx (.pop) 1
  | .dup_x1 => mk_d m pc nx (.dup_x1) 1
  | .dup2 => mk_d m pc nx (.dup2) 1
  | .iaload => mk_d m pc nx (.iaload) 1
  | .baload => mk_d m pc nx (.baload) 1
  | .laload => mk_d m pc nx (.laload) 1
  | .aaload => mk_d m pc nx (.aaload) 1
  | .iastore => mk_d m pc nx (.iastore) 1
  | .bastore => mk_d m pc nx (.bastore) 1
  | .lastore => mk_d m pc nx (.lastore) 1
  | .aastore => mk_d m pc nx (.aastore) 1
  | .arraylength => mk_d m pc nx (.arraylength) 1
  | .faload => mk_d m pc nx (.baload) 1
  | .fastore => mk_d m pc nx (.bastore) 1
  | .iload n => mk_d m pc nx (.iload n) 2
  | .iload_n n => mk_d m pc nx (.iload_n n) 1
  | .lload n => mk_d m pc nx (.lload n) 2
  | .lload_n n => mk_d m pc nx (.lload_n n) 1
  | .aload n => mk_d m pc nx (.aload n) 2
  | .aload_n n => mk_d m pc nx (.aload_n n) 1
  | .istore n => mk_d m pc nx (.istore n) 2 && decide (n < mt_n m)
  | .istore_n n => mk_d m pc nx (.istore_n n) 1 && decide (n.val < mt_n m)
  | .lstore n => mk_d m pc nx (.lstore n) 2 && decide (n + 1 < mt_n m)
  | .lstore_n n => mk_d m pc nx (.lstore_n n) 1 && decide (n.val + 1 < mt_n m)
  | .astore n => mk_d m pc nx (.astore n) 2 && decide (n < mt_n m)
  | .astore_n n => mk_d m pc nx (.astore_n n) 1 && decide (n.val < mt_n m)
  | .iinc n z => mk_d m pc nx (.iinc n z) 3 && decide (n < mt_n m) && decide (Int32.ofInt z = ma_kI z)
  | .ifCond c t => mk_j m pc nx fun j len => match j with | .ifCond c2 off => decide (c2 = c) && decide (len = 3) && mk_tgt m pc off t | _ => false
  | .if_icmp c t => mk_j m pc nx fun j len => match j with | .if_icmp c2 off => decide (c2 = c) && decide (len = 3) && mk_tgt m pc off t | _ => false
  | .goto t => match decode (mt_b m) pc with | .ok (.goto off, len) => decide (len = 3) && mk_tgt m pc off t | _ => false
  | .ifnull t => mk_j m pc nx fun j len => match j with | .ifnull off => decide (len = 3) && mk_tgt m pc off t | _ => false
  | .ifnonnull t => mk_j m pc nx fun j len => match j with | .ifnonnull off => decide (len = 3) && mk_tgt m pc off t | _ => false
  | .tableswitch t lo hi ts => match decode (mt_b m) pc with | .ok (.tableswitch t2 lo2 hi2 ts2, _) => decide (lo2 = lo) && decide (hi2 = hi) && mk_tgt m pc t2 t && decide (ts2.toList.length = ts.toList.length) && decide ((ts2.toList.length : Int) = hi - lo + 1) && (ts2.toList.zip ts.toList).all (fun q => mk_tgt m pc q.1 q.2) | _ => false
  | .lookupswitch t ps => match decode (mt_b m) pc with | .ok (.lookupswitch t2 ps2, _) => mk_tgt m pc t2 t && decide (ps2.toList.map (fun q => q.1) = ps.toList.map (fun q => q.1)) && (ps2.toList.zip (ps2.toList.drop 1)).all (fun (a, next) => a.1 < next.1) && (ps2.toList.zip ps.toList).all (fun q => mk_tgt m pc q.1.2 q.2.2) | _ => false
  | .multianewarray base n => mk_j m pc nx fun j len => match j with | .getfield i => decide (len = 3) && lf_l.contains (me_ow m, i, base, n) | _ => false
  | .invokeinterface base n => mk_j m pc nx fun j len => match j with | .putfield i => decide (len = 3) && lf_l.contains (me_ow m, i, base, n) && lf_ci.all (fun ci => !(me_un base ci) || decide ((ct_T ci n).2.2.2 = false) || (decide ((mt_y m).name = "<init>") && decide ((ct_T ci n).1 = (mt_y m).cls))) | _ => false
  | .new c => mk_j m pc nx fun j len => match j with | .new i => decide (len = 3) && decide (c < 13) && mk_w (.classLink (mt_y m).cls i (ct_R c)) && mk_w (.instantiable (ct_R c) (ct_N c)) && mk_w (.initialized (ct_R c)) | _ => false
  | .newarray .int => mk_d m pc nx (.newarray .int) 2 && mk_w (.arrayClass .int)
  | .newarray .long => mk_d m pc nx (.newarray .long) 2 && mk_w (.arrayClass .long)
  | .newarray .byte => mk_d m pc nx (.newarray .byte) 2 && mk_w (.arrayClass .byte)
  | .newarray .boolean => mk_d m pc nx (.newarray .boolean) 2 && mk_w (.arrayClass .boolean)
  | .anewarray c => mk_j m pc nx fun j len => match j with | .anewarray i => decide (len = 3) && mk_w (.classLink (mt_y m).cls i (ct_R c)) && (decide (c = 2) || decide (c = 3)) | _ => false
  | .ret _ => mk_j m pc nx fun j len => match j with | .multianewarray i 2 => decide (len = 4) && mk_w (.classLink (mt_y m).cls i "[[I") && mk_w (.arrayClass .int) | _ => false
  | .instanceof t => mk_j m pc nx fun j len => match j with | .instanceof i => decide (len = 3) && ma_gk t && mk_w (.classLink (mt_y m).cls i (ct_R t)) | _ => false
  | .invokestatic x => mk_j m pc nx fun j len => match j with | .invokestatic i => decide (len = 3) && mk_lev m x && (lm0.contains (me_ow m, i, x) || lm1.contains (me_ow m, i, x)) | _ => false
  | .invokespecial x => mk_j m pc nx fun j len => match j with | .invokespecial i => decide (len = 3) && mk_lev m x && lm2.contains (me_ow m, i, x) | _ => false
  | .invokedynamic x => mk_j m pc nx fun j len => match j with | .invokespecial i => decide (len = 3) && mk_lev m x && (lm3.contains (me_ow m, i, x) || lm4.contains (me_ow m, i, x)) | _ => false
  | .invokevirtual x => mk_j m pc nx fun j len => match j with | .invokevirtual i => decide (len = 3) && mk_lev m x && lm5.contains (me_ow m, i, x) | _ => false
  | .putstatic x => mk_j m pc nx fun j len => match j with | .invokevirtual i => decide (len = 3) && lm6.contains (me_ow m, i, x) && me_vl.all (fun q => !(q.1 == x) || mk_lev m q.2.2) | _ => false
  | .ldc2_w x => mk_j m pc nx fun j len => decide (2 ≤ mt_v m) && match j with | .invokestatic i => decide (len = 3) && decide (x < 5) && lm7.contains (me_ow m, i, x) | .invokespecial i => decide (len = 3) && decide (x = 5) && lm7.contains (me_ow m, i, x) | .invokevirtual i => decide (len = 3) && (decide (x = 6) || decide (x = 7)) && decide (10 ≤ mt_v m) && lm7.contains (me_ow m, i, x) | _ => false
  | .ireturn => decide (decode (mt_b m) pc = .ok (.ireturn, 1))
  | .lreturn => decide (decode (mt_b m) pc = .ok (.lreturn, 1)) && decide (mt_r m = some .long)
  | .areturn => decide (decode (mt_b m) pc = .ok (.areturn, 1)) && (match mt_r m with | some (.object _) => true | some (.array _) => true | _ => false)
  | .return_ => decide (decode (mt_b m) pc = .ok (.return_, 1)) && decide (mt_r m = none)
  | _ => true
def mk_hd (l : List (Nat × Bool × Instr)) : Nat := match l with
  | [] => 0
  | q :: _ => q.1
def mk_l (m : Nat) : Nat → List (Nat × Bool × Instr) → Bool
  | 0, _ => true
  | _ + 1, [] => true
  | n + 1, q :: r => mk m q.1 (mk_hd r) q.2.2 && mk_l m n r
theorem mk_l_at {m : Nat} : ∀ (n : Nat) (l : List (Nat × Bool × Instr)), mk_l m n l = true → ∀ (k : Nat) (q : Nat × Bool × Instr), k < n → l[k]? = some q → mk m q.1 (mk_hd (l.drop (k + 1))) q.2.2 = true
  | 0, _, _, _, _, h, _ => absurd h (Nat.not_lt_zero _)
  | _ + 1, [], _, _, _, _, h => by cases h
  | n + 1, q :: r, h, k, q', hk, hq => by
    have h' : (mk m q.1 (mk_hd r) q.2.2 && mk_l m n r) = true := h
    simp only [Bool.and_eq_true] at h'
    cases k with
    | zero =>
      rw [List.getElem?_cons_zero] at hq
      cases hq
      exact h'.1
    | succ k =>
      rw [List.getElem?_cons_succ] at hq
      exact mk_l_at n r h'.2 k q' (by omega) hq
