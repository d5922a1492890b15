/-! THE ABSTRACT MACHINE's ROWS: constants, locals, arithmetic, branches, returns; by program, a row an instruction of the kit's -/
def ma_kI (z : Int) : Int32 := match z with
  | .ofNat n => nI n
  | .negSucc n => -nI (n + 1)
def ma_kL (z : Int) : Int64 := match z with
  | .ofNat n => lN n
  | .negSucc n => -lN (n + 1)
theorem mr_iconst {m pc : Nat} {b : Nat × Nat} {L : ma_L} {r : List Value} {h : ma_H} {Q : ma_Q} {n : Int} {v : Int32} (d : decode (mt_b m) pc = .ok (.iconst n, 1)) (hv : Int32.ofInt n = v) (k : ma_P m (pc + 1) b L (.int v :: r) h Q) : ma_P m pc b L (r) h Q := by
  intro G p l e R s mi args below meth c H locs cells slots ls Z C HR hz hlo h1 h2 hL hf
  exact lv_iconst C.1 C.2.1 d hv (k G p l e R s mi args below meth c H locs cells slots ls Z C HR hz hlo h1 h2 hL hf)
theorem mr_bipush {m pc : Nat} {b : Nat × Nat} {L : ma_L} {r : List Value} {h : ma_H} {Q : ma_Q} {n : Int} {v : Int32} (d : decode (mt_b m) pc = .ok (.bipush n, 2)) (hv : (Int8.ofInt n).toInt32 = v) (k : ma_P m (pc + 2) b L (.int v :: r) h Q) : ma_P m pc b L (r) h Q := by
  intro G p l e R s mi args below meth c H locs cells slots ls Z C HR hz hlo h1 h2 hL hf
  exact lv_bipush C.1 C.2.1 d hv (k G p l e R s mi args below meth c H locs cells slots ls Z C HR hz hlo h1 h2 hL hf)
theorem mr_sipush {m pc : Nat} {b : Nat × Nat} {L : ma_L} {r : List Value} {h : ma_H} {Q : ma_Q} {n : Int} {v : Int32} (d : decode (mt_b m) pc = .ok (.sipush n, 3)) (hv : (Int16.ofInt n).toInt32 = v) (k : ma_P m (pc + 3) b L (.int v :: r) h Q) : ma_P m pc b L (r) h Q := by
  intro G p l e R s mi args below meth c H locs cells slots ls Z C HR hz hlo h1 h2 hL hf
  exact lv_sipush C.1 C.2.1 d hv (k G p l e R s mi args below meth c H locs cells slots ls Z C HR hz hlo h1 h2 hL hf)
theorem mr_lconst {m pc : Nat} {b : Nat × Nat} {L : ma_L} {r : List Value} {h : ma_H} {Q : ma_Q} {n : Fin 2} {v : Int64} (d : decode (mt_b m) pc = .ok (.lconst n, 1)) (hv : Int64.ofNat (n : Nat) = v) (k : ma_P m (pc + 1) b L (.long v :: r) h Q) : ma_P m pc b L (r) h Q := by
  intro G p l e R s mi args below meth c H locs cells slots ls Z C HR hz hlo h1 h2 hL hf
  exact lv_lconst C.1 C.2.1 d hv (k G p l e R s mi args below meth c H locs cells slots ls Z C HR hz hlo h1 h2 hL hf)
theorem mr_null {m pc : Nat} {b : Nat × Nat} {L : ma_L} {r : List Value} {h : ma_H} {Q : ma_Q}  (d : decode (mt_b m) pc = .ok (.aconst_null, 1)) (k : ma_P m (pc + 1) b L (.null :: r) h Q) : ma_P m pc b L (r) h Q := by
  intro G p l e R s mi args below meth c H locs cells slots ls Z C HR hz hlo h1 h2 hL hf
  exact lv_null C.1 C.2.1 d (k G p l e R s mi args below meth c H locs cells slots ls Z C HR hz hlo h1 h2 hL hf)
theorem mr_ldc {m pc : Nat} {b : Nat × Nat} {L : ma_L} {r : List Value} {h : ma_H} {Q : ma_Q} {i : Nat} {v : Int32} (d : decode (mt_b m) pc = .ok (.ldc i, 2)) (hw : Jvm.Cond.constant (mt_y m).cls i v ∈ lw_ok) (k : ma_P m (pc + 2) b L (.int v :: r) h Q) : ma_P m pc b L (r) h Q := by
  intro G p l e R s mi args below meth c H locs cells slots ls Z C HR hz hlo h1 h2 hL hf
  exact lv_ldc C.1 C.2.1 C.2.2.2.1 (C.2.2.2.2.1 _ hw) d (k G p l e R s mi args below meth c H locs cells slots ls Z C HR hz hlo h1 h2 hL hf)
theorem mr_ldcw {m pc : Nat} {b : Nat × Nat} {L : ma_L} {r : List Value} {h : ma_H} {Q : ma_Q} {i : Nat} {v : Int32} (d : decode (mt_b m) pc = .ok (.ldc_w i, 3)) (hw : Jvm.Cond.constant (mt_y m).cls i v ∈ lw_ok) (k : ma_P m (pc + 3) b L (.int v :: r) h Q) : ma_P m pc b L (r) h Q := by
  intro G p l e R s mi args below meth c H locs cells slots ls Z C HR hz hlo h1 h2 hL hf
  exact lv_ldcw C.1 C.2.1 C.2.2.2.1 (C.2.2.2.2.1 _ hw) d (k G p l e R s mi args below meth c H locs cells slots ls Z C HR hz hlo h1 h2 hL hf)
theorem mr_ldc2 {m pc : Nat} {b : Nat × Nat} {L : ma_L} {r : List Value} {h : ma_H} {Q : ma_Q} {i : Nat} {v : Int64} (d : decode (mt_b m) pc = .ok (.ldc2_w i, 3)) (hw : Jvm.Cond.constantLong (mt_y m).cls i v ∈ lw_ok) (k : ma_P m (pc + 3) b L (.long v :: r) h Q) : ma_P m pc b L (r) h Q := by
  intro G p l e R s mi args below meth c H locs cells slots ls Z C HR hz hlo h1 h2 hL hf
  exact lv_ldc2 C.1 C.2.1 C.2.2.2.1 (C.2.2.2.2.1 _ hw) d (k G p l e R s mi args below meth c H locs cells slots ls Z C HR hz hlo h1 h2 hL hf)
theorem mr_ldcS {m pc : Nat} {b : Nat × Nat} {L : ma_L} {r : List Value} {h : ma_H} {Q : ma_Q} {i q : Nat} (hq : q < 12) (hi : ma_ti.getD q 0 = i) (hy : (mt_y m).cls = "FlakeArms$LawReader") (d : decode (mt_b m) pc = .ok (.ldc i, 2)) (k : ma_P m (pc + 2) b L (.retAddr (2 + q) :: r) h Q) : ma_P m pc b L r h Q := by
  intro G p l e R s mi args below meth c H locs cells slots ls Z C HR hz hlo h1 h2 hL hf
  subst hi
  exact va_ldcS C.1 C.2.1 C.2.2.2.1 (by rw [hy]; exact C.2.2.2.2.2.2.2.2.2.1.2.2.1 q hq) d (k G p l e R s mi args below meth c H locs cells slots ls Z C HR hz hlo h1 h2 hL hf)
theorem mr_iload_n {m pc : Nat} {b : Nat × Nat} {L : ma_L} {r : List Value} {h : ma_H} {Q : ma_Q} {n : Fin 4} {x : Int32} (d : decode (mt_b m) pc = .ok (.iload_n n, 1)) (hv : L[(n : Nat)]? = some (some (.int x))) (k : ma_P m (pc + 1) b L (.int x :: r) h Q) : ma_P m pc b L (r) h Q := by
  intro G p l e R s mi args below meth c H locs cells slots ls Z C HR hz hlo h1 h2 hL hf
  exact lv_iload_n C.1 C.2.1 d rfl (hL.at hv) (k G p l e R s mi args below meth c H locs cells slots ls Z C HR hz hlo h1 h2 hL hf)
theorem mr_iload {m pc : Nat} {b : Nat × Nat} {L : ma_L} {r : List Value} {h : ma_H} {Q : ma_Q} {n : Nat} {x : Int32} (d : decode (mt_b m) pc = .ok (.iload n, 2)) (hv : L[n]? = some (some (.int x))) (k : ma_P m (pc + 2) b L (.int x :: r) h Q) : ma_P m pc b L (r) h Q := by
  intro G p l e R s mi args below meth c H locs cells slots ls Z C HR hz hlo h1 h2 hL hf
  exact lv_iload C.1 C.2.1 d (hL.at hv) (k G p l e R s mi args below meth c H locs cells slots ls Z C HR hz hlo h1 h2 hL hf)
theorem mr_lload_n {m pc : Nat} {b : Nat × Nat} {L : ma_L} {r : List Value} {h : ma_H} {Q : ma_Q} {n : Fin 4} {x : Int64} (d : decode (mt_b m) pc = .ok (.lload_n n, 1)) (hv : L[(n : Nat)]? = some (some (.long x))) (k : ma_P m (pc + 1) b L (.long x :: r) h Q) : ma_P m pc b L (r) h Q := by
  intro G p l e R s mi args below meth c H locs cells slots ls Z C HR hz hlo h1 h2 hL hf
  exact lv_lload_n C.1 C.2.1 d rfl (hL.at hv) (k G p l e R s mi args below meth c H locs cells slots ls Z C HR hz hlo h1 h2 hL hf)
theorem mr_lload {m pc : Nat} {b : Nat × Nat} {L : ma_L} {r : List Value} {h : ma_H} {Q : ma_Q} {n : Nat} {x : Int64} (d : decode (mt_b m) pc = .ok (.lload n, 2)) (hv : L[n]? = some (some (.long x))) (k : ma_P m (pc + 2) b L (.long x :: r) h Q) : ma_P m pc b L (r) h Q := by
  intro G p l e R s mi args below meth c H locs cells slots ls Z C HR hz hlo h1 h2 hL hf
  exact lv_lload C.1 C.2.1 d (hL.at hv) (k G p l e R s mi args below meth c H locs cells slots ls Z C HR hz hlo h1 h2 hL hf)
theorem mr_aload_n {m pc : Nat} {b : Nat × Nat} {L : ma_L} {r : List Value} {h : ma_H} {Q : ma_Q} {n : Fin 4} {v : Value} (d : decode (mt_b m) pc = .ok (.aload_n n, 1)) (hv : L[(n : Nat)]? = some (some v)) (hr : v = .null ∨ (∃ a, v = .ref a) ∨ ∃ a, v = .retAddr a) (k : ma_P m (pc + 1) b L (v :: r) h Q) : ma_P m pc b L (r) h Q := by
  intro G p l e R s mi args below meth c H locs cells slots ls Z C HR hz hlo h1 h2 hL hf
  rcases hr with rfl | ⟨a, rfl⟩ | ⟨a, rfl⟩
  · exact lv_aload_nN C.1 C.2.1 d rfl (hL.at hv) (k G p l e R s mi args below meth c H locs cells slots ls Z C HR hz hlo h1 h2 hL hf)
  · exact lv_aload_n C.1 C.2.1 d rfl (hL.at hv) (k G p l e R s mi args below meth c H locs cells slots ls Z C HR hz hlo h1 h2 hL hf)
  · exact lv_aload_n C.1 C.2.1 d rfl (hL.at hv) (k G p l e R s mi args below meth c H locs cells slots ls Z C HR hz hlo h1 h2 hL hf)
theorem mr_aload {m pc : Nat} {b : Nat × Nat} {L : ma_L} {r : List Value} {h : ma_H} {Q : ma_Q} {n : Nat} {v : Value} (d : decode (mt_b m) pc = .ok (.aload n, 2)) (hv : L[n]? = some (some v)) (hr : v = .null ∨ (∃ a, v = .ref a) ∨ ∃ a, v = .retAddr a) (k : ma_P m (pc + 2) b L (v :: r) h Q) : ma_P m pc b L (r) h Q := by
  intro G p l e R s mi args below meth c H locs cells slots ls Z C HR hz hlo h1 h2 hL hf
  rcases hr with rfl | ⟨a, rfl⟩ | ⟨a, rfl⟩
  · exact lv_aloadN C.1 C.2.1 d (hL.at hv) (k G p l e R s mi args below meth c H locs cells slots ls Z C HR hz hlo h1 h2 hL hf)
  · exact lv_aload C.1 C.2.1 d (hL.at hv) (k G p l e R s mi args below meth c H locs cells slots ls Z C HR hz hlo h1 h2 hL hf)
  · exact lv_aload C.1 C.2.1 d (hL.at hv) (k G p l e R s mi args below meth c H locs cells slots ls Z C HR hz hlo h1 h2 hL hf)
theorem mr_istore_n {m pc : Nat} {b : Nat × Nat} {L : ma_L} {r : List Value} {h : ma_H} {Q : ma_Q} {n : Fin 4} {x : Int32} (d : decode (mt_b m) pc = .ok (.istore_n n, 1)) (hn : (n : Nat) < mt_n m) (hp : (n : Nat) = 0 ∨ ma_nl L[(n : Nat) - 1]?) (k : ma_P m (pc + 1) b (L.set (n : Nat) (some (.int x))) r h Q) : ma_P m pc b L (.int x :: r) h Q := by
  intro G p l e R s mi args below meth c H locs cells slots ls Z C HR hz hlo h1 h2 hL hf
  obtain ⟨ls', e', h'⟩ := hL.set1 (v := .int x) hn rfl hp
  intro T hT X
  obtain ⟨t, a, b⟩ := k G p l e R s mi args below meth c H locs cells slots ls' Z C HR hz hlo h1 h2 h' hf T hT X
  refine ⟨t, ?_, b⟩
  jvm_step X.here [X.here.top, ↓top_set X.here.top, C.1, C.2.1, d, show storeLocals ls (n : Nat) (.int x) = some ls' from e', ma_v]
  exact a
theorem mr_istore {m pc : Nat} {b : Nat × Nat} {L : ma_L} {r : List Value} {h : ma_H} {Q : ma_Q} {n : Nat} {x : Int32} (d : decode (mt_b m) pc = .ok (.istore n, 2)) (hn : n < mt_n m) (hp : n = 0 ∨ ma_nl L[n - 1]?) (k : ma_P m (pc + 2) b (L.set n (some (.int x))) r h Q) : ma_P m pc b L (.int x :: r) h Q := by
  intro G p l e R s mi args below meth c H locs cells slots ls Z C HR hz hlo h1 h2 hL hf
  obtain ⟨ls', e', h'⟩ := hL.set1 (v := .int x) hn rfl hp
  intro T hT X
  obtain ⟨t, a, b⟩ := k G p l e R s mi args below meth c H locs cells slots ls' Z C HR hz hlo h1 h2 h' hf T hT X
  refine ⟨t, ?_, b⟩
  jvm_step X.here [X.here.top, ↓top_set X.here.top, C.1, C.2.1, d, show storeLocals ls n (.int x) = some ls' from e', ma_v]
  exact a
theorem mr_lstore_n {m pc : Nat} {b : Nat × Nat} {L : ma_L} {r : List Value} {h : ma_H} {Q : ma_Q} {n : Fin 4} {x : Int64} (d : decode (mt_b m) pc = .ok (.lstore_n n, 1)) (hn : (n : Nat) + 1 < mt_n m) (hp : (n : Nat) = 0 ∨ ma_nl L[(n : Nat) - 1]?) (k : ma_P m (pc + 1) b ((L.set (n : Nat) (some (.long x))).set ((n : Nat) + 1) none) r h Q) : ma_P m pc b L (.long x :: r) h Q := by
  intro G p l e R s mi args below meth c H locs cells slots ls Z C HR hz hlo h1 h2 hL hf
  obtain ⟨ls', e', h'⟩ := hL.set2 (v := .long x) hn rfl hp
  intro T hT X
  obtain ⟨t, a, b⟩ := k G p l e R s mi args below meth c H locs cells slots ls' Z C HR hz hlo h1 h2 h' hf T hT X
  refine ⟨t, ?_, b⟩
  jvm_step X.here [X.here.top, ↓top_set X.here.top, C.1, C.2.1, d, show storeLocals ls (n : Nat) (.long x) = some ls' from e', ma_v]
  exact a
theorem mr_lstore {m pc : Nat} {b : Nat × Nat} {L : ma_L} {r : List Value} {h : ma_H} {Q : ma_Q} {n : Nat} {x : Int64} (d : decode (mt_b m) pc = .ok (.lstore n, 2)) (hn : n + 1 < mt_n m) (hp : n = 0 ∨ ma_nl L[n - 1]?) (k : ma_P m (pc + 2) b ((L.set n (some (.long x))).set (n + 1) none) r h Q) : ma_P m pc b L (.long x :: r) h Q := by
  intro G p l e R s mi args below meth c H locs cells slots ls Z C HR hz hlo h1 h2 hL hf
  obtain ⟨ls', e', h'⟩ := hL.set2 (v := .long x) hn rfl hp
  intro T hT X
  obtain ⟨t, a, b⟩ := k G p l e R s mi args below meth c H locs cells slots ls' Z C HR hz hlo h1 h2 h' hf T hT X
  refine ⟨t, ?_, b⟩
  jvm_step X.here [X.here.top, ↓top_set X.here.top, C.1, C.2.1, d, show storeLocals ls n (.long x) = some ls' from e', ma_v]
  exact a
theorem mr_astore_n {m pc : Nat} {b : Nat × Nat} {L : ma_L} {r : List Value} {h : ma_H} {Q : ma_Q} {n : Fin 4} {v : Value} (d : decode (mt_b m) pc = .ok (.astore_n n, 1)) (hn : (n : Nat) < mt_n m) (hp : (n : Nat) = 0 ∨ ma_nl L[(n : Nat) - 1]?) (hr : v = .null ∨ (∃ a, v = .ref a) ∨ ∃ a, v = .retAddr a) (k : ma_P m (pc + 1) b (L.set (n : Nat) (some v)) r h Q) : ma_P m pc b L (v :: r) h Q := by
  intro G p l e R s mi args below meth c H locs cells slots ls Z C HR hz hlo h1 h2 hL hf
  have hc : v.category = 1 := by rcases hr with rfl | ⟨a, rfl⟩ | ⟨a, rfl⟩ <;> rfl
  obtain ⟨ls', e', h'⟩ := hL.set1 (v := v) hn hc hp
  intro T hT X
  obtain ⟨t, a, b⟩ := k G p l e R s mi args below meth c H locs cells slots ls' Z C HR hz hlo h1 h2 h' hf T hT X
  refine ⟨t, ?_, b⟩
  rcases hr with rfl | ⟨q, rfl⟩ | ⟨q, rfl⟩
  · jvm_step X.here [X.here.top, ↓top_set X.here.top, C.1, C.2.1, d, show storeLocals ls (n : Nat) .null = some ls' from e', Value.isRef, ma_v]
    exact a
  · jvm_step X.here [X.here.top, ↓top_set X.here.top, C.1, C.2.1, d, show storeLocals ls (n : Nat) (.ref (G.2.2.1 + q)) = some ls' from e', Value.isRef, ma_v]
    exact a
  · jvm_step X.here [X.here.top, ↓top_set X.here.top, C.1, C.2.1, d, show storeLocals ls (n : Nat) (.ref (G.2.2.2.2 q)) = some ls' from e', Value.isRef, ma_v]
    exact a
theorem mr_astore {m pc : Nat} {b : Nat × Nat} {L : ma_L} {r : List Value} {h : ma_H} {Q : ma_Q} {n : Nat} {v : Value} (d : decode (mt_b m) pc = .ok (.astore n, 2)) (hn : n < mt_n m) (hp : n = 0 ∨ ma_nl L[n - 1]?) (hr : v = .null ∨ (∃ a, v = .ref a) ∨ ∃ a, v = .retAddr a) (k : ma_P m (pc + 2) b (L.set n (some v)) r h Q) : ma_P m pc b L (v :: r) h Q := by
  intro G p l e R s mi args below meth c H locs cells slots ls Z C HR hz hlo h1 h2 hL hf
  have hc : v.category = 1 := by rcases hr with rfl | ⟨a, rfl⟩ | ⟨a, rfl⟩ <;> rfl
  obtain ⟨ls', e', h'⟩ := hL.set1 (v := v) hn hc hp
  intro T hT X
  obtain ⟨t, a, b⟩ := k G p l e R s mi args below meth c H locs cells slots ls' Z C HR hz hlo h1 h2 h' hf T hT X
  refine ⟨t, ?_, b⟩
  rcases hr with rfl | ⟨q, rfl⟩ | ⟨q, rfl⟩
  · jvm_step X.here [X.here.top, ↓top_set X.here.top, C.1, C.2.1, d, show storeLocals ls n .null = some ls' from e', Value.isRef, ma_v]
    exact a
  · jvm_step X.here [X.here.top, ↓top_set X.here.top, C.1, C.2.1, d, show storeLocals ls n (.ref (G.2.2.1 + q)) = some ls' from e', Value.isRef, ma_v]
    exact a
  · jvm_step X.here [X.here.top, ↓top_set X.here.top, C.1, C.2.1, d, show storeLocals ls n (.ref (G.2.2.2.2 q)) = some ls' from e', Value.isRef, ma_v]
    exact a
theorem mr_iinc {m pc : Nat} {b : Nat × Nat} {L : ma_L} {r : List Value} {h : ma_H} {Q : ma_Q} {n : Nat} {z : Int} {x v : Int32} (d : decode (mt_b m) pc = .ok (.iinc n z, 3)) (hv : L[n]? = some (some (.int x))) (hn : n < mt_n m) (hp : n = 0 ∨ ma_nl L[n - 1]?) (hz0 : Int32.ofInt z = v) (k : ma_P m (pc + 3) b (L.set n (some (.int (x + v)))) r h Q) : ma_P m pc b L r h Q := by
  intro G p l e R s mi args below meth c H locs cells slots ls Z C HR hz hlo h1 h2 hL hf
  subst hz0
  have hg := hL.at hv
  obtain ⟨ls', e', h'⟩ := hL.set1 (v := .int (x + Int32.ofInt z)) hn rfl hp
  intro T hT X
  obtain ⟨t, a, b⟩ := k G p l e R s mi args below meth c H locs cells slots ls' Z C HR hz hlo h1 h2 h' hf T hT X
  refine ⟨t, ?_, b⟩
  jvm_step X.here [X.here.top, ↓top_set X.here.top, C.1, C.2.1, d, show ls[n]? = some (.val (.int x)) from hg, show storeLocals ls n (.int (x + Int32.ofInt z)) = some ls' from e']
  exact a
theorem mr_iadd {m pc : Nat} {b : Nat × Nat} {L : ma_L} {r : List Value} {h : ma_H} {Q : ma_Q} {x y : Int32} (d : decode (mt_b m) pc = .ok (.iadd, 1)) (k : ma_P m (pc + 1) b L (.int (x + y) :: r) h Q) : ma_P m pc b L (.int y :: .int x :: r) h Q := by
  intro G p l e R s mi args below meth c H locs cells slots ls Z C HR hz hlo h1 h2 hL hf
  exact lv_iadd C.1 C.2.1 d (k G p l e R s mi args below meth c H locs cells slots ls Z C HR hz hlo h1 h2 hL hf)
theorem mr_isub {m pc : Nat} {b : Nat × Nat} {L : ma_L} {r : List Value} {h : ma_H} {Q : ma_Q} {x y : Int32} (d : decode (mt_b m) pc = .ok (.isub, 1)) (k : ma_P m (pc + 1) b L (.int (x - y) :: r) h Q) : ma_P m pc b L (.int y :: .int x :: r) h Q := by
  intro G p l e R s mi args below meth c H locs cells slots ls Z C HR hz hlo h1 h2 hL hf
  exact lv_isub C.1 C.2.1 d (k G p l e R s mi args below meth c H locs cells slots ls Z C HR hz hlo h1 h2 hL hf)
theorem mr_imul {m pc : Nat} {b : Nat × Nat} {L : ma_L} {r : List Value} {h : ma_H} {Q : ma_Q} {x y : Int32} (d : decode (mt_b m) pc = .ok (.imul, 1)) (k : ma_P m (pc + 1) b L (.int (x * y) :: r) h Q) : ma_P m pc b L (.int y :: .int x :: r) h Q := by
  intro G p l e R s mi args below meth c H locs cells slots ls Z C HR hz hlo h1 h2 hL hf
  exact lv_imul C.1 C.2.1 d (k G p l e R s mi args below meth c H locs cells slots ls Z C HR hz hlo h1 h2 hL hf)
theorem mr_iand {m pc : Nat} {b : Nat × Nat} {L : ma_L} {r : List Value} {h : ma_H} {Q : ma_Q} {x y : Int32} (d : decode (mt_b m) pc = .ok (.iand, 1)) (k : ma_P m (pc + 1) b L (.int (x &&& y) :: r) h Q) : ma_P m pc b L (.int y :: .int x :: r) h Q := by
  intro G p l e R s mi args below meth c H locs cells slots ls Z C HR hz hlo h1 h2 hL hf
  exact lv_iand C.1 C.2.1 d (k G p l e R s mi args below meth c H locs cells slots ls Z C HR hz hlo h1 h2 hL hf)
theorem mr_ior {m pc : Nat} {b : Nat × Nat} {L : ma_L} {r : List Value} {h : ma_H} {Q : ma_Q} {x y : Int32} (d : decode (mt_b m) pc = .ok (.ior, 1)) (k : ma_P m (pc + 1) b L (.int (x ||| y) :: r) h Q) : ma_P m pc b L (.int y :: .int x :: r) h Q := by
  intro G p l e R s mi args below meth c H locs cells slots ls Z C HR hz hlo h1 h2 hL hf
  exact lv_ior C.1 C.2.1 d (k G p l e R s mi args below meth c H locs cells slots ls Z C HR hz hlo h1 h2 hL hf)
theorem mr_ixor {m pc : Nat} {b : Nat × Nat} {L : ma_L} {r : List Value} {h : ma_H} {Q : ma_Q} {x y : Int32} (d : decode (mt_b m) pc = .ok (.ixor, 1)) (k : ma_P m (pc + 1) b L (.int (x ^^^ y) :: r) h Q) : ma_P m pc b L (.int y :: .int x :: r) h Q := by
  intro G p l e R s mi args below meth c H locs cells slots ls Z C HR hz hlo h1 h2 hL hf
  exact lv_ixor C.1 C.2.1 d (k G p l e R s mi args below meth c H locs cells slots ls Z C HR hz hlo h1 h2 hL hf)
theorem mr_idiv {m pc : Nat} {b : Nat × Nat} {L : ma_L} {r : List Value} {h : ma_H} {Q : ma_Q} {x y : Int32} (d : decode (mt_b m) pc = .ok (.idiv, 1)) (hne : ¬ y = 0) (k : ma_P m (pc + 1) b L (.int (x / y) :: r) h Q) : ma_P m pc b L (.int y :: .int x :: r) h Q := by
  intro G p l e R s mi args below meth c H locs cells slots ls Z C HR hz hlo h1 h2 hL hf
  exact lv_idiv C.1 C.2.1 d hne (k G p l e R s mi args below meth c H locs cells slots ls Z C HR hz hlo h1 h2 hL hf)
theorem mr_irem {m pc : Nat} {b : Nat × Nat} {L : ma_L} {r : List Value} {h : ma_H} {Q : ma_Q} {x y : Int32} (d : decode (mt_b m) pc = .ok (.irem, 1)) (hne : ¬ y = 0) (k : ma_P m (pc + 1) b L (.int (x - x / y * y) :: r) h Q) : ma_P m pc b L (.int y :: .int x :: r) h Q := by
  intro G p l e R s mi args below meth c H locs cells slots ls Z C HR hz hlo h1 h2 hL hf
  exact lv_irem C.1 C.2.1 d hne (k G p l e R s mi args below meth c H locs cells slots ls Z C HR hz hlo h1 h2 hL hf)
theorem mr_ishl {m pc : Nat} {b : Nat × Nat} {L : ma_L} {r : List Value} {h : ma_H} {Q : ma_Q} {x y : Int32} (d : decode (mt_b m) pc = .ok (.ishl, 1)) (k : ma_P m (pc + 1) b L (.int (x <<< (y &&& 31)) :: r) h Q) : ma_P m pc b L (.int y :: .int x :: r) h Q := by
  intro G p l e R s mi args below meth c H locs cells slots ls Z C HR hz hlo h1 h2 hL hf
  exact lv_ishl C.1 C.2.1 d (k G p l e R s mi args below meth c H locs cells slots ls Z C HR hz hlo h1 h2 hL hf)
theorem mr_ishr {m pc : Nat} {b : Nat × Nat} {L : ma_L} {r : List Value} {h : ma_H} {Q : ma_Q} {x y : Int32} (d : decode (mt_b m) pc = .ok (.ishr, 1)) (k : ma_P m (pc + 1) b L (.int (x >>> (y &&& 31)) :: r) h Q) : ma_P m pc b L (.int y :: .int x :: r) h Q := by
  intro G p l e R s mi args below meth c H locs cells slots ls Z C HR hz hlo h1 h2 hL hf
  exact lv_ishr C.1 C.2.1 d (k G p l e R s mi args below meth c H locs cells slots ls Z C HR hz hlo h1 h2 hL hf)
theorem mr_iushr {m pc : Nat} {b : Nat × Nat} {L : ma_L} {r : List Value} {h : ma_H} {Q : ma_Q} {x y : Int32} (d : decode (mt_b m) pc = .ok (.iushr, 1)) (k : ma_P m (pc + 1) b L (.int ((x.toUInt32 >>> (y.toUInt32 &&& Int32.toUInt32 31)).toInt32) :: r) h Q) : ma_P m pc b L (.int y :: .int x :: r) h Q := by
  intro G p l e R s mi args below meth c H locs cells slots ls Z C HR hz hlo h1 h2 hL hf
  exact lv_iushr C.1 C.2.1 d rfl (k G p l e R s mi args below meth c H locs cells slots ls Z C HR hz hlo h1 h2 hL hf)
theorem mr_ladd {m pc : Nat} {b : Nat × Nat} {L : ma_L} {r : List Value} {h : ma_H} {Q : ma_Q} {x y : Int64} (d : decode (mt_b m) pc = .ok (.ladd, 1)) (k : ma_P m (pc + 1) b L (.long (x + y) :: r) h Q) : ma_P m pc b L (.long y :: .long x :: r) h Q := by
  intro G p l e R s mi args below meth c H locs cells slots ls Z C HR hz hlo h1 h2 hL hf
  exact lv_ladd C.1 C.2.1 d (k G p l e R s mi args below meth c H locs cells slots ls Z C HR hz hlo h1 h2 hL hf)
theorem mr_lsub {m pc : Nat} {b : Nat × Nat} {L : ma_L} {r : List Value} {h : ma_H} {Q : ma_Q} {x y : Int64} (d : decode (mt_b m) pc = .ok (.lsub, 1)) (k : ma_P m (pc + 1) b L (.long (x - y) :: r) h Q) : ma_P m pc b L (.long y :: .long x :: r) h Q := by
  intro G p l e R s mi args below meth c H locs cells slots ls Z C HR hz hlo h1 h2 hL hf
  exact lv_lsub C.1 C.2.1 d (k G p l e R s mi args below meth c H locs cells slots ls Z C HR hz hlo h1 h2 hL hf)
theorem mr_lmul {m pc : Nat} {b : Nat × Nat} {L : ma_L} {r : List Value} {h : ma_H} {Q : ma_Q} {x y : Int64} (d : decode (mt_b m) pc = .ok (.lmul, 1)) (k : ma_P m (pc + 1) b L (.long (x * y) :: r) h Q) : ma_P m pc b L (.long y :: .long x :: r) h Q := by
  intro G p l e R s mi args below meth c H locs cells slots ls Z C HR hz hlo h1 h2 hL hf
  exact lv_lmul C.1 C.2.1 d (k G p l e R s mi args below meth c H locs cells slots ls Z C HR hz hlo h1 h2 hL hf)
theorem mr_land {m pc : Nat} {b : Nat × Nat} {L : ma_L} {r : List Value} {h : ma_H} {Q : ma_Q} {x y : Int64} (d : decode (mt_b m) pc = .ok (.land, 1)) (k : ma_P m (pc + 1) b L (.long (x &&& y) :: r) h Q) : ma_P m pc b L (.long y :: .long x :: r) h Q := by
  intro G p l e R s mi args below meth c H locs cells slots ls Z C HR hz hlo h1 h2 hL hf
  exact lv_land C.1 C.2.1 d (k G p l e R s mi args below meth c H locs cells slots ls Z C HR hz hlo h1 h2 hL hf)
theorem mr_lor {m pc : Nat} {b : Nat × Nat} {L : ma_L} {r : List Value} {h : ma_H} {Q : ma_Q} {x y : Int64} (d : decode (mt_b m) pc = .ok (.lor, 1)) (k : ma_P m (pc + 1) b L (.long (x ||| y) :: r) h Q) : ma_P m pc b L (.long y :: .long x :: r) h Q := by
  intro G p l e R s mi args below meth c H locs cells slots ls Z C HR hz hlo h1 h2 hL hf
  exact lv_lor C.1 C.2.1 d (k G p l e R s mi args below meth c H locs cells slots ls Z C HR hz hlo h1 h2 hL hf)
theorem mr_lxor {m pc : Nat} {b : Nat × Nat} {L : ma_L} {r : List Value} {h : ma_H} {Q : ma_Q} {x y : Int64} (d : decode (mt_b m) pc = .ok (.lxor, 1)) (k : ma_P m (pc + 1) b L (.long (x ^^^ y) :: r) h Q) : ma_P m pc b L (.long y :: .long x :: r) h Q := by
  intro G p l e R s mi args below meth c H locs cells slots ls Z C HR hz hlo h1 h2 hL hf
  exact lv_lxor C.1 C.2.1 d (k G p l e R s mi args below meth c H locs cells slots ls Z C HR hz hlo h1 h2 hL hf)
theorem mr_ldiv {m pc : Nat} {b : Nat × Nat} {L : ma_L} {r : List Value} {h : ma_H} {Q : ma_Q} {x y : Int64} (d : decode (mt_b m) pc = .ok (.ldiv, 1)) (hne : ¬ y = 0) (k : ma_P m (pc + 1) b L (.long (x / y) :: r) h Q) : ma_P m pc b L (.long y :: .long x :: r) h Q := by
  intro G p l e R s mi args below meth c H locs cells slots ls Z C HR hz hlo h1 h2 hL hf
  exact lv_ldiv C.1 C.2.1 d hne (k G p l e R s mi args below meth c H locs cells slots ls Z C HR hz hlo h1 h2 hL hf)
theorem mr_lrem {m pc : Nat} {b : Nat × Nat} {L : ma_L} {r : List Value} {h : ma_H} {Q : ma_Q} {x y : Int64} (d : decode (mt_b m) pc = .ok (.lrem, 1)) (hne : ¬ y = 0) (k : ma_P m (pc + 1) b L (.long (x - x / y * y) :: r) h Q) : ma_P m pc b L (.long y :: .long x :: r) h Q := by
  intro G p l e R s mi args below meth c H locs cells slots ls Z C HR hz hlo h1 h2 hL hf
  exact lv_lrem C.1 C.2.1 d hne (k G p l e R s mi args below meth c H locs cells slots ls Z C HR hz hlo h1 h2 hL hf)
theorem mr_lushr {m pc : Nat} {b : Nat × Nat} {L : ma_L} {r : List Value} {h : ma_H} {Q : ma_Q} {x : Int64} {y : Int32} (d : decode (mt_b m) pc = .ok (.lushr, 1)) (k : ma_P m (pc + 1) b L (.long ((x.toUInt64 >>> (y.toInt64.toUInt64 &&& Int64.toUInt64 63)).toInt64) :: r) h Q) : ma_P m pc b L (.int y :: .long x :: r) h Q := by
  intro G p l e R s mi args below meth c H locs cells slots ls Z C HR hz hlo h1 h2 hL hf
  exact lv_lushr C.1 C.2.1 d rfl (k G p l e R s mi args below meth c H locs cells slots ls Z C HR hz hlo h1 h2 hL hf)
theorem mr_lshl {m pc : Nat} {b : Nat × Nat} {L : ma_L} {r : List Value} {h : ma_H} {Q : ma_Q} {x : Int64} {y : Int32} (d : decode (mt_b m) pc = .ok (.lshl, 1)) (k : ma_P m (pc + 1) b L (.long (x <<< (y.toInt64 &&& 63)) :: r) h Q) : ma_P m pc b L (.int y :: .long x :: r) h Q := by
  intro G p l e R s mi args below meth c H locs cells slots ls Z C HR hz hlo h1 h2 hL hf
  exact lv_lshl C.1 C.2.1 d rfl (k G p l e R s mi args below meth c H locs cells slots ls Z C HR hz hlo h1 h2 hL hf)
theorem mr_lshr {m pc : Nat} {b : Nat × Nat} {L : ma_L} {r : List Value} {h : ma_H} {Q : ma_Q} {x : Int64} {y : Int32} (d : decode (mt_b m) pc = .ok (.lshr, 1)) (k : ma_P m (pc + 1) b L (.long (x >>> (y.toInt64 &&& 63)) :: r) h Q) : ma_P m pc b L (.int y :: .long x :: r) h Q := by
  intro G p l e R s mi args below meth c H locs cells slots ls Z C HR hz hlo h1 h2 hL hf
  exact lv_lshr C.1 C.2.1 d rfl (k G p l e R s mi args below meth c H locs cells slots ls Z C HR hz hlo h1 h2 hL hf)
theorem mr_lcmp {m pc : Nat} {b : Nat × Nat} {L : ma_L} {r : List Value} {h : ma_H} {Q : ma_Q} {x y : Int64} (d : decode (mt_b m) pc = .ok (.lcmp, 1)) (k : ma_P m (pc + 1) b L (.int (lg_cmp x y) :: r) h Q) : ma_P m pc b L (.long y :: .long x :: r) h Q := by
  intro G p l e R s mi args below meth c H locs cells slots ls Z C HR hz hlo h1 h2 hL hf
  exact W.lcmp C.1 C.2.1 d (k G p l e R s mi args below meth c H locs cells slots ls Z C HR hz hlo h1 h2 hL hf)
theorem mr_ineg {m pc : Nat} {b : Nat × Nat} {L : ma_L} {r : List Value} {h : ma_H} {Q : ma_Q} {x : Int32} (d : decode (mt_b m) pc = .ok (.ineg, 1)) (k : ma_P m (pc + 1) b L (.int (-x) :: r) h Q) : ma_P m pc b L (.int x :: r) h Q := by
  intro G p l e R s mi args below meth c H locs cells slots ls Z C HR hz hlo h1 h2 hL hf
  exact lv_ineg C.1 C.2.1 d (k G p l e R s mi args below meth c H locs cells slots ls Z C HR hz hlo h1 h2 hL hf)
theorem mr_i2l {m pc : Nat} {b : Nat × Nat} {L : ma_L} {r : List Value} {h : ma_H} {Q : ma_Q} {x : Int32} (d : decode (mt_b m) pc = .ok (.i2l, 1)) (k : ma_P m (pc + 1) b L (.long (x.toInt64) :: r) h Q) : ma_P m pc b L (.int x :: r) h Q := by
  intro G p l e R s mi args below meth c H locs cells slots ls Z C HR hz hlo h1 h2 hL hf
  exact lv_i2l C.1 C.2.1 d rfl (k G p l e R s mi args below meth c H locs cells slots ls Z C HR hz hlo h1 h2 hL hf)
theorem mr_l2i {m pc : Nat} {b : Nat × Nat} {L : ma_L} {r : List Value} {h : ma_H} {Q : ma_Q} {x : Int64} (d : decode (mt_b m) pc = .ok (.l2i, 1)) (k : ma_P m (pc + 1) b L (.int (x.toInt32) :: r) h Q) : ma_P m pc b L (.long x :: r) h Q := by
  intro G p l e R s mi args below meth c H locs cells slots ls Z C HR hz hlo h1 h2 hL hf
  exact lv_l2i C.1 C.2.1 d rfl (k G p l e R s mi args below meth c H locs cells slots ls Z C HR hz hlo h1 h2 hL hf)
theorem mr_i2b {m pc : Nat} {b : Nat × Nat} {L : ma_L} {r : List Value} {h : ma_H} {Q : ma_Q} {x : Int32} (d : decode (mt_b m) pc = .ok (.i2b, 1)) (k : ma_P m (pc + 1) b L (.int (x.toInt8.toInt32) :: r) h Q) : ma_P m pc b L (.int x :: r) h Q := by
  intro G p l e R s mi args below meth c H locs cells slots ls Z C HR hz hlo h1 h2 hL hf
  exact lv_i2b C.1 C.2.1 d rfl (k G p l e R s mi args below meth c H locs cells slots ls Z C HR hz hlo h1 h2 hL hf)
theorem mr_i2s {m pc : Nat} {b : Nat × Nat} {L : ma_L} {r : List Value} {h : ma_H} {Q : ma_Q} {x : Int32} (d : decode (mt_b m) pc = .ok (.i2s, 1)) (k : ma_P m (pc + 1) b L (.int (x.toInt16.toInt32) :: r) h Q) : ma_P m pc b L (.int x :: r) h Q := by
  intro G p l e R s mi args below meth c H locs cells slots ls Z C HR hz hlo h1 h2 hL hf
  exact lv_i2s C.1 C.2.1 d rfl (k G p l e R s mi args below meth c H locs cells slots ls Z C HR hz hlo h1 h2 hL hf)
theorem mr_dup {m pc : Nat} {b : Nat × Nat} {L : ma_L} {r : List Value} {h : ma_H} {Q : ma_Q} {v : Value} (d : decode (mt_b m) pc = .ok (.dup, 1)) (hv : v.category = 1) (k : ma_P m (pc + 1) b L (v :: v :: r) h Q) : ma_P m pc b L (v :: r) h Q := by
  intro G p l e R s mi args below meth c H locs cells slots ls Z C HR hz hlo h1 h2 hL hf
  exact lv_dup C.1 C.2.1 d ((ma_v_cat G v).trans hv) (k G p l e R s mi args below meth c H locs cells slots ls Z C HR hz hlo h1 h2 hL hf)
theorem mr_pop {m pc : Nat} {b : Nat × Nat} {L : ma_L} {r : List Value} {h : ma_H} {Q : ma_Q} {v : Value} (d : decode (mt_b m) pc = .ok (.pop, 1)) (hv : v.category = 1) (k : ma_P m (pc + 1) b L (r) h Q) : ma_P m pc b L (v :: r) h Q := by
  intro G p l e R s mi args below meth c H locs cells slots ls Z C HR hz hlo h1 h2 hL hf
  exact lv_pop C.1 C.2.1 d ((ma_v_cat G v).trans hv) (k G p l e R s mi args below meth c H locs cells slots ls Z C HR hz hlo h1 h2 hL hf)
theorem mr_dup_x1 {m pc : Nat} {b : Nat × Nat} {L : ma_L} {r : List Value} {h : ma_H} {Q : ma_Q} {v w : Value} (d : decode (mt_b m) pc = .ok (.dup_x1, 1)) (hv : v.category = 1) (hw : w.category = 1) (k : ma_P m (pc + 1) b L (v :: w :: v :: r) h Q) : ma_P m pc b L (v :: w :: r) h Q := by
  intro G p l e R s mi args below meth c H locs cells slots ls Z C HR hz hlo h1 h2 hL hf
  exact lv_dup_x1 C.1 C.2.1 d ((ma_v_cat G v).trans hv) ((ma_v_cat G w).trans hw) (k G p l e R s mi args below meth c H locs cells slots ls Z C HR hz hlo h1 h2 hL hf)
theorem mr_dup2 {m pc : Nat} {b : Nat × Nat} {L : ma_L} {r : List Value} {h : ma_H} {Q : ma_Q} {v w : Value} (d : decode (mt_b m) pc = .ok (.dup2, 1)) (hv : v.category = 1) (hw : w.category = 1) (k : ma_P m (pc + 1) b L (v :: w :: v :: w :: r) h Q) : ma_P m pc b L (v :: w :: r) h Q := by
  intro G p l e R s mi args below meth c H locs cells slots ls Z C HR hz hlo h1 h2 hL hf
  exact lv_dup2_11 C.1 C.2.1 d ((ma_v_cat G v).trans hv) ((ma_v_cat G w).trans hw) (k G p l e R s mi args below meth c H locs cells slots ls Z C HR hz hlo h1 h2 hL hf)
theorem mr_if_eq {m pc : Nat} {b : Nat × Nat} {L : ma_L} {r : List Value} {h : ma_H} {Q : ma_Q} {x : Int32} {off : Int} {tgt : Nat} (d : decode (mt_b m) pc = .ok (.ifCond .eq off, 3)) (ht : (pc : Int) + off = (tgt : Int)) (kt : x = 0 → ma_P m tgt b L r h Q) (kf : ¬ (x = 0) → ma_P m (pc + 3) b L r h Q) : ma_P m pc b L (.int x :: r) h Q := by
  intro G p l e R s mi args below meth c H locs cells slots ls Z C HR hz hlo h1 h2 hL hf
  exact lv_if_eq C.1 C.2.1 d ht (fun q => kt q G p l e R s mi args below meth c H locs cells slots ls Z C HR hz hlo h1 h2 hL hf) (fun q => kf q G p l e R s mi args below meth c H locs cells slots ls Z C HR hz hlo h1 h2 hL hf)
theorem mr_if_lt {m pc : Nat} {b : Nat × Nat} {L : ma_L} {r : List Value} {h : ma_H} {Q : ma_Q} {x : Int32} {off : Int} {tgt : Nat} (d : decode (mt_b m) pc = .ok (.ifCond .lt off, 3)) (ht : (pc : Int) + off = (tgt : Int)) (kt : x < 0 → ma_P m tgt b L r h Q) (kf : ¬ (x < 0) → ma_P m (pc + 3) b L r h Q) : ma_P m pc b L (.int x :: r) h Q := by
  intro G p l e R s mi args below meth c H locs cells slots ls Z C HR hz hlo h1 h2 hL hf
  exact lv_if_lt C.1 C.2.1 d ht (fun q => kt q G p l e R s mi args below meth c H locs cells slots ls Z C HR hz hlo h1 h2 hL hf) (fun q => kf q G p l e R s mi args below meth c H locs cells slots ls Z C HR hz hlo h1 h2 hL hf)
theorem mr_if_ge {m pc : Nat} {b : Nat × Nat} {L : ma_L} {r : List Value} {h : ma_H} {Q : ma_Q} {x : Int32} {off : Int} {tgt : Nat} (d : decode (mt_b m) pc = .ok (.ifCond .ge off, 3)) (ht : (pc : Int) + off = (tgt : Int)) (kt : 0 ≤ x → ma_P m tgt b L r h Q) (kf : ¬ (0 ≤ x) → ma_P m (pc + 3) b L r h Q) : ma_P m pc b L (.int x :: r) h Q := by
  intro G p l e R s mi args below meth c H locs cells slots ls Z C HR hz hlo h1 h2 hL hf
  exact lv_if_ge C.1 C.2.1 d ht (fun q => kt q G p l e R s mi args below meth c H locs cells slots ls Z C HR hz hlo h1 h2 hL hf) (fun q => kf q G p l e R s mi args below meth c H locs cells slots ls Z C HR hz hlo h1 h2 hL hf)
theorem mr_if_gt {m pc : Nat} {b : Nat × Nat} {L : ma_L} {r : List Value} {h : ma_H} {Q : ma_Q} {x : Int32} {off : Int} {tgt : Nat} (d : decode (mt_b m) pc = .ok (.ifCond .gt off, 3)) (ht : (pc : Int) + off = (tgt : Int)) (kt : 0 < x → ma_P m tgt b L r h Q) (kf : ¬ (0 < x) → ma_P m (pc + 3) b L r h Q) : ma_P m pc b L (.int x :: r) h Q := by
  intro G p l e R s mi args below meth c H locs cells slots ls Z C HR hz hlo h1 h2 hL hf
  exact lv_if_gt C.1 C.2.1 d ht (fun q => kt q G p l e R s mi args below meth c H locs cells slots ls Z C HR hz hlo h1 h2 hL hf) (fun q => kf q G p l e R s mi args below meth c H locs cells slots ls Z C HR hz hlo h1 h2 hL hf)
theorem mr_if_le {m pc : Nat} {b : Nat × Nat} {L : ma_L} {r : List Value} {h : ma_H} {Q : ma_Q} {x : Int32} {off : Int} {tgt : Nat} (d : decode (mt_b m) pc = .ok (.ifCond .le off, 3)) (ht : (pc : Int) + off = (tgt : Int)) (kt : x ≤ 0 → ma_P m tgt b L r h Q) (kf : ¬ (x ≤ 0) → ma_P m (pc + 3) b L r h Q) : ma_P m pc b L (.int x :: r) h Q := by
  intro G p l e R s mi args below meth c H locs cells slots ls Z C HR hz hlo h1 h2 hL hf
  exact lv_if_le C.1 C.2.1 d ht (fun q => kt q G p l e R s mi args below meth c H locs cells slots ls Z C HR hz hlo h1 h2 hL hf) (fun q => kf q G p l e R s mi args below meth c H locs cells slots ls Z C HR hz hlo h1 h2 hL hf)
theorem mr_icmp_eq {m pc : Nat} {b : Nat × Nat} {L : ma_L} {r : List Value} {h : ma_H} {Q : ma_Q} {x y : Int32} {off : Int} {tgt : Nat} (d : decode (mt_b m) pc = .ok (.if_icmp .eq off, 3)) (ht : (pc : Int) + off = (tgt : Int)) (kt : x = y → ma_P m tgt b L r h Q) (kf : ¬ (x = y) → ma_P m (pc + 3) b L r h Q) : ma_P m pc b L (.int y :: .int x :: r) h Q := by
  intro G p l e R s mi args below meth c H locs cells slots ls Z C HR hz hlo h1 h2 hL hf
  exact lv_icmp_eq C.1 C.2.1 d ht (fun q => kt q G p l e R s mi args below meth c H locs cells slots ls Z C HR hz hlo h1 h2 hL hf) (fun q => kf q G p l e R s mi args below meth c H locs cells slots ls Z C HR hz hlo h1 h2 hL hf)
theorem mr_icmp_lt {m pc : Nat} {b : Nat × Nat} {L : ma_L} {r : List Value} {h : ma_H} {Q : ma_Q} {x y : Int32} {off : Int} {tgt : Nat} (d : decode (mt_b m) pc = .ok (.if_icmp .lt off, 3)) (ht : (pc : Int) + off = (tgt : Int)) (kt : x < y → ma_P m tgt b L r h Q) (kf : ¬ (x < y) → ma_P m (pc + 3) b L r h Q) : ma_P m pc b L (.int y :: .int x :: r) h Q := by
  intro G p l e R s mi args below meth c H locs cells slots ls Z C HR hz hlo h1 h2 hL hf
  exact lv_icmp_lt C.1 C.2.1 d ht (fun q => kt q G p l e R s mi args below meth c H locs cells slots ls Z C HR hz hlo h1 h2 hL hf) (fun q => kf q G p l e R s mi args below meth c H locs cells slots ls Z C HR hz hlo h1 h2 hL hf)
theorem mr_icmp_ge {m pc : Nat} {b : Nat × Nat} {L : ma_L} {r : List Value} {h : ma_H} {Q : ma_Q} {x y : Int32} {off : Int} {tgt : Nat} (d : decode (mt_b m) pc = .ok (.if_icmp .ge off, 3)) (ht : (pc : Int) + off = (tgt : Int)) (kt : y ≤ x → ma_P m tgt b L r h Q) (kf : ¬ (y ≤ x) → ma_P m (pc + 3) b L r h Q) : ma_P m pc b L (.int y :: .int x :: r) h Q := by
  intro G p l e R s mi args below meth c H locs cells slots ls Z C HR hz hlo h1 h2 hL hf
  exact lv_icmp_ge C.1 C.2.1 d ht (fun q => kt q G p l e R s mi args below meth c H locs cells slots ls Z C HR hz hlo h1 h2 hL hf) (fun q => kf q G p l e R s mi args below meth c H locs cells slots ls Z C HR hz hlo h1 h2 hL hf)
theorem mr_icmp_gt {m pc : Nat} {b : Nat × Nat} {L : ma_L} {r : List Value} {h : ma_H} {Q : ma_Q} {x y : Int32} {off : Int} {tgt : Nat} (d : decode (mt_b m) pc = .ok (.if_icmp .gt off, 3)) (ht : (pc : Int) + off = (tgt : Int)) (kt : y < x → ma_P m tgt b L r h Q) (kf : ¬ (y < x) → ma_P m (pc + 3) b L r h Q) : ma_P m pc b L (.int y :: .int x :: r) h Q := by
  intro G p l e R s mi args below meth c H locs cells slots ls Z C HR hz hlo h1 h2 hL hf
  exact lv_icmp_gt C.1 C.2.1 d ht (fun q => kt q G p l e R s mi args below meth c H locs cells slots ls Z C HR hz hlo h1 h2 hL hf) (fun q => kf q G p l e R s mi args below meth c H locs cells slots ls Z C HR hz hlo h1 h2 hL hf)
theorem mr_icmp_le {m pc : Nat} {b : Nat × Nat} {L : ma_L} {r : List Value} {h : ma_H} {Q : ma_Q} {x y : Int32} {off : Int} {tgt : Nat} (d : decode (mt_b m) pc = .ok (.if_icmp .le off, 3)) (ht : (pc : Int) + off = (tgt : Int)) (kt : x ≤ y → ma_P m tgt b L r h Q) (kf : ¬ (x ≤ y) → ma_P m (pc + 3) b L r h Q) : ma_P m pc b L (.int y :: .int x :: r) h Q := by
  intro G p l e R s mi args below meth c H locs cells slots ls Z C HR hz hlo h1 h2 hL hf
  exact lv_icmp_le C.1 C.2.1 d ht (fun q => kt q G p l e R s mi args below meth c H locs cells slots ls Z C HR hz hlo h1 h2 hL hf) (fun q => kf q G p l e R s mi args below meth c H locs cells slots ls Z C HR hz hlo h1 h2 hL hf)
theorem mr_if_ne {m pc : Nat} {b : Nat × Nat} {L : ma_L} {r : List Value} {h : ma_H} {Q : ma_Q} {x : Int32} {off : Int} {tgt : Nat} (d : decode (mt_b m) pc = .ok (.ifCond .ne off, 3)) (ht : (pc : Int) + off = (tgt : Int)) (kt : ¬ x = 0 → ma_P m tgt b L r h Q) (kf : x = 0 → ma_P m (pc + 3) b L r h Q) : ma_P m pc b L (.int x :: r) h Q := by
  intro G p l e R s mi args below meth c H locs cells slots ls Z C HR hz hlo h1 h2 hL hf
  exact lv_if_ne C.1 C.2.1 d ht (fun q => kt q G p l e R s mi args below meth c H locs cells slots ls Z C HR hz hlo h1 h2 hL hf) (fun q => kf q G p l e R s mi args below meth c H locs cells slots ls Z C HR hz hlo h1 h2 hL hf)
theorem mr_icmp_ne {m pc : Nat} {b : Nat × Nat} {L : ma_L} {r : List Value} {h : ma_H} {Q : ma_Q} {x y : Int32} {off : Int} {tgt : Nat} (d : decode (mt_b m) pc = .ok (.if_icmp .ne off, 3)) (ht : (pc : Int) + off = (tgt : Int)) (kt : ¬ x = y → ma_P m tgt b L r h Q) (kf : x = y → ma_P m (pc + 3) b L r h Q) : ma_P m pc b L (.int y :: .int x :: r) h Q := by
  intro G p l e R s mi args below meth c H locs cells slots ls Z C HR hz hlo h1 h2 hL hf
  exact lv_icmp_ne C.1 C.2.1 d ht (fun q => kt q G p l e R s mi args below meth c H locs cells slots ls Z C HR hz hlo h1 h2 hL hf) (fun q => kf q G p l e R s mi args below meth c H locs cells slots ls Z C HR hz hlo h1 h2 hL hf)
theorem mr_goto {m pc : Nat} {b : Nat × Nat} {L : ma_L} {r : List Value} {h : ma_H} {Q : ma_Q} {off : Int} {tgt : Nat} (d : decode (mt_b m) pc = .ok (.goto off, 3)) (ht : (pc : Int) + off = (tgt : Int)) (k : ma_P m tgt b L r h Q) : ma_P m pc b L r h Q := by
  intro G p l e R s mi args below meth c H locs cells slots ls Z C HR hz hlo h1 h2 hL hf
  exact lv_goto C.1 C.2.1 d ht (k G p l e R s mi args below meth c H locs cells slots ls Z C HR hz hlo h1 h2 hL hf)
theorem mr_ifnullN {m pc : Nat} {b : Nat × Nat} {L : ma_L} {r : List Value} {h : ma_H} {Q : ma_Q} {off : Int} {tgt : Nat} (d : decode (mt_b m) pc = .ok (.ifnull off, 3)) (ht : (pc : Int) + off = (tgt : Int)) (k : ma_P m tgt b L r h Q) : ma_P m pc b L (.null :: r) h Q := by
  intro G p l e R s mi args below meth c H locs cells slots ls Z C HR hz hlo h1 h2 hL hf
  exact lv_ifnullN C.1 C.2.1 d ht (k G p l e R s mi args below meth c H locs cells slots ls Z C HR hz hlo h1 h2 hL hf)
theorem mr_ifnullR {m pc : Nat} {b : Nat × Nat} {L : ma_L} {r : List Value} {h : ma_H} {Q : ma_Q} {off : Int} {tgt a : Nat} (d : decode (mt_b m) pc = .ok (.ifnull off, 3)) (ht : (pc : Int) + off = (tgt : Int)) (k : ma_P m (pc + 3) b L r h Q) : ma_P m pc b L (.ref a :: r) h Q := by
  intro G p l e R s mi args below meth c H locs cells slots ls Z C HR hz hlo h1 h2 hL hf
  exact lv_ifnull C.1 C.2.1 d (k G p l e R s mi args below meth c H locs cells slots ls Z C HR hz hlo h1 h2 hL hf)
theorem mr_ifnonnullN {m pc : Nat} {b : Nat × Nat} {L : ma_L} {r : List Value} {h : ma_H} {Q : ma_Q} {off : Int} {tgt : Nat} (d : decode (mt_b m) pc = .ok (.ifnonnull off, 3)) (ht : (pc : Int) + off = (tgt : Int)) (k : ma_P m (pc + 3) b L r h Q) : ma_P m pc b L (.null :: r) h Q := by
  intro G p l e R s mi args below meth c H locs cells slots ls Z C HR hz hlo h1 h2 hL hf
  exact lv_ifnonnullN C.1 C.2.1 d (k G p l e R s mi args below meth c H locs cells slots ls Z C HR hz hlo h1 h2 hL hf)
theorem mr_ifnonnullR {m pc : Nat} {b : Nat × Nat} {L : ma_L} {r : List Value} {h : ma_H} {Q : ma_Q} {off : Int} {tgt a : Nat} (d : decode (mt_b m) pc = .ok (.ifnonnull off, 3)) (ht : (pc : Int) + off = (tgt : Int)) (k : ma_P m tgt b L r h Q) : ma_P m pc b L (.ref a :: r) h Q := by
  intro G p l e R s mi args below meth c H locs cells slots ls Z C HR hz hlo h1 h2 hL hf
  exact lv_ifnonnull C.1 C.2.1 d ht (k G p l e R s mi args below meth c H locs cells slots ls Z C HR hz hlo h1 h2 hL hf)
theorem mr_tabIn {m pc : Nat} {b : Nat × Nat} {L : ma_L} {r : List Value} {h : ma_H} {Q : ma_Q} {x : Int32} {dflt lo hi : Int} {offs : Array Int} {len : Nat} {off : Int} {tgt : Nat} (d : decode (mt_b m) pc = .ok (.tableswitch dflt lo hi offs, len)) (e1 : ¬ x.toInt < lo) (e2 : ¬ hi < x.toInt) (ho : offs[(x.toInt - lo).toNat]? = some off) (ht : (pc : Int) + off = (tgt : Int)) (k : ma_P m tgt b L r h Q) : ma_P m pc b L (.int x :: r) h Q := by
  intro G p l e R s mi args below meth c H locs cells slots ls Z C HR hz hlo h1 h2 hL hf
  exact lv_tableIn C.1 C.2.1 d e1 e2 ho ht (k G p l e R s mi args below meth c H locs cells slots ls Z C HR hz hlo h1 h2 hL hf)
theorem mr_tabOut {m pc : Nat} {b : Nat × Nat} {L : ma_L} {r : List Value} {h : ma_H} {Q : ma_Q} {x : Int32} {dflt lo hi : Int} {offs : Array Int} {len : Nat} {tgt : Nat} (d : decode (mt_b m) pc = .ok (.tableswitch dflt lo hi offs, len)) (e1 : x.toInt < lo ∨ hi < x.toInt) (ht : (pc : Int) + dflt = (tgt : Int)) (k : ma_P m tgt b L r h Q) : ma_P m pc b L (.int x :: r) h Q := by
  intro G p l e R s mi args below meth c H locs cells slots ls Z C HR hz hlo h1 h2 hL hf
  exact lv_tableOut C.1 C.2.1 d e1 ht (k G p l e R s mi args below meth c H locs cells slots ls Z C HR hz hlo h1 h2 hL hf)
theorem mr_lookup {m pc : Nat} {b : Nat × Nat} {L : ma_L} {r : List Value} {h : ma_H} {Q : ma_Q} {x : Int32} {dflt : Int} {ps : Array (Int × Int)} {len : Nat} {off : Int} {tgt : Nat} (d : decode (mt_b m) pc = .ok (.lookupswitch dflt ps, len)) (hp : (ps.toList.zip (ps.toList.drop 1)).all (fun (a, next) => a.1 < next.1) = true) (ho : Op.lookupswitch.offset ps.toList dflt x.toInt = off) (ht : (pc : Int) + off = (tgt : Int)) (k : ma_P m tgt b L r h Q) : ma_P m pc b L (.int x :: r) h Q := by
  intro G p l e R s mi args below meth c H locs cells slots ls Z C HR hz hlo h1 h2 hL hf
  exact lv_lookup C.1 C.2.1 d hp ho ht (k G p l e R s mi args below meth c H locs cells slots ls Z C HR hz hlo h1 h2 hL hf)
theorem mr_ret {m pc : Nat} {b : Nat × Nat} {L : ma_L} {h : ma_H} {Q : ma_Q} {st : List Value} {v : Option Value} (hr : ma_ret m pc st v) (k : Q v h) : ma_P m pc b L st h Q := by
  intro G p l e R s mi args below meth c H locs cells slots ls Z C HR hz hlo h1 h2 hL hf
  exact hf pc ls st v h H locs cells slots k hr HR hz hlo (Nat.le_add_right _ _) (Nat.le_add_right _ _)
theorem mr_weaken {m pc : Nat} {b : Nat × Nat} {L L' : ma_L} {st : List Value} {h : ma_H} {Q : ma_Q} (hw : ∀ (i : Nat) (v : Value), L'[i]? = some (some v) → L[i]? = some (some v)) (k : ma_P m pc b L' st h Q) : ma_P m pc b L st h Q := by
  intro G p l e R s mi args below meth c H locs cells slots ls Z C HR hz hlo h1 h2 hL hf
  exact k G p l e R s mi args below meth c H locs cells slots ls Z C HR hz hlo h1 h2 (hL.weaken hw) hf
theorem mr_mono {m pc : Nat} {b : Nat × Nat} {L : ma_L} {st : List Value} {h : ma_H} {Q Q' : ma_Q} (hw : ∀ r h', Q' r h' → Q r h') (k : ma_P m pc b L st h Q') : ma_P m pc b L st h Q := by
  intro G p l e R s mi args below meth c H locs cells slots ls Z C HR hz hlo h1 h2 hL hf
  exact k G p l e R s mi args below meth c H locs cells slots ls Z C HR hz hlo h1 h2 hL (fun pc' ls' st' r h' H' locs' cells' slots' q => hf pc' ls' st' r h' H' locs' cells' slots' (hw r h' q))
