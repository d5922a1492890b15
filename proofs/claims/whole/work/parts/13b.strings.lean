/-! length() and charAt() of the texts, by the JDK's own code-/
theorem mr_sval {m pc : Nat} {b : Nat × Nat} {L : ma_L} {r : List Value} {h : ma_H} {Q : ma_Q} {i q : Nat} (hq : q < 12) (hw : Cond.fieldLink (mt_y m).cls i "java/lang/String" "value" "[B" ∈ lw_ok) (d : decode (mt_b m) pc = .ok (.getfield i, 3)) (k : ma_P m (pc + 3) b L (.retAddr (20 + q) :: r) h Q) : ma_P m pc b L (.retAddr (2 + q) :: r) h Q := by
  intro G p l e R s mi args below meth c H locs cells slots ls Z C HR hz hlo h1 h2 hL hf
  exact vk_getf C.1 C.2.1 ((C.2.2.2.2.2.2.2.2.2.1.2.1.1 q hq).2.2.1.kept (ma_old C)) (ma_vaS C HR hz hlo) C.2.2.2.1 (C.2.2.2.2.1 _ hw) (fun _ q => q) d (k G p l e R s mi args below meth c H locs cells slots ls Z C HR hz hlo h1 h2 hL hf)
theorem mr_scod {m pc : Nat} {b : Nat × Nat} {L : ma_L} {r : List Value} {h : ma_H} {Q : ma_Q} {i q : Nat} (hq : q < 12) (hw : Cond.fieldLink (mt_y m).cls i "java/lang/String" "coder" "B" ∈ lw_ok) (d : decode (mt_b m) pc = .ok (.getfield i, 3)) (k : ma_P m (pc + 3) b L (.int 0 :: r) h Q) : ma_P m pc b L (.retAddr (2 + q) :: r) h Q := by
  intro G p l e R s mi args below meth c H locs cells slots ls Z C HR hz hlo h1 h2 hL hf
  exact vk_getf C.1 C.2.1 ((C.2.2.2.2.2.2.2.2.2.1.2.1.1 q hq).2.1.kept (ma_old C)) (ma_vaS C HR hz hlo) C.2.2.2.1 (C.2.2.2.2.1 _ hw) (fun _ q => q) d (k G p l e R s mi args below meth c H locs cells slots ls Z C HR hz hlo h1 h2 hL hf)
theorem mr_stal {m pc : Nat} {b : Nat × Nat} {L : ma_L} {r : List Value} {h : ma_H} {Q : ma_Q} {q : Nat} (hq : q < 12) (d : decode (mt_b m) pc = .ok (.arraylength, 1)) (k : ma_P m (pc + 1) b L (.int (nI (ma_tl.getD q 0)) :: r) h Q) : ma_P m pc b L (.retAddr (20 + q) :: r) h Q := by
  intro G p l e R s mi args below meth c H locs cells slots ls Z C HR hz hlo h1 h2 hL hf
  exact va_tlen C.1 C.2.1 ((C.2.2.2.2.2.2.2.2.2.1.2.1.1 q hq).2.2.2.kept (ma_old C)) (ma_vaS C HR hz hlo) rfl d (k G p l e R s mi args below meth c H locs cells slots ls Z C HR hz hlo h1 h2 hL hf)
theorem mr_stab {m pc : Nat} {b : Nat × Nat} {L : ma_L} {r : List Value} {h : ma_H} {Q : ma_Q} {q : Nat} {i : Int32} (hq : q < 12) (hi : vp_in i (ma_tl.getD q 0)) (d : decode (mt_b m) pc = .ok (.baload, 1)) (k : ma_P m (pc + 1) b L (.int ((ma_tb.getD q []).getD i.toNatClampNeg 0) :: r) h Q) : ma_P m pc b L (.int i :: .retAddr (20 + q) :: r) h Q := by
  intro G p l e R s mi args below meth c H locs cells slots ls Z C HR hz hlo h1 h2 hL hf
  exact va_tb C.1 C.2.1 ((C.2.2.2.2.2.2.2.2.2.1.2.1.1 q hq).2.2.2.kept (ma_old C)) (ma_vaS C HR hz hlo) hi rfl d (k G p l e R s mi args below meth c H locs cells slots ls Z C HR hz hlo h1 h2 hL hf)
theorem mr_gcs {m pc : Nat} {b : Nat × Nat} {L : ma_L} {r : List Value} {h : ma_H} {Q : ma_Q} {i : Nat} (hw : Cond.fieldLink (mt_y m).cls i "java/lang/String" "COMPACT_STRINGS" "Z" ∈ lw_ok) (d : decode (mt_b m) pc = .ok (.getstatic i, 3)) (k : ma_P m (pc + 3) b L (.int 1 :: r) h Q) : ma_P m pc b L r h Q := by
  intro G p l e R s mi args below meth c H locs cells slots ls Z C HR hz hlo h1 h2 hL hf
  exact va_gets C.1 C.2.1 (C.2.2.2.2.2.2.2.2.2.1.2.2.2.1.kept (ma_old C)) (ma_vaS C HR hz hlo) C.2.2.2.1 (C.2.2.2.2.1 _ hw) (fun _ q => q) d (k G p l e R s mi args below meth c H locs cells slots ls Z C HR hz hlo h1 h2 hL hf)
theorem mr_gfm {m pc : Nat} {b : Nat × Nat} {L : ma_L} {r : List Value} {h : ma_H} {Q : ma_Q} {i : Nat} (hw : Cond.fieldLink (mt_y m).cls i "jdk/internal/util/Preconditions" "SIOOBE_FORMATTER" "Ljava/util/function/BiFunction;" ∈ lw_ok) (d : decode (mt_b m) pc = .ok (.getstatic i, 3)) (k : ∀ v : Value, v = .null ∨ v = .retAddr 60 → ma_P m (pc + 3) b L (v :: r) h Q) : ma_P m pc b L r h Q := by
  intro G p l e R s mi args below meth c H locs cells slots ls Z C HR hz hlo h1 h2 hL hf
  rcases C.2.2.2.2.2.2.2.2.2.1.2.2.2.2.1 with hz0 | hz0
  · exact va_gets C.1 C.2.1 (hz0.kept (ma_old C)) (ma_vaS C HR hz hlo) C.2.2.2.1 (C.2.2.2.2.1 _ hw) (fun _ q => q) d (k .null (Or.inl rfl) G p l e R s mi args below meth c H locs cells slots ls Z C HR hz hlo h1 h2 hL hf)
  · exact va_gets C.1 C.2.1 (hz0.kept (ma_old C)) (ma_vaS C HR hz hlo) C.2.2.2.1 (C.2.2.2.2.1 _ hw) (fun _ q => q) d (k (.retAddr 60) (Or.inr rfl) G p l e R s mi args below meth c H locs cells slots ls Z C HR hz hlo h1 h2 hL hf)
theorem mr_i2c {m pc : Nat} {b : Nat × Nat} {L : ma_L} {r : List Value} {h : ma_H} {Q : ma_Q} {x : Int32} (d : decode (mt_b m) pc = .ok (.i2c, 1)) (k : ma_P m (pc + 1) b L (.int ((x.toUInt32 % 65536).toInt32) :: r) h Q) : ma_P m pc b L (.int x :: r) h Q := by
  intro G p l e R s mi args below meth c H locs cells slots ls Z C HR hz hlo h1 h2 hL hf
  exact lv_i2c C.1 C.2.1 d rfl (k G p l e R s mi args below meth c H locs cells slots ls Z C HR hz hlo h1 h2 hL hf)
theorem mr_virtualS {m m' pc i q : Nat} {b b' : Nat × Nat} {L : ma_L} {r as : List Value} {h : ma_H} {Q : ma_Q} (hm : mt_in m') (hv : mt_v m' + 1 ≤ mt_v m) (hn : ma_np (mt_y m').desc as.length) (hcs : (r.map fun v => v.category).sum ≤ 8) (hb : b'.1 + (mt_c m').1 = b.1 ∧ b'.2 + (mt_c m').2 = b.2) (hq : q < 12) (hw : Cond.methodLink (mt_y m).cls i (mt_y m') ∈ lw_ok) (hw2 : Cond.instanceMethod (mt_y m') ∈ lw_ok) (hw3 : Cond.selects "java/lang/String" (mt_y m') (mt_y m') ∈ lw_ok) (d : decode (mt_b m) pc = .ok (.invokevirtual i, 3)) (k : ma_X m' (.retAddr (2 + q) :: as) h (fun v h' => ma_P m (pc + 3) b' L (v.toList ++ r) h' Q)) : ma_P m pc b L (as.reverse ++ .retAddr (2 + q) :: r) h Q := by
  intro G p l e R s mi args below meth c H locs cells slots ls Z C HR hz hlo h1 h2 hL hf
  have hp : PreV s H "java/lang/String" (G.2.2.2.2 (2 + q)) (ma_pre G (.retAddr (2 + q) :: as) h) (as.map (ma_v G)) :=
    ⟨ma_pre_blind G _ h, vk_recv (i := q) (adK := fun i => G.2.2.2.2 (2 + i)) (C.2.2.2.2.2.2.2.2.2.1.2.1.kept (ma_old C)) hq (ma_vaS C HR hz hlo), fun U hU hW => ⟨rfl, by rw [hU]; exact HR, va_K.moved hW.alike C.2.2.2.2.2.2.2.2.1, ma_S.moved hW C.2.2.2.2.2.2.2.2.2.1⟩⟩
  exact ma_back C hz hlo h1 h2 hL hb (va_runV (As := as.map (ma_v G)) (rest := r.map (ma_v G)) ⟨C.1, C.2.1, C.2.2.1, C.2.2.2.1, C.2.2.2.2.1⟩ (k G l) ⟨ma_callB C hm hv hn hw, C.2.2.2.2.1 _ hw2, C.2.2.2.2.1 _ hw3⟩ hp rfl (by rw [List.length_map]) hL.1 (ma_stk G as (.retAddr (2 + q) :: r)) (lv_room (by rw [ma_cats]; exact hcs)) d ⟨by omega, by omega⟩) hf
theorem jn_286 : ma_np (mt_y 286).desc 0 := by
  unfold ma_np
  decide +kernel
theorem jn_287 : ma_np (mt_y 287).desc 0 := by
  unfold ma_np
  decide +kernel
theorem jn_288 : ma_np (mt_y 288).desc 1 := by
  unfold ma_np
  decide +kernel
theorem jn_289 : ma_np (mt_y 289).desc 0 := by
  unfold ma_np
  decide +kernel
theorem jn_290 : ma_np (mt_y 290).desc 2 := by
  unfold ma_np
  decide +kernel
theorem jn_291 : ma_np (mt_y 291).desc 2 := by
  unfold ma_np
  decide +kernel
theorem jn_292 : ma_np (mt_y 292).desc 3 := by
  unfold ma_np
  decide +kernel
set_option maxRecDepth 100000 in
theorem lw_J : ∀ w ∈ [Cond.fieldLink "java/lang/String" 9 "java/lang/String" "value" "[B", Cond.fieldLink "java/lang/String" 15 "java/lang/String" "coder" "B", Cond.fieldLink "java/lang/String" 38 "java/lang/String" "COMPACT_STRINGS" "Z", Cond.fieldLink "java/lang/String" 1053 "jdk/internal/util/Preconditions" "SIOOBE_FORMATTER" "Ljava/util/function/BiFunction;"], w ∈ lw_ok := by
  intro w hw
  have e : ([1845,1846,395,411].map (fun p => lw_tbl[p]?)) = [some (Cond.fieldLink "java/lang/String" 9 "java/lang/String" "value" "[B"), some (Cond.fieldLink "java/lang/String" 15 "java/lang/String" "coder" "B"), some (Cond.fieldLink "java/lang/String" 38 "java/lang/String" "COMPACT_STRINGS" "Z"), some (Cond.fieldLink "java/lang/String" 1053 "jdk/internal/util/Preconditions" "SIOOBE_FORMATTER" "Ljava/util/function/BiFunction;")] := by rfl
  have hw' : some w ∈ ([1845,1846,395,411].map (fun p => lw_tbl[p]?)) := by
    rw [e]
    simpa using hw
  obtain ⟨p, -, hp⟩ := List.mem_map.mp hw'
  refine lw_in (List.mem_of_getElem? hp) ?_
  simp only [List.mem_cons, List.not_mem_nil, or_false] at hw
  rcases hw with rfl | rfl | rfl | rfl <;> rfl
def jw_l : List Cond := [Cond.methodLink "java/lang/String" 335 (mt_y 287), Cond.methodLink "java/lang/String" 492 (mt_y 289), Cond.methodLink "java/lang/String" 495 (mt_y 290), Cond.methodLink "java/lang/StringLatin1" 9 (mt_y 291), Cond.methodLink "java/lang/String" 1059 (mt_y 292), Cond.instanceMethod (mt_y 286), Cond.instanceMethod (mt_y 287), Cond.instanceMethod (mt_y 288), Cond.instanceMethod (mt_y 289), Cond.selects "java/lang/String" (mt_y 286) (mt_y 286), Cond.selects "java/lang/String" (mt_y 287) (mt_y 287), Cond.selects "java/lang/String" (mt_y 288) (mt_y 288), Cond.selects "java/lang/String" (mt_y 289) (mt_y 289), Cond.static (mt_y 290), Cond.static (mt_y 291), Cond.static (mt_y 292)]
set_option maxRecDepth 100000 in
theorem jw_e : [391, 401, 405, 408, 413, 388, 392, 398, 402, 389, 393, 399, 403, 406, 409, 414].map (fun p => lw_tbl[p]?) = jw_l.map some := by rfl
theorem jw_g : jw_l.all goodWord = true := by decide +kernel
theorem jw {w : Cond} (hw : w ∈ jw_l) : w ∈ lw_ok := by
  have hw' : some w ∈ jw_l.map some := List.mem_map.mpr ⟨w, hw, rfl⟩
  rw [← jw_e] at hw'
  obtain ⟨p, -, hp⟩ := List.mem_map.mp hw'
  exact lw_in (List.mem_of_getElem? hp) (List.all_eq_true.mp jw_g w hw)
theorem sx_prec_null {h : ma_H} {Q : ma_Q} {x n : Int32} (h0 : ¬ x < 0) (h1 : x < n) (k : Q (some (.int x)) h) : ma_X 292 [.int x, .int n, .null] h Q := by
  refine ma_enter (Or.inr ⟨by decide, by decide⟩) (by show 3 ≤ mt_n 292; decide +kernel) ?_
  show ma_P 292 0 (mt_c 292) [some (.int x), some (.int n), some (.null)] [] h Q
  refine mr_iload_n (n := 0) (by decide +kernel) rfl ?_
  refine mr_if_lt (tgt := 9) (off := 8) (by decide +kernel) rfl (fun q => absurd q h0) fun _ => ?_
  refine mr_iload_n (n := 0) (by decide +kernel) rfl ?_
  refine mr_iload_n (n := 1) (by decide +kernel) rfl ?_
  refine mr_icmp_lt (tgt := 16) (off := 10) (by decide +kernel) rfl (fun _ => ?_) fun q => absurd h1 q
  refine mr_iload_n (n := 0) (by decide +kernel) rfl ?_
  exact mr_ret (v := some (.int _)) ⟨by decide +kernel, rfl, _, rfl, rfl⟩ k
theorem sx_prec_fmt {h : ma_H} {Q : ma_Q} {x n : Int32} (h0 : ¬ x < 0) (h1 : x < n) (k : Q (some (.int x)) h) : ma_X 292 [.int x, .int n, .retAddr 60] h Q := by
  refine ma_enter (Or.inr ⟨by decide, by decide⟩) (by show 3 ≤ mt_n 292; decide +kernel) ?_
  show ma_P 292 0 (mt_c 292) [some (.int x), some (.int n), some (.retAddr 60)] [] h Q
  refine mr_iload_n (n := 0) (by decide +kernel) rfl ?_
  refine mr_if_lt (tgt := 9) (off := 8) (by decide +kernel) rfl (fun q => absurd q h0) fun _ => ?_
  refine mr_iload_n (n := 0) (by decide +kernel) rfl ?_
  refine mr_iload_n (n := 1) (by decide +kernel) rfl ?_
  refine mr_icmp_lt (tgt := 16) (off := 10) (by decide +kernel) rfl (fun _ => ?_) fun q => absurd h1 q
  refine mr_iload_n (n := 0) (by decide +kernel) rfl ?_
  exact mr_ret (v := some (.int _)) ⟨by decide +kernel, rfl, _, rfl, rfl⟩ k
theorem sx_chk {h : ma_H} {Q : ma_Q} {x n : Int32} (h0 : ¬ x < 0) (h1 : x < n) (k : Q none h) : ma_X 291 [.int x, .int n] h Q := by
  refine ma_enter (Or.inr ⟨by decide, by decide⟩) (by show 2 ≤ mt_n 291; decide +kernel) ?_
  show ma_P 291 0 (mt_c 291) [some (.int x), some (.int n)] [] h Q
  refine mr_iload_n (n := 0) (by decide +kernel) rfl ?_
  refine mr_iload_n (n := 1) (by decide +kernel) rfl ?_
  refine mr_gfm (i := 1053) (lw_J _ (List.mem_of_getElem? (i := 3) rfl)) (by decide +kernel) fun v hv => ?_
  refine mr_static (m' := 292) (i := 1059) (as := [.int x, .int n, v]) (b' := (0, 0)) (Or.inr ⟨by decide, by decide⟩) (by decide) jn_292 (Nat.le_of_ble_eq_true rfl) ⟨rfl, rfl⟩ (jw (List.mem_of_getElem? (i := 4) rfl)) (jw (List.mem_of_getElem? (i := 15) rfl)) (by decide +kernel) ?_
  have k2 : ma_P 291 8 (0, 0) [some (.int x), some (.int n)] [.int x] h Q := mr_pop (v := .int x) (by decide +kernel) rfl (mr_ret (v := none) ⟨by decide +kernel, rfl, rfl⟩ k)
  rcases hv with rfl | rfl
  · exact sx_prec_null h0 h1 k2
  · exact sx_prec_fmt h0 h1 k2
theorem sx_sh {q : Nat} (hq : q < 12) : nI (ma_tl.getD q 0) >>> ((0 : Int32) &&& 31) = nI (ma_tl.getD q 0) := by
  have : ∀ q, q < 12 → nI (ma_tl.getD q 0) >>> ((0 : Int32) &&& 31) = nI (ma_tl.getD q 0) := by decide +kernel
  exact this q hq
theorem sx_t : ∀ q, q < 12 → ∀ i, i < 6 → (((((ma_tb.getD q []).getD i 0) &&& (Int16.ofInt 255).toInt32).toUInt32 % 65536).toInt32 = (ma_tb.getD q []).getD i 0 ∧ narrow .char (.int ((ma_tb.getD q []).getD i 0)) = .int ((ma_tb.getD q []).getD i 0)) := by decide +kernel
theorem sx_tl : ∀ q, q < 12 → ma_tl.getD q 0 ≤ 6 := by decide +kernel
theorem sx_in {q : Nat} {x : Int32} (hq : q < 12) (hi : vp_in x (ma_tl.getD q 0)) : ¬ x < 0 ∧ x < nI (ma_tl.getD q 0) ∧ (((((ma_tb.getD q []).getD x.toNatClampNeg 0) &&& (Int16.ofInt 255).toInt32).toUInt32 % 65536).toInt32 = (ma_tb.getD q []).getD x.toNatClampNeg 0 ∧ narrow .char (.int ((ma_tb.getD q []).getD x.toNatClampNeg 0)) = .int ((ma_tb.getD q []).getD x.toNatClampNeg 0)) := by
  have h0 : ¬ x < 0 := fun h => hi (Or.inl h)
  have h1 : x.toNatClampNeg < ma_tl.getD q 0 := Nat.not_le.mp fun h => hi (Or.inr h)
  have h2 := sx_tl q hq
  refine ⟨h0, ?_, sx_t q hq _ (by omega)⟩
  have h3 : (0 : Int) ≤ x.toInt := by
    have := Int32.not_lt.mp h0
    simpa using Int32.le_iff_toInt_le.mp this
  have h4 : x.toInt = (x.toNatClampNeg : Int) := by
    show x.toInt = ((x.toInt.toNat : Nat) : Int)
    omega
  have h5 : ∀ n, n ≤ 6 → (nI n).toInt = (n : Int) := by decide +kernel
  rw [Int32.lt_iff_toInt_lt, h5 _ h2, h4]
  omega
theorem sx_lat {h : ma_H} {Q : ma_Q} {q : Nat} {x : Int32} (hq : q < 12) (hi : vp_in x (ma_tl.getD q 0)) (k : Q (some (.int ((ma_tb.getD q []).getD x.toNatClampNeg 0))) h) : ma_X 290 [.retAddr (20 + q), .int x] h Q := by
  refine ma_enter (Or.inr ⟨by decide, by decide⟩) (by show 2 ≤ mt_n 290; decide +kernel) ?_
  show ma_P 290 0 (mt_c 290) [some (.retAddr (20 + q)), some (.int x)] [] h Q
  obtain ⟨i0, i1, i2⟩ := sx_in hq hi
  refine mr_iload_n (n := 1) (by decide +kernel) rfl ?_
  refine mr_aload_n (n := 0) (by decide +kernel) rfl (Or.inr (Or.inr ⟨_, rfl⟩)) ?_
  refine mr_stal hq (by decide +kernel) ?_
  refine mr_static (m' := 291) (i := 9) (as := [.int x, .int (nI (ma_tl.getD q 0))]) (r := []) (b' := (0, 0)) (Or.inr ⟨by decide, by decide⟩) (by decide) jn_291 (Nat.le_of_ble_eq_true rfl) ⟨rfl, rfl⟩ (jw (List.mem_of_getElem? (i := 3) rfl)) (jw (List.mem_of_getElem? (i := 14) rfl)) (by decide +kernel) ?_
  refine sx_chk i0 i1 ?_
  show ma_P 290 6 (0, 0) _ [] h Q
  refine mr_aload_n (n := 0) (by decide +kernel) rfl (Or.inr (Or.inr ⟨_, rfl⟩)) ?_
  refine mr_iload_n (n := 1) (by decide +kernel) rfl ?_
  refine mr_stab hq hi (by decide +kernel) ?_
  refine mr_sipush (n := 255) (by decide +kernel) rfl ?_
  refine mr_iand (by decide +kernel) ?_
  refine mr_i2c (by decide +kernel) ?_
  rw [show ((((ma_tb.getD q []).getD x.toNatClampNeg 0) &&& (Int16.ofInt 255).toInt32).toUInt32 % 65536).toInt32 = (ma_tb.getD q []).getD x.toNatClampNeg 0 from i2.1]
  exact mr_ret (v := some (.int _)) ⟨by decide +kernel, rfl, _, rfl, by exact i2.2⟩ k
theorem sx_isL {h : ma_H} {Q : ma_Q} {q : Nat} (hq : q < 12) (k : Q (some (.int 1)) h) : ma_X 289 [.retAddr (2 + q)] h Q := by
  refine ma_enter (Or.inr ⟨by decide, by decide⟩) (by show 1 ≤ mt_n 289; decide +kernel) ?_
  show ma_P 289 0 (mt_c 289) [some (.retAddr (2 + q))] [] h Q
  refine mr_gcs (i := 38) (lw_J _ (List.mem_of_getElem? (i := 2) rfl)) (by decide +kernel) ?_
  refine mr_if_eq (tgt := 17) (off := 14) (by decide +kernel) rfl (fun q => absurd q (by decide)) fun _ => ?_
  refine mr_aload_n (n := 0) (by decide +kernel) rfl (Or.inr (Or.inr ⟨_, rfl⟩)) ?_
  refine mr_scod (i := 15) hq (lw_J _ (List.mem_of_getElem? (i := 1) rfl)) (by decide +kernel) ?_
  refine mr_if_ne (tgt := 17) (off := 7) (by decide +kernel) rfl (fun q => absurd rfl q) fun _ => ?_
  refine mr_iconst (n := 1) (v := 1) (by decide +kernel) rfl ?_
  refine mr_goto (tgt := 18) (off := 4) (by decide +kernel) rfl ?_
  exact mr_ret (v := some (.int _)) ⟨by decide +kernel, rfl, _, rfl, rfl⟩ k
theorem sx_cod {h : ma_H} {Q : ma_Q} {q : Nat} (hq : q < 12) (k : Q (some (.int 0)) h) : ma_X 287 [.retAddr (2 + q)] h Q := by
  refine ma_enter (Or.inr ⟨by decide, by decide⟩) (by show 1 ≤ mt_n 287; decide +kernel) ?_
  show ma_P 287 0 (mt_c 287) [some (.retAddr (2 + q))] [] h Q
  refine mr_gcs (i := 38) (lw_J _ (List.mem_of_getElem? (i := 2) rfl)) (by decide +kernel) ?_
  refine mr_if_eq (tgt := 13) (off := 10) (by decide +kernel) rfl (fun q => absurd q (by decide)) fun _ => ?_
  refine mr_aload_n (n := 0) (by decide +kernel) rfl (Or.inr (Or.inr ⟨_, rfl⟩)) ?_
  refine mr_scod (i := 15) hq (lw_J _ (List.mem_of_getElem? (i := 1) rfl)) (by decide +kernel) ?_
  refine mr_goto (tgt := 14) (off := 4) (by decide +kernel) rfl ?_
  exact mr_ret (v := some (.int _)) ⟨by decide +kernel, rfl, _, rfl, rfl⟩ k
theorem sx_len {h : ma_H} {Q : ma_Q} {q : Nat} (hq : q < 12) (k : Q (some (.int (nI (ma_tl.getD q 0)))) h) : ma_X 286 [.retAddr (2 + q)] h Q := by
  refine ma_enter (Or.inr ⟨by decide, by decide⟩) (by show 1 ≤ mt_n 286; decide +kernel) ?_
  show ma_P 286 0 (mt_c 286) [some (.retAddr (2 + q))] [] h Q
  refine mr_aload_n (n := 0) (by decide +kernel) rfl (Or.inr (Or.inr ⟨_, rfl⟩)) ?_
  refine mr_sval (i := 9) hq (lw_J _ (List.mem_of_getElem? (i := 0) rfl)) (by decide +kernel) ?_
  refine mr_stal hq (by decide +kernel) ?_
  refine mr_aload_n (n := 0) (by decide +kernel) rfl (Or.inr (Or.inr ⟨_, rfl⟩)) ?_
  refine mr_virtualS (m' := 287) (i := 335) (as := []) (b' := (0, 0)) (Or.inr ⟨by decide, by decide⟩) (by decide) jn_287 (Nat.le_of_ble_eq_true rfl) ⟨rfl, rfl⟩ hq (jw (List.mem_of_getElem? (i := 0) rfl)) (jw (List.mem_of_getElem? (i := 6) rfl)) (jw (List.mem_of_getElem? (i := 10) rfl)) (by decide +kernel) ?_
  refine sx_cod hq ?_
  show ma_P 286 9 (0, 0) _ [.int 0, .int (nI (ma_tl.getD q 0))] h Q
  refine mr_ishr (by decide +kernel) ?_
  rw [show nI (ma_tl.getD q 0) >>> ((0 : Int32) &&& 31) = nI (ma_tl.getD q 0) from sx_sh hq]
  exact mr_ret (v := some (.int _)) ⟨by decide +kernel, rfl, _, rfl, rfl⟩ k
theorem sx_chr {h : ma_H} {Q : ma_Q} {q : Nat} {x : Int32} (hq : q < 12) (hi : vp_in x (ma_tl.getD q 0)) (k : Q (some (.int ((ma_tb.getD q []).getD x.toNatClampNeg 0))) h) : ma_X 288 [.retAddr (2 + q), .int x] h Q := by
  refine ma_enter (Or.inr ⟨by decide, by decide⟩) (by show 2 ≤ mt_n 288; decide +kernel) ?_
  show ma_P 288 0 (mt_c 288) [some (.retAddr (2 + q)), some (.int x)] [] h Q
  refine mr_aload_n (n := 0) (by decide +kernel) rfl (Or.inr (Or.inr ⟨_, rfl⟩)) ?_
  refine mr_virtualS (m' := 289) (i := 492) (as := []) (r := []) (b' := (0, 0)) (Or.inr ⟨by decide, by decide⟩) (by decide) jn_289 (Nat.le_of_ble_eq_true rfl) ⟨rfl, rfl⟩ hq (jw (List.mem_of_getElem? (i := 1) rfl)) (jw (List.mem_of_getElem? (i := 8) rfl)) (jw (List.mem_of_getElem? (i := 12) rfl)) (by decide +kernel) ?_
  refine sx_isL hq ?_
  show ma_P 288 4 (0, 0) _ [.int 1] h Q
  refine mr_if_eq (tgt := 16) (off := 12) (by decide +kernel) rfl (fun q => absurd q (by decide)) fun _ => ?_
  refine mr_aload_n (n := 0) (by decide +kernel) rfl (Or.inr (Or.inr ⟨_, rfl⟩)) ?_
  refine mr_sval (i := 9) hq (lw_J _ (List.mem_of_getElem? (i := 0) rfl)) (by decide +kernel) ?_
  refine mr_iload_n (n := 1) (by decide +kernel) rfl ?_
  refine mr_static (m' := 290) (i := 495) (as := [.retAddr (20 + q), .int x]) (r := []) (b' := (0, 0)) (Or.inr ⟨by decide, by decide⟩) (by decide) jn_290 (Nat.le_of_ble_eq_true rfl) ⟨rfl, rfl⟩ (jw (List.mem_of_getElem? (i := 2) rfl)) (jw (List.mem_of_getElem? (i := 13) rfl)) (by decide +kernel) ?_
  refine sx_lat hq hi ?_
  show ma_P 288 15 (0, 0) _ [.int _] h Q
  exact mr_ret (v := some (.int _)) ⟨by decide +kernel, rfl, _, rfl, by exact (sx_in hq hi).2.2.2⟩ k
theorem mr_slength {m pc i : Nat} {b : Nat × Nat} {L : ma_L} {r : List Value} {h : ma_H} {Q : ma_Q} {q : Nat} (h1 : 2 ≤ q) (h2 : q < 14) (hcs : (r.map fun v => v.category).sum ≤ 8) (hv : 10 ≤ mt_v m) (hw : Cond.methodLink (mt_y m).cls i (lm7_y 6) ∈ lw_ok) (d : decode (mt_b m) pc = .ok (.invokevirtual i, 3)) (k : ma_P m (pc + 3) b L (.int (nI (ma_tl.getD (q - 2) 0)) :: r) h Q) : ma_P m pc b L (.retAddr q :: r) h Q := by
  obtain ⟨q, rfl⟩ : ∃ z, q = 2 + z := ⟨q - 2, by omega⟩
  rw [show 2 + q - 2 = q by omega] at k
  exact mr_virtualS (m' := 286) (as := []) (b' := b) (Or.inr ⟨by decide, by decide⟩) (Nat.le_trans (by decide) hv) jn_286 hcs ⟨rfl, rfl⟩ (by omega) hw (jw (List.mem_of_getElem? (i := 5) rfl)) (jw (List.mem_of_getElem? (i := 9) rfl)) d (sx_len (by omega) k)
theorem mr_scharAt {m pc i : Nat} {b : Nat × Nat} {L : ma_L} {r : List Value} {h : ma_H} {Q : ma_Q} {q : Nat} {x : Int32} (h1 : 2 ≤ q) (h2 : q < 14) (hi : vp_in x (ma_tl.getD (q - 2) 0)) (hcs : (r.map fun v => v.category).sum ≤ 8) (hv : 10 ≤ mt_v m) (hw : Cond.methodLink (mt_y m).cls i (lm7_y 7) ∈ lw_ok) (d : decode (mt_b m) pc = .ok (.invokevirtual i, 3)) (k : ma_P m (pc + 3) b L (.int ((ma_tb.getD (q - 2) []).getD x.toNatClampNeg 0) :: r) h Q) : ma_P m pc b L (.int x :: .retAddr q :: r) h Q := by
  obtain ⟨q, rfl⟩ : ∃ z, q = 2 + z := ⟨q - 2, by omega⟩
  rw [show 2 + q - 2 = q by omega] at k hi
  exact mr_virtualS (m' := 288) (as := [.int x]) (b' := b) (Or.inr ⟨by decide, by decide⟩) (Nat.le_trans (by decide) hv) jn_288 hcs ⟨rfl, rfl⟩ (by omega) hw (jw (List.mem_of_getElem? (i := 7) rfl)) (jw (List.mem_of_getElem? (i := 11) rfl)) d (sx_chr (by omega) hi k)
