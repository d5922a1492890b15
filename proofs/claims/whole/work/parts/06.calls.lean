/-! THE ABSTRACT MACHINE's ROWS: calls -/
theorem ma_good {m : Nat} (hm : mt_in m) : GoodIn lw_ok (ma_w m) := by
  intro w hw
  rcases List.mem_cons.mp hw with rfl | h
  · exact ⟨mt_code2 hm, good_of_word rfl⟩
  · exact ⟨h, good_of_word (List.mem_filter.mp h).2⟩
/-- a method's descriptor has so many parameters -/
def ma_np (d : String) (n : Nat) : Prop := (parseMethodDescriptor d).map (fun d => d.parameters.length) = some n
theorem ma_np.len {d : String} {n : Nat} (h : ma_np d n) : ∀ sig, parseMethodDescriptor d = some sig → n = sig.parameters.length := by
  intro sig q
  unfold ma_np at h
  rw [q] at h
  exact (Option.some.inj h).symm
theorem ma_callB {G : ma_G} {m m' : Nat} {p : Program} {R : Room} {s : State} {mi : MethodId} {args : Array Value} {meth : Method} {c : Code} (C : ma_M G m p R s mi args meth c) (hm : mt_in m') (hv : mt_v m' + 1 ≤ mt_v m) {i n : Nat} (hn : ma_np (mt_y m').desc n) (hw : Cond.methodLink (mt_y m).cls i (mt_y m') ∈ lw_ok) :
    CallB R s args (mt_y m).cls i (mt_y m') (mt_b m') (mt_n m') (mt_r m') (ma_w m') (ma_rm m') (mt_c m').1 (mt_c m').2 n := by
  obtain ⟨p1, p2, p3, p4⟩ := mt_plain m' (mt_lt hm)
  obtain ⟨-, -, -, -, hts, -, -, -, -, -, -, hfr, hlo⟩ := C
  refine ⟨rfl, rfl, ?_, ?_, pay_in hts (ma_good hm), List.mem_cons_self, hts _ (mt_code2 hm), hts _ (mt_init2 hm), ⟨p1, p2⟩, hn.len, hts _ hw⟩
  · show mt_v m' + 1 ≤ R.frames
    omega
  · show 8 + (mt_n m' + 11) + 40 * mt_v m' ≤ R.locals
    omega
theorem ma_preS {G : ma_G} {m : Nat} {p : Program} {R : Room} {s : State} {mi : MethodId} {args : Array Value} {meth : Method} {c : Code} {h : ma_H} {H : Heap} (C : ma_M G m p R s mi args meth c) (HR : ma_R G h H) (as : List Value) : PreS s H (ma_pre G as h) (as.map (ma_v G)) :=
  ⟨ma_pre_blind G as h, fun U hU hW => ⟨rfl, by rw [hU]; exact HR, va_K.moved hW.alike C.2.2.2.2.2.2.2.2.1, ma_S.moved hW C.2.2.2.2.2.2.2.2.2.1⟩⟩
theorem ma_preV {G : ma_G} {m : Nat} {p : Program} {R : Room} {s : State} {mi : MethodId} {args : Array Value} {meth : Method} {c : Code} {h : ma_H} {H : Heap} (C : ma_M G m p R s mi args meth c) (HR : ma_R G h H) {a ci : Nat} {fs : List Value} (he : h.2.1 a = .inr (ci, fs)) (hci : ci < 13) (as : List Value) : PreV s H (ct_R ci) (G.2.2.1 + a) (ma_pre G (.ref a :: as) h) (as.map (ma_v G)) :=
  ⟨ma_pre_blind G _ h, va_recv (q := (ct_R ci, ct_T ci, ct_N ci)) C.2.2.2.2.2.2.2.2.1 (HR.obj he hci) (q0 := 0) (ma_cl hci) rfl, fun U hU hW => ⟨rfl, by rw [hU]; exact HR, va_K.moved hW.alike C.2.2.2.2.2.2.2.2.1, ma_S.moved hW C.2.2.2.2.2.2.2.2.2.1⟩⟩
theorem ma_cats (G : ma_G) (r : List Value) : ((r.map (ma_v G)).map fun v => v.category).sum = (r.map fun v => v.category).sum := by
  rw [List.map_map]
  exact congrArg List.sum (List.map_congr_left fun v _ => ma_v_cat G v)
theorem ma_stk (G : ma_G) (as r : List Value) : (as.reverse ++ r).map (ma_v G) = (as.map (ma_v G)).reverse ++ r.map (ma_v G) := by simp
/-- behind a call -/
theorem ma_back {G : ma_G} {m pc : Nat} {b b' : Nat × Nat} {L : ma_L} {r st0 : List Value} {Q : ma_Q} {p : Program} {l : Launch} {e : Env} {R : Room} {s : State} {mi : MethodId} {args : Array Value} {below : List Frame} {meth : Method} {c : Code} {H : Heap} {locs : List Loc} {cells slots : Nat} {ls : Array Slot} {Z : State → Prop} {mc ms : Nat} {a9 : Array Value}
    (C : ma_M G m p R s mi args meth c) (hz : s.heap.size ≤ H.size) (hlo : ∀ q ∈ locs, G.2.2.1 ≤ q.base) (h1 : cells + b.1 ≤ R.cells) (h2 : slots + b.2 ≤ R.slots) (hL : ma_lr G (mt_n m) ls L) (hb : b'.1 + mc = b.1 ∧ b'.2 + ms = b.2)
    (hr : va_Run p l e R s mi args below meth c H locs cells slots mc ms (F0 mi pc ls st0) (r.map (ma_v G)) (ma_post G (fun v h' => ma_P m (pc + 3) b' L (v.toList ++ r) h' Q) a9) (fun q => G.2.2.1 ≤ q))
    (hf : ∀ (pc' : Nat) (ls' : Array Slot) (st' : List Value) (r : Option Value) (h' : ma_H) (H' : Heap) (locs' : List Loc) (cells' slots' : Nat), Q r h' → ma_ret m pc' st' r → ma_R G h' H' → s.heap.size ≤ H'.size → (∀ q ∈ locs', G.2.2.1 ≤ q.base) → cells' ≤ cells + b.1 → slots' ≤ slots + b.2 →
      W p l e R s mi args below meth c H' locs' cells' slots' Z (F0 mi pc' ls' (st'.map (ma_v G)))) :
    W p l e R s mi args below meth c H locs cells slots Z (F0 mi pc ls st0) := by
  intro T hT X
  obtain ⟨v, st₀, t, T', Lc, h0, X', hLc, e1, e2, ⟨r', h', hv, hq, hR', hz'⟩, st⟩ := hr T hT X
  cases hv
  have hz2 : s.heap.size ≤ T'.heap.size := by rw [e1]; rw [h0] at hz'; exact Nat.le_trans hz hz'
  obtain ⟨t2, a1, b1⟩ := hq G p l e R s mi args below meth c T'.heap (locs ++ Lc) (cells + mc) (slots + ms) ls Z C (by rw [e1]; exact hR') hz2 (fun q hq' => (List.mem_append.mp hq').elim (hlo q) (hLc q)) (by omega) (by omega) hL (fun pc' ls' st' r' h' H' locs' cells' slots' a1 a2 a3 a4 a5 a6 a7 => hf pc' ls' st' r' h' H' locs' cells' slots' a1 a2 a3 a4 a5 (by omega) (by omega)) T' rfl X'
  refine ⟨t2, st t2 ?_, b1⟩
  have hs : (r'.map (ma_v G)).toList ++ r.map (ma_v G) = (r'.toList ++ r).map (ma_v G) := by cases r' <;> rfl
  show Steps p.tables e below (T'.setTop { F0 mi pc ls st0 with pc := pc + 3, stack := (r'.map (ma_v G)).toList ++ r.map (ma_v G) }) t2
  rw [hs]
  exact a1
theorem mr_static {m m' pc i : Nat} {b b' : Nat × Nat} {L : ma_L} {r as : List Value} {h : ma_H} {Q : ma_Q} (hm : mt_in m') (hv : mt_v m' + 1 ≤ mt_v m) (hn : ma_np (mt_y m').desc as.length) (hcs : (r.map fun v => v.category).sum ≤ 8) (hb : b'.1 + (mt_c m').1 = b.1 ∧ b'.2 + (mt_c m').2 = b.2) (hw : Cond.methodLink (mt_y m).cls i (mt_y m') ∈ lw_ok) (hw2 : Cond.static (mt_y m') ∈ lw_ok) (d : decode (mt_b m) pc = .ok (.invokestatic i, 3)) (k : ma_X m' as h (fun v h' => ma_P m (pc + 3) b' L (v.toList ++ r) h' Q)) : ma_P m pc b L (as.reverse ++ r) h Q := by
  intro G p l e R s mi args below meth c H locs cells slots ls Z C HR hz hlo h1 h2 hL hf
  exact ma_back C hz hlo h1 h2 hL hb (va_runS (As := as.map (ma_v G)) (rest := r.map (ma_v G)) ⟨C.1, C.2.1, C.2.2.1, C.2.2.2.1, C.2.2.2.2.1⟩ (k G l) ⟨ma_callB C hm hv hn hw, C.2.2.2.2.1 _ hw2⟩ (ma_preS C HR as) rfl (by rw [List.length_map]) hL.1 (ma_stk G _ _) (lv_room (by rw [ma_cats]; exact hcs)) d ⟨by omega, by omega⟩) hf
theorem mr_init {m m' pc i : Nat} {b b' : Nat × Nat} {L : ma_L} {r as : List Value} {h : ma_H} {Q : ma_Q} (hm : mt_in m') (hv : mt_v m' + 1 ≤ mt_v m) (hn : ma_np (mt_y m').desc as.length) (hcs : (r.map fun v => v.category).sum ≤ 8) (hb : b'.1 + (mt_c m').1 = b.1 ∧ b'.2 + (mt_c m').2 = b.2) {a : Nat} (hret : mt_r m' = none) (hw : Cond.methodLink (mt_y m).cls i (mt_y m') ∈ lw_ok) (hw2 : Cond.instanceMethod (mt_y m') ∈ lw_ok) (hw3 : (mt_y m').name = "<init>") (d : decode (mt_b m) pc = .ok (.invokespecial i, 3)) (k : ma_X m' (.ref a :: as) h (fun v h' => ma_P m (pc + 3) b' L (v.toList ++ r) h' Q)) : ma_P m pc b L (as.reverse ++ .ref a :: r) h Q := by
  intro G p l e R s mi args below meth c H locs cells slots ls Z C HR hz hlo h1 h2 hL hf
  have hB := ma_callB C hm hv hn hw
  rw [hret] at hB
  exact ma_back C hz hlo h1 h2 hL hb (va_runI (As := as.map (ma_v G)) (b := G.2.2.1 + a) (rest := r.map (ma_v G)) ⟨C.1, C.2.1, C.2.2.1, C.2.2.2.1, C.2.2.2.2.1⟩ (k G l) ⟨hB, hw3, C.2.2.2.2.1 _ hw2⟩ (ma_preS C HR (.ref a :: as)) rfl (by rw [List.length_map]) hL.1 (ma_stk G as (.ref a :: r)) (lv_room (by rw [ma_cats]; exact hcs)) d ⟨by omega, by omega⟩) hf
theorem mr_virtual {m m' pc i : Nat} {b b' : Nat × Nat} {L : ma_L} {r as : List Value} {h : ma_H} {Q : ma_Q} (hm : mt_in m') (hv : mt_v m' + 1 ≤ mt_v m) (hn : ma_np (mt_y m').desc as.length) (hcs : (r.map fun v => v.category).sum ≤ 8) (hb : b'.1 + (mt_c m').1 = b.1 ∧ b'.2 + (mt_c m').2 = b.2) {a ci : Nat} {fs : List Value} (he : h.2.1 a = .inr (ci, fs)) (hci : ci < 13) (hw : Cond.methodLink (mt_y m).cls i (mt_y m') ∈ lw_ok) (hw2 : Cond.instanceMethod (mt_y m') ∈ lw_ok) (hw3 : Cond.selects (ct_R ci) (mt_y m') (mt_y m') ∈ lw_ok) (d : decode (mt_b m) pc = .ok (.invokevirtual i, 3)) (k : ma_X m' (.ref a :: as) h (fun v h' => ma_P m (pc + 3) b' L (v.toList ++ r) h' Q)) : ma_P m pc b L (as.reverse ++ .ref a :: r) h Q := by
  intro G p l e R s mi args below meth c H locs cells slots ls Z C HR hz hlo h1 h2 hL hf
  exact ma_back C hz hlo h1 h2 hL hb (va_runV (As := as.map (ma_v G)) (rest := r.map (ma_v G)) ⟨C.1, C.2.1, C.2.2.1, C.2.2.2.1, C.2.2.2.2.1⟩ (k G l) ⟨ma_callB C hm hv hn hw, C.2.2.2.2.1 _ hw2, C.2.2.2.2.1 _ hw3⟩ (ma_preV C HR he hci as) rfl (by rw [List.length_map]) hL.1 (ma_stk G as (.ref a :: r)) (lv_room (by rw [ma_cats]; exact hcs)) d ⟨by omega, by omega⟩) hf
theorem mr_virtualU {m m' pc i : Nat} {b b' : Nat × Nat} {L : ma_L} {r as : List Value} {h : ma_H} {Q : ma_Q} (hm : mt_in m') (hv : mt_v m' + 1 ≤ mt_v m) (hn : ma_np (mt_y m').desc as.length) (hcs : (r.map fun v => v.category).sum ≤ 8) (hb : b'.1 + (mt_c m').1 = b.1 ∧ b'.2 + (mt_c m').2 = b.2) {a ci : Nat} {fs : List Value} (he : h.2.1 a = .inr (ci, fs)) (hci : ci < 13) {x : MethodName} {owner : String} {m0 : Nat} (hm0 : mt_in m0) (h0 : mt_y m0 = ⟨owner, x.name, x.desc⟩) (hd : x.desc = (mt_y m').desc) (hw : Cond.methodLink (mt_y m).cls i x ∈ lw_ok) (hw1 : Cond.sameMethod x.cls owner x.name x.desc ∈ lw_ok) (hw0 : Cond.instanceMethod (mt_y m0) ∈ lw_ok) (hw2 : Cond.instanceMethod (mt_y m') ∈ lw_ok) (hw3 : Cond.selects (ct_R ci) x (mt_y m') ∈ lw_ok) (d : decode (mt_b m) pc = .ok (.invokevirtual i, 3)) (k : ma_X m' (.ref a :: as) h (fun v h' => ma_P m (pc + 3) b' L (v.toList ++ r) h' Q)) : ma_P m pc b L (as.reverse ++ .ref a :: r) h Q := by
  intro G p l e R s mi args below meth c H locs cells slots ls Z C HR hz hlo h1 h2 hL hf
  obtain ⟨-, -, -, -, hts, -, -, -, -, -, -, hfr, hlo9⟩ := id C
  obtain ⟨p1, p2, p3, p4⟩ := mt_plain m' (mt_lt hm)
  have howner : owner ≠ "java/lang/invoke/MethodHandle" ∧ owner ≠ "java/lang/invoke/VarHandle" := by
    obtain ⟨q1, q2, -⟩ := mt_plain m0 (mt_lt hm0)
    rw [h0] at q1 q2
    exact ⟨q1, q2⟩
  have hD : va_Decl s ⟨owner, x.name, x.desc⟩ := by
    rw [← h0]
    exact va_Decl.of (hts _ hw0) (hts _ (mt_code2 hm0))
  have hcu : va_CU R s args (mt_y m).cls (ct_R ci) owner i x (mt_y m') (mt_b m') (mt_n m') (mt_r m') (ma_w m') (ma_rm m') (mt_c m').1 (mt_c m').2 as.length := by
    refine ⟨⟨rfl, rfl, ?_, ?_, pay_in hts (ma_good hm), List.mem_cons_self⟩, hts _ (mt_code2 hm), hts _ (mt_init2 hm), howner, by rw [hd]; exact hn.len, hts _ hw, hts _ hw1, hD, hts _ hw3, hts _ hw2⟩
    · show mt_v m' + 1 ≤ R.frames
      omega
    · show 8 + (mt_n m' + 11) + 40 * mt_v m' ≤ R.locals
      omega
  exact ma_back C hz hlo h1 h2 hL hb (va_runU (As := as.map (ma_v G)) (rest := r.map (ma_v G)) ⟨C.1, C.2.1, C.2.2.1, C.2.2.2.1, C.2.2.2.2.1⟩ (k G l) hcu (ma_preV C HR he hci as) rfl (by rw [List.length_map]) hL.1 (ma_stk G as (.ref a :: r)) (lv_room (by rw [ma_cats]; exact hcs)) d ⟨by omega, by omega⟩) hf
theorem mr_super {m m' pc i : Nat} {b b' : Nat × Nat} {L : ma_L} {r as : List Value} {h : ma_H} {Q : ma_Q} (hm : mt_in m') (hv : mt_v m' + 1 ≤ mt_v m) (hn : ma_np (mt_y m').desc as.length) (hcs : (r.map fun v => v.category).sum ≤ 8) (hb : b'.1 + (mt_c m').1 = b.1 ∧ b'.2 + (mt_c m').2 = b.2) {a ci : Nat} {fs : List Value} (he : h.2.1 a = .inr (ci, fs)) (hci : ci < 13) (hw : Cond.methodLink (mt_y m).cls i (mt_y m') ∈ lw_ok) (hw1 : Cond.sameMethod (mt_y m').cls (mt_y m').cls (mt_y m').name (mt_y m').desc ∈ lw_ok) (hw2 : Cond.instanceMethod (mt_y m') ∈ lw_ok) (hw3 : Cond.superclass (mt_y m).cls (mt_y m').cls ∈ lw_ok) (hno : (mt_y m').name ≠ "<init>") (d : decode (mt_b m) pc = .ok (.invokespecial i, 3)) (k : ma_X m' (.ref a :: as) h (fun v h' => ma_P m (pc + 3) b' L (v.toList ++ r) h' Q)) : ma_P m pc b L (as.reverse ++ .ref a :: r) h Q := by
  intro G p l e R s mi args below meth c H locs cells slots ls Z C HR hz hlo h1 h2 hL hf
  obtain ⟨-, -, -, -, hts, -, -, -, hK, -, -, hfr, hlo9⟩ := id C
  obtain ⟨p1, p2, p3, p4⟩ := mt_plain m' (mt_lt hm)
  have hcs9 : va_CS R s args (mt_y m).cls i (mt_y m') (mt_b m') (mt_n m') (mt_r m') (ma_w m') (ma_rm m') (mt_c m').1 (mt_c m').2 as.length := by
    refine ⟨⟨rfl, rfl, ?_, ?_, pay_in hts (ma_good hm), List.mem_cons_self⟩, hts _ hw, hts _ hw1, hts _ hw3, hts _ hw2, hts _ (mt_init2 hm), hts _ (mt_code2 hm), hno, hn.len⟩
    · show mt_v m' + 1 ≤ R.frames
      omega
    · show 8 + (mt_n m' + 11) + 40 * mt_v m' ≤ R.locals
      omega
  exact ma_back C hz hlo h1 h2 hL hb (va_runSU (As := as.map (ma_v G)) (rest := r.map (ma_v G)) (hK.1 ci _ (ma_cl hci)).2 ⟨C.1, C.2.1, C.2.2.1, C.2.2.2.1, C.2.2.2.2.1⟩ (k G l) hcs9 (ma_preV C HR he hci as) rfl (by rw [List.length_map]) hL.1 (ma_stk G as (.ref a :: r)) (lv_room (by rw [ma_cats]; exact hcs)) d ⟨by omega, by omega⟩) hf
theorem ma_enter {m : Nat} {as : List Value} {h : ma_H} {Q : ma_Q} (hm : mt_in m) (hs : (lg_sl as).length ≤ mt_n m) (k : ma_P m 0 (mt_c m) ((lv_args 0 as).foldl (fun L q => L.set q.1 (some q.2)) (List.replicate (mt_n m) none)) [] h Q) : ma_X m as h Q := by
  intro G l
  obtain ⟨p1, p2, p3, p4⟩ := mt_plain m (mt_lt hm)
  refine Met.ofW (cc := mt_b m) (maxL := mt_n m) (ret := mt_r m) p3 rfl ?_
  intro p e s mi args below meth c s₁ B hml hv
  obtain ⟨rfl, hR, hK, hS⟩ := hv
  have hts : ∀ w ∈ ma_w m, w.before (as.map (ma_v G)).toArray s = true := atoms_spec (ws := ma_w m) B.pre
  have hts' : ∀ w ∈ lw_ok, w.before (as.map (ma_v G)).toArray s = true := fun w hw => hts w (List.mem_cons_of_mem _ hw)
  have hlg : ∀ (vs : List Value), lg_sl (vs.map (ma_v G)) = (lg_sl vs).map (fun z => match z with | .val v => .val (ma_v G v) | z => z) := by
    intro vs
    induction vs with
    | nil => rfl
    | cons v vs ih =>
      show (if (ma_v G v).category = 2 then [Slot.val (ma_v G v), .second] else [.val (ma_v G v)]) ++ lg_sl (vs.map (ma_v G)) = _
      rw [ih, ma_v_cat]
      show _ = ((if v.category = 2 then [Slot.val v, .second] else [.val v]) ++ lg_sl vs).map _
      by_cases h2 : v.category = 2
      · rw [if_pos h2, if_pos h2]; rfl
      · rw [if_neg h2, if_neg h2]; rfl
  have hln : (lg_sl (as.map (ma_v G))).length ≤ mt_n m := by rw [hlg, List.length_map]; exact hs
  have hl := lv_entry (as.map (ma_v G)) (n := mt_n m) hln
  rw [lg_entry_eq]
  generalize (lg_sl (as.map (ma_v G)) ++ List.replicate (mt_n m - (lg_sl (as.map (ma_v G))).length) Slot.unset).toArray = ls at hl ⊢
  have hL : ma_lr G (mt_n m) ls ((lv_args 0 as).foldl (fun L q => L.set q.1 (some q.2)) (List.replicate (mt_n m) none)) := by
    refine ⟨hl.1, hl.2.1, ?_⟩
    have hargs : ∀ (vs : List Value) (i : Nat), lv_args i (vs.map (ma_v G)) = (lv_args i vs).map (fun q => (q.1, ma_v G q.2)) := by
      intro vs
      induction vs with
      | nil => intro i; rfl
      | cons v vs ih =>
        intro i
        show (i, ma_v G v) :: lv_args (if (ma_v G v).category = 2 then i + 2 else i + 1) (vs.map (ma_v G)) = _
        rw [ih, ma_v_cat]
        rfl
    have hall : ∀ q ∈ lv_args 0 as, ls[q.1]? = some (.val (ma_v G q.2)) := fun q hq => hl.2.2 (q.1, ma_v G q.2) (by rw [hargs]; exact List.mem_map.mpr ⟨q, hq, rfl⟩)
    have key : ∀ (qs : List (Nat × Value)) (L0 : ma_L), (∀ q ∈ qs, ls[q.1]? = some (.val (ma_v G q.2))) → (∀ (i : Nat) (v : Value), L0[i]? = some (some v) → ls[i]? = some (.val (ma_v G v))) → ∀ (i : Nat) (v : Value), (qs.foldl (fun L q => L.set q.1 (some q.2)) L0)[i]? = some (some v) → ls[i]? = some (.val (ma_v G v)) := by
      intro qs
      induction qs with
      | nil => intro L0 _ h0 i v hv; exact h0 i v hv
      | cons q qs ih =>
        intro L0 hq h0 i v hv
        refine ih (L0.set q.1 (some q.2)) (fun q' hq' => hq q' (List.mem_cons_of_mem _ hq')) (fun j w hw => ?_) i v hv
        by_cases hj : q.1 = j
        · subst hj
          by_cases hlt : q.1 < L0.length
          · rw [List.getElem?_set_self hlt] at hw
            cases hw
            exact hq q List.mem_cons_self
          · rw [List.getElem?_eq_none (by rw [List.length_set]; omega)] at hw
            cases hw
        · rw [List.getElem?_set_ne hj] at hw
          exact h0 j w hw
    exact key _ _ hall (fun i v hv => by
      by_cases hlt : i < mt_n m
      · rw [List.getElem?_replicate, if_pos hlt] at hv; cases hv
      · rw [List.getElem?_replicate, if_neg hlt] at hv; cases hv)
  have hM : ma_M G m p (headSpec (ma_w m) (ma_rm m)).room s mi (as.map (ma_v G)).toArray meth c :=
    ⟨B.exec, B.bytes, hml, findClass_of_methodNamed B.named, hts', B.returns, B.notSynchronized, (name_of_methodNamed B.named B.method).1, hK, hS, fun q hq => hR.2.1 q hq, Nat.le_refl _, Nat.le_refl _⟩
  refine k G p l e _ s mi _ below meth c s.heap [] 0 0 ls _ hM hR (Nat.le_refl _) (fun q hq => by cases hq) (Nat.le_of_eq (Nat.zero_add _)) (Nat.le_of_eq (Nat.zero_add _)) hL ?_
  intro pc' ls' st' r h' H' locs' cells' slots' hq hret hR' hz' hlo' hc' hs'
  refine W.widen (k := (mt_c m).1) (n := (mt_c m).2) (by omega) (by omega) ?_
  cases r with
  | none =>
    obtain ⟨d, rfl, hr0⟩ := hret
    exact W.vret B.exec B.bytes (by rw [B.returns]; exact hr0) (fun t ht hW => ⟨none, h', rfl, hq, by rw [ht]; exact hR', by rw [ht]; exact hz'⟩) hlo' d B.notSynchronized
  | some v =>
    have fin : ∀ t : State, t.heap = H' → s.WarmedH t.vm → ma_post G Q (as.map (ma_v G)).toArray s (.returned (some (ma_v G v))) t := fun t ht hW => ⟨some v, h', rfl, hq, by rw [ht]; exact hR', by rw [ht]; exact hz'⟩
    cases v with
    | int v =>
      obtain ⟨d, rfl, ty, hr0, hn0⟩ := hret
      exact W.zret B.exec B.bytes (by rw [B.returns]; exact hr0) hn0 fin hlo' d B.notSynchronized
    | long v =>
      obtain ⟨d, rfl, hr0⟩ := hret
      exact W.lret B.exec B.bytes (by rw [B.returns]; exact hr0) fin hlo' d B.notSynchronized
    | null =>
      obtain ⟨d, rfl, hv0, ty, hr0, hrt⟩ := hret
      exact W.aret B.exec B.bytes (by rw [B.returns]; exact hr0) hrt (Or.inl rfl) fin hlo' d B.notSynchronized
    | ref q =>
      obtain ⟨d, rfl, hv0, ty, hr0, hrt⟩ := hret
      exact W.aret B.exec B.bytes (by rw [B.returns]; exact hr0) hrt (Or.inr ⟨_, rfl⟩) fin hlo' d B.notSynchronized
    | float q => obtain ⟨-, -, h9 | ⟨a, h9⟩, -⟩ := hret <;> cases h9
    | double q => obtain ⟨-, -, h9 | ⟨a, h9⟩, -⟩ := hret <;> cases h9
    | retAddr q => obtain ⟨-, -, h9 | ⟨a, h9⟩, -⟩ := hret <;> cases h9
theorem ma_mono {m : Nat} {as : List Value} {h : ma_H} {Q Q' : ma_Q} (hw : ∀ r h', Q' r h' → Q r h') (k : ma_X m as h Q') : ma_X m as h Q := by
  intro G l p e ha hc hk s mi args below hf hfit hP hK
  obtain ⟨n, o, h1, h2, h3, ⟨r, h', q1, q2, q3⟩, q4⟩ := k G l p e ha hc hk s mi args below hf hfit hP hK
  exact ⟨n, o, h1, h2, h3, ⟨r, h', q1, hw r h' q2, q3⟩, q4⟩
