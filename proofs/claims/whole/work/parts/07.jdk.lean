/-! THE ABSTRACT MACHINE's ROWS: the JDK's own methods, instanceof, arrays of references -/
theorem mr_mmax {m pc i : Nat} {b : Nat × Nat} {L : ma_L} {r : List Value} {h : ma_H} {Q : ma_Q} {x y : Int32} (hcs : (r.map fun v => v.category).sum ≤ 8) (hv : 2 ≤ mt_v m) (hw : Cond.methodLink (mt_y m).cls i Lib.Math.max.name ∈ lw_ok) (hw2 : Cond.static Lib.Math.max.name ∈ lw_ok) (hw3 : Cond.initialized "java/lang/Math" ∈ lw_ok) (hw4 : Cond.code Lib.Math.max.name Lib.Math.max.code 2 (some .int) ∈ lw_ok) (d : decode (mt_b m) pc = .ok (.invokestatic i, 3)) (k : ma_P m (pc + 3) b L (.int (if x < y then y else x) :: r) h Q) : ma_P m pc b L (.int y :: .int x :: r) h Q := by
  intro G p l e R s mi args below meth c H locs cells slots ls Z C HR hz hlo h1 h2 hL hf
  obtain ⟨-, -, hml, -, -, -, -, -, -, -, -, hfr, hlo9⟩ := id C
  have hcs' : ((r.map (ma_v G)).map fun v => v.category).sum ≤ 8 := by rw [ma_cats]; exact hcs
  exact va_mmax C.1 C.2.1 (hml.trans hL.1.symm) C.2.2.2.1 (C.2.2.2.2.1 _ hw) (C.2.2.2.2.1 _ hw2) (C.2.2.2.2.1 _ hw3) (C.2.2.2.2.1 _ hw4) (by omega) (by omega) (by omega) (by omega) d (k G p l e R s mi args below meth c H locs cells slots ls Z C HR hz hlo h1 h2 hL hf)
theorem mr_mmin {m pc i : Nat} {b : Nat × Nat} {L : ma_L} {r : List Value} {h : ma_H} {Q : ma_Q} {x y : Int32} (hcs : (r.map fun v => v.category).sum ≤ 8) (hv : 2 ≤ mt_v m) (hw : Cond.methodLink (mt_y m).cls i Lib.Math.min.name ∈ lw_ok) (hw2 : Cond.static Lib.Math.min.name ∈ lw_ok) (hw3 : Cond.initialized "java/lang/Math" ∈ lw_ok) (hw4 : Cond.code Lib.Math.min.name Lib.Math.min.code 2 (some .int) ∈ lw_ok) (d : decode (mt_b m) pc = .ok (.invokestatic i, 3)) (k : ma_P m (pc + 3) b L (.int (if y < x then y else x) :: r) h Q) : ma_P m pc b L (.int y :: .int x :: r) h Q := by
  intro G p l e R s mi args below meth c H locs cells slots ls Z C HR hz hlo h1 h2 hL hf
  obtain ⟨-, -, hml, -, -, -, -, -, -, -, -, hfr, hlo9⟩ := id C
  have hcs' : ((r.map (ma_v G)).map fun v => v.category).sum ≤ 8 := by rw [ma_cats]; exact hcs
  exact va_mmin C.1 C.2.1 (hml.trans hL.1.symm) C.2.2.2.1 (C.2.2.2.2.1 _ hw) (C.2.2.2.2.1 _ hw2) (C.2.2.2.2.1 _ hw3) (C.2.2.2.2.1 _ hw4) (by omega) (by omega) (by omega) (by omega) d (k G p l e R s mi args below meth c H locs cells slots ls Z C HR hz hlo h1 h2 hL hf)
theorem mr_mabs {m pc i : Nat} {b : Nat × Nat} {L : ma_L} {r : List Value} {h : ma_H} {Q : ma_Q} {x : Int32} (hcs : (r.map fun v => v.category).sum ≤ 8) (hv : 2 ≤ mt_v m) (hw : Cond.methodLink (mt_y m).cls i Lib.Math.abs.name ∈ lw_ok) (hw2 : Cond.static Lib.Math.abs.name ∈ lw_ok) (hw3 : Cond.initialized "java/lang/Math" ∈ lw_ok) (hw4 : Cond.code Lib.Math.abs.name Lib.Math.abs.code 1 (some .int) ∈ lw_ok) (d : decode (mt_b m) pc = .ok (.invokestatic i, 3)) (k : ma_P m (pc + 3) b L (.int (if 0 ≤ x then x else -x) :: r) h Q) : ma_P m pc b L (.int x :: r) h Q := by
  intro G p l e R s mi args below meth c H locs cells slots ls Z C HR hz hlo h1 h2 hL hf
  obtain ⟨-, -, hml, -, -, -, -, -, -, -, -, hfr, hlo9⟩ := id C
  have hcs' : ((r.map (ma_v G)).map fun v => v.category).sum ≤ 8 := by rw [ma_cats]; exact hcs
  exact va_mabs C.1 C.2.1 (hml.trans hL.1.symm) C.2.2.2.1 (C.2.2.2.2.1 _ hw) (C.2.2.2.2.1 _ hw2) (C.2.2.2.2.1 _ hw3) (C.2.2.2.2.1 _ hw4) (by omega) (by omega) (by omega) (by omega) d (k G p l e R s mi args below meth c H locs cells slots ls Z C HR hz hlo h1 h2 hL hf)
theorem mr_objInit {m pc i : Nat} {b : Nat × Nat} {L : ma_L} {r : List Value} {h : ma_H} {Q : ma_Q} {a : Nat} (hcs : (r.map fun v => v.category).sum ≤ 8) (hv : 2 ≤ mt_v m) (hw : Cond.methodLink (mt_y m).cls i Lib.objectInit ∈ lw_ok) (hw2 : Cond.instanceMethod Lib.objectInit ∈ lw_ok) (hw3 : Cond.code Lib.objectInit ⟨#[0xb1]⟩ 1 none ∈ lw_ok) (d : decode (mt_b m) pc = .ok (.invokespecial i, 3)) (k : ma_P m (pc + 3) b L r h Q) : ma_P m pc b L (.ref a :: r) h Q := by
  intro G p l e R s mi args below meth c H locs cells slots ls Z C HR hz hlo h1 h2 hL hf
  obtain ⟨-, -, hml, -, -, -, -, -, -, -, -, hfr, hlo9⟩ := id C
  have hcs' : ((r.map (ma_v G)).map fun v => v.category).sum ≤ 8 := by rw [ma_cats]; exact hcs
  have hrm := lv_room (m := mi) (pc := pc) (ls := ls) (rest := (Value.ref a :: r).map (ma_v G)) hcs'
  exact W.objInit C.1 C.2.1 C.2.2.2.1 (C.2.2.2.2.1 _ hw) (C.2.2.2.2.1 _ hw2) (C.2.2.2.2.1 _ hw3) rfl (hL.1.trans hml.symm) rfl d (by omega) (by omega) (k G p l e R s mi args below meth c H locs cells slots ls Z C HR hz hlo h1 h2 hL hf)
theorem mr_inst {m pc i : Nat} {b : Nat × Nat} {L : ma_L} {r : List Value} {h : ma_H} {Q : ma_Q} {a ci t : Nat} {fs : List Value} (he : h.2.1 a = .inr (ci, fs)) (hci : ma_gk ci = true) (ht : ma_gk t = true) (hw : Cond.classLink (mt_y m).cls i (ct_R t) ∈ lw_ok) (d : decode (mt_b m) pc = .ok (.instanceof i, 3)) (k : ma_P m (pc + 3) b L (.int (if ma_sub ci t = true then 1 else 0) :: r) h Q) : ma_P m pc b L (.ref a :: r) h Q := by
  intro G p l e R s mi args below meth c H locs cells slots ls Z C HR hz hlo h1 h2 hL hf
  have hlt : ∀ c, ma_gk c = true → c < 13 := by
    intro c hc
    have : c ∈ [0, 1, 3, 6, 7, 8] := by simpa [ma_gk] using hc
    simp at this
    omega
  have k1 := k G p l e R s mi args below meth c H locs cells slots ls Z C HR hz hlo h1 h2 hL hf
  have hr := va_recv (q := (ct_R ci, ct_T ci, ct_N ci)) C.2.2.2.2.2.2.2.2.1 (HR.obj he (hlt ci hci)) (q0 := 0) (ma_cl (hlt ci hci)) rfl
  by_cases hs : ma_sub ci t = true
  · rw [if_pos hs] at k1
    by_cases hct : ci = t
    · subst hct
      exact va_instE C.1 C.2.1 C.2.2.2.1 (C.2.2.2.2.1 _ hw) hr d k1
    · exact va_instY C.1 C.2.1 C.2.2.2.1 (C.2.2.2.2.1 _ hw) (C.2.2.2.2.2.2.2.2.2.1.2.2.2.2.2.2.2.1 ci t hci ht hs hct) hr d k1
  · rw [if_neg hs] at k1
    exact va_instNo C.1 C.2.1 C.2.2.2.1 (C.2.2.2.2.1 _ hw) (C.2.2.2.2.2.2.2.2.2.1.2.2.2.2.2.2.1 ci t hci ht (by simpa using hs)) hr d k1
theorem ma_astore {G : ma_G} {m : Nat} {p : Program} {R : Room} {s : State} {mi : MethodId} {args : Array Value} {meth : Method} {c : Code} (C : ma_M G m p R s mi args meth c) {h : ma_H} {H : Heap} (HR : ma_R G h H) {a n : Nat} {f : Nat → Option Nat} {ti t v ci : Nat} {fs : List Value} (ha : h.2.1 a = .inl (.object (ct_R t), n, .inr (.inr (.inr (.inr f))))) (hti : ma_tyl[ti]? = some (.object (ct_R t))) (hv : h.2.1 v = .inr (ci, fs)) (hci : ci < 13) (hct : ci = t ∨ (ma_gk ci = true ∧ ma_gk t = true ∧ ma_sub ci t = true))
    {l : Launch} {e : Env} {below : List Frame} {locs : List Loc} {cells slots pc : Nat} {ls : Array Slot} {rest : List Value} {Z : State → Prop} {j : Int32} (hin : vp_in j n) (d : decode (mt_b m) pc = .ok (.aastore, 1))
    (kk : ∀ H1 : Heap, H1.size = H.size → ma_R G (ma_set h a (.inl (.object (ct_R t), n, .inr (.inr (.inr (.inr (va_up f j.toNatClampNeg (some v)))))))) H1 → W p l e R s mi args below meth c H1 (locs ++ [⟨G.2.2.1 + a, j.toNatClampNeg⟩]) cells slots Z (F0 mi (pc + 1) ls rest)) :
    W p l e R s mi args below meth c H locs cells slots Z (F0 mi pc ls (.ref (G.2.2.1 + v) :: .int j :: .ref (G.2.2.1 + a) :: rest)) := by
  have hK := C.2.2.2.2.2.2.2.2.1
  obtain ⟨kA, comp, k1, k2, k3, k4⟩ := (hK.2 ti _ (ma_tysAt G hti)).2
  obtain ⟨cv, q1, q2, q3⟩ := va_recv (q := (ct_R ci, ct_T ci, ct_N ci)) hK (HR.obj hv hci) (q0 := 0) (ma_cl hci) rfl
  obtain ⟨kv, hkv⟩ := Vm.classAt_of_findClass q3
  have hin' : s.vm.assignable cv.cls comp = true := by
    by_cases hcc : ci = t
    · subst hcc
      cases q3.symm.trans k3
      exact va_asg _ _
    · obtain ⟨g1, g2, g3⟩ := hct.resolve_left hcc
      obtain ⟨c0, t0, f1, f2, f3⟩ := Cond.castable_spec (va_Nw.use (A := args) rfl (C.2.2.2.2.2.2.2.2.2.1.2.2.2.2.2.2.2.1 ci t g1 g2 g3 hcc))
      cases q3.symm.trans f1
      cases k3.symm.trans f2
      exact f3
  obtain ⟨kc, hkc⟩ := Vm.classAt_of_findClass k3
  have hlt := HR.lt (ma_no_arr ha)
  refine W.aast C.1 C.2.1 (HR.arr ha 0 _ rfl) (fun q h9 => by cases h9) (fun h9 => by cases h9) k1 k2 rfl hkc ⟨fun h9 => hin (Or.inl h9), ?_⟩ q1 (fun q h9 => by rw [h9] at q2; cases q2) hkv hin' rfl rfl d fun H1 e0 z oq => ?_
  · show _ < (arrV _ _ _).slots.size
    rw [arrV_size]
    exact Nat.not_le.mp fun h9 => hin (Or.inr h9)
  · refine kk H1 z (HR.put hlt z oq ?_)
    show H1[G.2.2.1 + a]? = some (vp_cell _ (n, .inr (.inr (.inr (.inr fun q => (va_up f j.toNatClampNeg (some v) q).map (fun k => G.2.2.1 + k))))))
    rw [e0]
    show some ((vp_cell _ (n, .inr (.inr (.inr (.inr fun q => (f q).map (fun k => G.2.2.1 + k)))))).setSlot _ _) = _
    rw [vp_cell_q, vp_cell_q, arrV_store]
    congr 2
    funext q
    by_cases hq : q = j.toNatClampNeg
    · subst hq
      simp [updV, va_up, va_rf]
    · simp [updV, va_up, hq]
theorem mr_aast {m pc : Nat} {b : Nat × Nat} {L : ma_L} {r : List Value} {h : ma_H} {Q : ma_Q} {a n ti t v ci : Nat} {f : Nat → Option Nat} {fs : List Value} {j : Int32} (ha : h.2.1 a = .inl (.object (ct_R t), n, .inr (.inr (.inr (.inr f))))) (hti : ma_tyl[ti]? = some (.object (ct_R t))) (hv : h.2.1 v = .inr (ci, fs)) (hci : ci < 13) (hct : ci = t ∨ (ma_gk ci = true ∧ ma_gk t = true ∧ ma_sub ci t = true)) (hin : vp_in j n) (d : decode (mt_b m) pc = .ok (.aastore, 1)) (k : ma_P m (pc + 1) b L r (ma_set h a (.inl (.object (ct_R t), n, .inr (.inr (.inr (.inr (va_up f j.toNatClampNeg (some v)))))))) Q) : ma_P m pc b L (.ref v :: .int j :: .ref a :: r) h Q := by
  intro G p l e R s mi args below meth c H locs cells slots ls Z C HR hz hlo h1 h2 hL hf
  exact ma_astore C HR ha hti hv hci hct hin d fun H1 z hR1 => k G p l e R s mi args below meth c H1 _ cells slots ls Z C hR1 (by rw [z]; exact hz) (ma_loc1 hlo) h1 h2 hL hf
theorem mr_aastN {m pc : Nat} {b : Nat × Nat} {L : ma_L} {r : List Value} {h : ma_H} {Q : ma_Q} {a n : Nat} {f : Nat → Option Nat} {j : Int32} (ha : h.2.1 a = .inl (.object "FlakeArms$Growth", n, .inr (.inr (.inr (.inr f))))) (hin : vp_in j n) (d : decode (mt_b m) pc = .ok (.aastore, 1)) (k : ma_P m (pc + 1) b L r (ma_set h a (.inl (.object "FlakeArms$Growth", n, .inr (.inr (.inr (.inr (va_up f j.toNatClampNeg none))))))) Q) : ma_P m pc b L (.null :: .int j :: .ref a :: r) h Q := by
  intro G p l e R s mi args below meth c H locs cells slots ls Z C HR hz hlo h1 h2 hL hf
  have hlt := HR.lt (ma_no_arr ha)
  refine va_WaastN (C := "FlakeArms$Growth") C.1 C.2.1 (HR.arr ha 0 _ rfl) ((C.2.2.2.2.2.2.2.2.1.2 5 _ (ma_tysAt G rfl)).1 n (fun q => va_rf ((f q).map (fun k => G.2.2.1 + k)))) (fun h9 => by cases h9) (by show ¬ (j < 0 ∨ (arrV _ _ _).slots.size ≤ _); rw [arrV_size]; exact hin) rfl rfl d fun H1 e0 z oq => ?_
  refine k G p l e R s mi args below meth c H1 _ cells slots ls Z C (HR.put hlt z oq ?_) (by rw [z]; exact hz) (ma_loc1 hlo) h1 h2 hL hf
  show H1[G.2.2.1 + a]? = some (vp_cell _ (n, .inr (.inr (.inr (.inr fun q => (va_up f j.toNatClampNeg none q).map (fun k => G.2.2.1 + k))))))
  rw [e0]
  show some ((vp_cell _ (n, .inr (.inr (.inr (.inr fun q => (f q).map (fun k => G.2.2.1 + k)))))).setSlot _ _) = _
  rw [vp_cell_q, vp_cell_q, arrV_store]
  congr 2
  funext q
  by_cases hq : q = j.toNatClampNeg
  · subst hq
    simp [updV, va_up, va_rf]
  · simp [updV, va_up, hq]
theorem mr_copyi {m pc i : Nat} {b : Nat × Nat} {L : ma_L} {r : List Value} {h : ma_H} {Q : ma_Q} {a0 a n0 n1 : Nat} {f g : Nat → Int32} {sp dp n : Int32} (he0 : h.2.1 a0 = .inl (.int, n0, .inl f)) (he : h.2.1 a = .inl (.int, n1, .inl g)) (g1 : ¬ sp < 0) (g2 : ¬ dp < 0) (g3 : ¬ n < 0) (g4 : sp.toNatClampNeg + n.toNatClampNeg ≤ n0) (g5 : dp.toNatClampNeg + n.toNatClampNeg ≤ n1) (hfit : ∀ i, i < n.toNatClampNeg → fits .int (.int (f (sp.toNatClampNeg + i))) = true) (hcs : (r.map fun v => v.category).sum ≤ 8) (hv : 2 ≤ mt_v m) (hw : Cond.methodLink (mt_y m).cls i arraycopyName ∈ lw_ok) (hw1 : Cond.native arraycopyName ∈ lw_ok) (hw2 : Cond.static arraycopyName ∈ lw_ok) (hw3 : Cond.initialized "java/lang/System" ∈ lw_ok) (d : decode (mt_b m) pc = .ok (.invokestatic i, 3)) (k : ma_P m (pc + 3) b L r (ma_set h a (.inl (.int, n1, .inl (va_cpy f g sp.toNatClampNeg dp.toNatClampNeg n.toNatClampNeg)))) Q) : ma_P m pc b L (.int n :: .int dp :: .ref a :: .int sp :: .ref a0 :: r) h Q := by
  intro G p l e R s mi args below meth c H locs cells slots ls Z C HR hz hlo h1 h2 hL hf
  obtain ⟨hexec, hb, hml, hown, hts, -, -, -, hK, -, -, hfr, hlo9⟩ := id C
  have hcs' : ((r.map (ma_v G)).map fun v => v.category).sum ≤ 8 := by rw [ma_cats]; exact hcs
  have hnf : nativeFrameWords "java/lang/System" "arraycopy" 5 ≤ 20 := by decide
  have nn : ∀ z : Int32, ¬ z < 0 → z.toInt = (z.toNatClampNeg : Int) := by
    intro z hz
    have hz0 : (0 : Int) ≤ z.toInt := by
      have := Int32.not_lt.mp hz
      simpa using Int32.le_iff_toInt_le.mp this
    show z.toInt = ((z.toInt.toNat : Nat) : Int)
    omega
  intro T hT X
  have hc0 : H[G.2.2.1 + a0]? = some (vp_cell (G.2.1 .int) (n0, .inl f)) := HR.arr he0 0 _ rfl
  have hc1 : H[G.2.2.1 + a]? = some (vp_cell (G.2.1 .int) (n1, .inl g)) := HR.arr he 0 _ rfl
  obtain ⟨-, k0, hk0, cm0, hkk0⟩ := (hK.2 0 _ (ma_tysAt G rfl)).1 n0 (fun j => .int (f j))
  obtain ⟨-, k1, hk1, cm1, hkk1⟩ := (hK.2 0 _ (ma_tysAt G rfl)).1 n1 (fun j => .int (g j))
  obtain ⟨vm', X', step⟩ := X.arraycopy hexec hown (hts _ hw) (hts _ hw1) (hts _ hw2) (hts _ hw3) (src := G.2.2.1 + a0) (dst := G.2.2.1 + a) (cs := vp_cell (G.2.1 .int) (n0, .inl f)) (cd := vp_cell (G.2.1 .int) (n1, .inl g)) (srcPos := sp) (destPos := dp) (n := n) (by rw [hT]; exact hc0) (by rw [hT]; exact hc1)
    (fun _ h => by cases h) (fun _ h => by cases h) (fun h => by cases h) (fun h => by cases h) hk0 hk1 hkk0 hkk1 (by simp [show refKind .int = false from rfl]) g1 g2 g3
    (by rw [nn sp g1, nn n g3]; show ¬ _ > ((arrV _ n0 (fun j => .int (f j))).slots.size : Int); rw [arrV_size]; omega)
    (by rw [nn dp g2, nn n g3]; show ¬ _ > ((arrV _ n1 (fun j => .int (g j))).slots.size : Int); rw [arrV_size]; omega)
    (fun vm₁ _ i hi => by
      have e : (vp_cell (G.2.1 .int) (n0, .inl f)).slots.getD (sp.toNatClampNeg + i) .null = .int (f (sp.toNatClampNeg + i)) := by
        show (arrV _ n0 (fun j => .int (f j))).slots.getD _ _ = _
        rw [Array.getD_eq_getD_getElem?, arrV_read _ _ (by omega)]
        rfl
      refine ⟨?_, ?_⟩
      · rw [e]
        exact hfit i hi
      · rw [e]
        exact trivial)
    (g := F0 mi pc ls ((Value.int n :: .int dp :: .ref a :: .int sp :: .ref a0 :: r).map (ma_v G))) rfl (by show ls.size = c.maxLocals; rw [hml]; exact hL.1) (rest := r.map (ma_v G)) rfl (by rw [hb]; exact d) (by omega) (by show 2 * 0 + _ + _ ≤ _; omega)
  have e1 : copied (vp_cell (G.2.1 .int) (n0, .inl f)) (vp_cell (G.2.1 .int) (n1, .inl g)) sp dp n = vp_cell (G.2.1 .int) (n1, .inl (va_cpy f g sp.toNatClampNeg dp.toNatClampNeg n.toNatClampNeg)) := va_copied (fun z => .int z) _ _ f g g4
  rw [e1] at X' step
  have hl : G.2.2.1 + a < H.size := (Array.getElem?_eq_some_iff.mp hc1).1
  have hheap : ((T.setVm vm').setCell (G.2.2.1 + a) (vp_cell (G.2.1 .int) (n1, .inl (va_cpy f g sp.toNatClampNeg dp.toNatClampNeg n.toNatClampNeg)))).heap = H.setIfInBounds (G.2.2.1 + a) (vp_cell (G.2.1 .int) (n1, .inl (va_cpy f g sp.toNatClampNeg dp.toNatClampNeg n.toNatClampNeg))) := by rw [← hT]; rfl
  have hsz : (H.setIfInBounds (G.2.2.1 + a) (vp_cell (G.2.1 .int) (n1, .inl (va_cpy f g sp.toNatClampNeg dp.toNatClampNeg n.toNatClampNeg)))).size = H.size := by simp
  obtain ⟨t, a1, b1⟩ := k G p l e R s mi args below meth c _ _ cells slots ls Z C (HR.put (H' := H.setIfInBounds (G.2.2.1 + a) (vp_cell (G.2.1 .int) (n1, .inl (va_cpy f g sp.toNatClampNeg dp.toNatClampNeg n.toNatClampNeg)))) (HR.lt (ma_no_arr he)) hsz (fun q hq => by simp [Array.getElem?_setIfInBounds, Ne.symm hq]) (show (H.setIfInBounds (G.2.2.1 + a) _)[G.2.2.1 + a]? = some _ by simp [Array.getElem?_setIfInBounds, hl]; rfl)) (by rw [hsz]; exact hz) (fun q hq => by
      rcases List.mem_append.mp hq with h9 | h9
      · exact hlo q h9
      · obtain ⟨z, -, hz9⟩ := List.mem_map.mp h9
        rw [← hz9]
        exact Nat.le_add_right _ _) h1 h2 hL hf _ hheap X'
  exact ⟨t, step t a1, b1⟩
theorem mr_copyb {m pc i : Nat} {b : Nat × Nat} {L : ma_L} {r : List Value} {h : ma_H} {Q : ma_Q} {a0 a n0 n1 : Nat} {f g : Nat → Int32} {sp dp n : Int32} (he0 : h.2.1 a0 = .inl (.byte, n0, .inl f)) (he : h.2.1 a = .inl (.byte, n1, .inl g)) (g1 : ¬ sp < 0) (g2 : ¬ dp < 0) (g3 : ¬ n < 0) (g4 : sp.toNatClampNeg + n.toNatClampNeg ≤ n0) (g5 : dp.toNatClampNeg + n.toNatClampNeg ≤ n1) (hfit : ∀ i, i < n.toNatClampNeg → fits .byte (.int (f (sp.toNatClampNeg + i))) = true) (hcs : (r.map fun v => v.category).sum ≤ 8) (hv : 2 ≤ mt_v m) (hw : Cond.methodLink (mt_y m).cls i arraycopyName ∈ lw_ok) (hw1 : Cond.native arraycopyName ∈ lw_ok) (hw2 : Cond.static arraycopyName ∈ lw_ok) (hw3 : Cond.initialized "java/lang/System" ∈ lw_ok) (d : decode (mt_b m) pc = .ok (.invokestatic i, 3)) (k : ma_P m (pc + 3) b L r (ma_set h a (.inl (.byte, n1, .inl (va_cpy f g sp.toNatClampNeg dp.toNatClampNeg n.toNatClampNeg)))) Q) : ma_P m pc b L (.int n :: .int dp :: .ref a :: .int sp :: .ref a0 :: r) h Q := by
  intro G p l e R s mi args below meth c H locs cells slots ls Z C HR hz hlo h1 h2 hL hf
  obtain ⟨hexec, hb, hml, hown, hts, -, -, -, hK, -, -, hfr, hlo9⟩ := id C
  have hcs' : ((r.map (ma_v G)).map fun v => v.category).sum ≤ 8 := by rw [ma_cats]; exact hcs
  have hnf : nativeFrameWords "java/lang/System" "arraycopy" 5 ≤ 20 := by decide
  have nn : ∀ z : Int32, ¬ z < 0 → z.toInt = (z.toNatClampNeg : Int) := by
    intro z hz
    have hz0 : (0 : Int) ≤ z.toInt := by
      have := Int32.not_lt.mp hz
      simpa using Int32.le_iff_toInt_le.mp this
    show z.toInt = ((z.toInt.toNat : Nat) : Int)
    omega
  intro T hT X
  have hc0 : H[G.2.2.1 + a0]? = some (vp_cell (G.2.1 .byte) (n0, .inl f)) := HR.arr he0 0 _ rfl
  have hc1 : H[G.2.2.1 + a]? = some (vp_cell (G.2.1 .byte) (n1, .inl g)) := HR.arr he 0 _ rfl
  obtain ⟨-, k0, hk0, cm0, hkk0⟩ := (hK.2 2 _ (ma_tysAt G rfl)).1 n0 (fun j => .int (f j))
  obtain ⟨-, k1, hk1, cm1, hkk1⟩ := (hK.2 2 _ (ma_tysAt G rfl)).1 n1 (fun j => .int (g j))
  obtain ⟨vm', X', step⟩ := X.arraycopy hexec hown (hts _ hw) (hts _ hw1) (hts _ hw2) (hts _ hw3) (src := G.2.2.1 + a0) (dst := G.2.2.1 + a) (cs := vp_cell (G.2.1 .byte) (n0, .inl f)) (cd := vp_cell (G.2.1 .byte) (n1, .inl g)) (srcPos := sp) (destPos := dp) (n := n) (by rw [hT]; exact hc0) (by rw [hT]; exact hc1)
    (fun _ h => by cases h) (fun _ h => by cases h) (fun h => by cases h) (fun h => by cases h) hk0 hk1 hkk0 hkk1 (by simp [show refKind .byte = false from rfl]) g1 g2 g3
    (by rw [nn sp g1, nn n g3]; show ¬ _ > ((arrV _ n0 (fun j => .int (f j))).slots.size : Int); rw [arrV_size]; omega)
    (by rw [nn dp g2, nn n g3]; show ¬ _ > ((arrV _ n1 (fun j => .int (g j))).slots.size : Int); rw [arrV_size]; omega)
    (fun vm₁ _ i hi => by
      have e : (vp_cell (G.2.1 .byte) (n0, .inl f)).slots.getD (sp.toNatClampNeg + i) .null = .int (f (sp.toNatClampNeg + i)) := by
        show (arrV _ n0 (fun j => .int (f j))).slots.getD _ _ = _
        rw [Array.getD_eq_getD_getElem?, arrV_read _ _ (by omega)]
        rfl
      refine ⟨?_, ?_⟩
      · rw [e]
        exact hfit i hi
      · rw [e]
        exact trivial)
    (g := F0 mi pc ls ((Value.int n :: .int dp :: .ref a :: .int sp :: .ref a0 :: r).map (ma_v G))) rfl (by show ls.size = c.maxLocals; rw [hml]; exact hL.1) (rest := r.map (ma_v G)) rfl (by rw [hb]; exact d) (by omega) (by show 2 * 0 + _ + _ ≤ _; omega)
  have e1 : copied (vp_cell (G.2.1 .byte) (n0, .inl f)) (vp_cell (G.2.1 .byte) (n1, .inl g)) sp dp n = vp_cell (G.2.1 .byte) (n1, .inl (va_cpy f g sp.toNatClampNeg dp.toNatClampNeg n.toNatClampNeg)) := va_copied (fun z => .int z) _ _ f g g4
  rw [e1] at X' step
  have hl : G.2.2.1 + a < H.size := (Array.getElem?_eq_some_iff.mp hc1).1
  have hheap : ((T.setVm vm').setCell (G.2.2.1 + a) (vp_cell (G.2.1 .byte) (n1, .inl (va_cpy f g sp.toNatClampNeg dp.toNatClampNeg n.toNatClampNeg)))).heap = H.setIfInBounds (G.2.2.1 + a) (vp_cell (G.2.1 .byte) (n1, .inl (va_cpy f g sp.toNatClampNeg dp.toNatClampNeg n.toNatClampNeg))) := by rw [← hT]; rfl
  have hsz : (H.setIfInBounds (G.2.2.1 + a) (vp_cell (G.2.1 .byte) (n1, .inl (va_cpy f g sp.toNatClampNeg dp.toNatClampNeg n.toNatClampNeg)))).size = H.size := by simp
  obtain ⟨t, a1, b1⟩ := k G p l e R s mi args below meth c _ _ cells slots ls Z C (HR.put (H' := H.setIfInBounds (G.2.2.1 + a) (vp_cell (G.2.1 .byte) (n1, .inl (va_cpy f g sp.toNatClampNeg dp.toNatClampNeg n.toNatClampNeg)))) (HR.lt (ma_no_arr he)) hsz (fun q hq => by simp [Array.getElem?_setIfInBounds, Ne.symm hq]) (show (H.setIfInBounds (G.2.2.1 + a) _)[G.2.2.1 + a]? = some _ by simp [Array.getElem?_setIfInBounds, hl]; rfl)) (by rw [hsz]; exact hz) (fun q hq => by
      rcases List.mem_append.mp hq with h9 | h9
      · exact hlo q h9
      · obtain ⟨z, -, hz9⟩ := List.mem_map.mp h9
        rw [← hz9]
        exact Nat.le_add_right _ _) h1 h2 hL hf _ hheap X'
  exact ⟨t, step t a1, b1⟩
theorem ma_outer (c : ClassId) (N h0 : Nat) : ∀ i : Nat, Jvm.Free.Multi.outerC c N h0 i = arrV c N (fun j => va_rf (if j < i then some (h0 + 1 + j) else none))
  | 0 => by
    show ({ cls := c, slots := Array.replicate N .null, vm := .none } : Cell) = _
    rw [arrV_new]
    exact congrArg (arrV c N) (funext fun j => by simp [va_rf])
  | i + 1 => by
    show (Jvm.Free.Multi.outerC c N h0 i).setSlot i (.ref (h0 + 1 + i)) = _
    rw [ma_outer c N h0 i, arrV_store]
    refine congrArg (arrV c N) (funext fun j => ?_)
    by_cases e : j = i
    · subst e
      simp [updV, va_rf]
    · by_cases h : j < i
      · simp [updV, e, h, Nat.lt_succ_of_lt h]
      · simp [updV, e, h, show ¬ j < i + 1 by omega]
def ma_new2 (h : ma_H) (N K : Nat) : ma_H := (h.1 + 1 + N, fun q => if q = h.1 then .inl (.array .int, N, .inr (.inr (.inr (.inr (fun j => if j < N then some (h.1 + 1 + j) else none))))) else if h.1 < q ∧ q < h.1 + 1 + N then .inl (.int, K, .inl (fun _ => 0)) else h.2.1 q, h.2.2)
theorem mr_mna {m pc i : Nat} {b b' : Nat × Nat} {L : ma_L} {r : List Value} {h : ma_H} {Q : ma_Q} {N K : Nat} (hN : N < 1000) (hK : K < 1000) (hw : Cond.classLink (mt_y m).cls i "[[I" ∈ lw_ok) (hw3 : Cond.arrayClass .int ∈ lw_ok) (hb : b'.1 + (1 + N) = b.1 ∧ b'.2 + (N + N * K) = b.2) (d : decode (mt_b m) pc = .ok (.multianewarray i 2, 4)) (k : ma_P m (pc + 4) b' L (.ref h.1 :: r) (ma_new2 h N K) Q) : ma_P m pc b L (.int (nI K) :: .int (nI N) :: r) h Q := by
  intro G p l e R s mi args below meth c H locs cells slots ls Z C HR hz hlo h1 h2 hL hf
  obtain ⟨hexec, hbc, hml, hown, hts, -, -, -, hKK, -, -, hfr, hlo9⟩ := id C
  have hN31 : N < 2 ^ 31 := Nat.lt_of_lt_of_le hN (Nat.le_of_ble_eq_true rfl)
  have hK31 : K < 2 ^ 31 := Nat.lt_of_lt_of_le hK (Nat.le_of_ble_eq_true rfl)
  have eN : (nI N).toNatClampNeg = N := nI_clamp hN31
  have eK : (nI K).toNatClampNeg = K := nI_clamp hK31
  intro T hT X
  obtain ⟨vm₁, cA, comp, -, fA, fC, hO, -, X', step⟩ := X.multianewarray2F (ty := .int) hexec hown (hts _ hw) (ma_over (by simp) (State.WarmedH.refl s) (C.2.2.2.2.2.2.2.2.2.1.2.2.2.2.2.2.2.2 _ (by simp))) (hts _ hw3) (g := F0 mi pc ls ((Value.int (nI K) :: .int (nI N) :: r).map (ma_v G))) rfl (by rw [hbc]; exact d) rfl (nI_pos hN31) (nI_pos hK31) (by rw [eN]; omega) (by rw [eK]; show K * 4 ≤ _; omega) (by rw [eK]; omega) rfl rfl (by rw [eN]; omega) (by rw [eN, eK]; omega)
  rw [eN, eK] at X' step
  have ecy : comp = G.2.1 .int := Option.some.inj (fC.symm.trans (hKK.2 0 _ (ma_tysAt G rfl)).2)
  have ecA : cA = G.2.1 (.array .int) := Option.some.inj (fA.symm.trans (hKK.2 6 _ (ma_tysAt G rfl)).2)
  subst ecy
  subst ecA
  generalize hF : Jvm.Free.Multi.fill (T.setVm vm₁) (G.2.1 (.array .int)) (G.2.1 .int) N K (defaultValue .int) N = F at X' step
  have hTh : (T.setVm vm₁).heap = H := hT
  obtain ⟨f1, f2, -, -⟩ := Jvm.Free.Multi.fill_facts (T.setVm vm₁) (G.2.1 (.array .int)) (G.2.1 .int) N K (defaultValue .int) N
  rw [hF, hTh] at f1 f2
  have hold : ∀ x : Nat, x < H.size → F.heap[x]? = H[x]? := fun x hx => by
    have := Jvm.Free.Multi.fill_old (T.setVm vm₁) (G.2.1 (.array .int)) (G.2.1 .int) N K (defaultValue .int) (a := x) (by rw [hTh]; exact hx) N
    rw [hF, hTh] at this
    exact this
  have hrow : ∀ j : Nat, j < N → F.heap[H.size + 1 + j]? = some (vp_cell (G.2.1 .int) (K, .inl (fun _ => 0))) := fun j hj => by
    have := Jvm.Free.Multi.fill_inner (T.setVm vm₁) (G.2.1 (.array .int)) (G.2.1 .int) N K (defaultValue .int) N j hj
    rw [hF, hTh] at this
    rw [this, vp_cell_i, ← arrV_new]
    rfl
  rw [ma_outer] at f2
  have hs := HR.1
  have hRn : ma_R G (ma_new2 h N K) F.heap := by
    refine ⟨by rw [f1]; show H.size + 1 + N = G.2.2.1 + (h.1 + 1 + N); omega, fun q hq => (hold q (by omega)).trans (HR.2.1 q hq), fun q hq => ?_, fun q hq => ?_, HR.2.2.2.2⟩
    · have hq' : q < h.1 + 1 + N := hq
      show va_at G.1 classes (G.2.2.1 + q, ma_c G (if q = h.1 then _ else if h.1 < q ∧ q < h.1 + 1 + N then _ else h.2.1 q)) F.heap
      by_cases e1 : q = h.1
      · rw [if_pos e1, e1, ← hs]
        show F.heap[H.size]? = some (vp_cell _ (N, .inr (.inr (.inr (.inr fun j => (if j < N then some (h.1 + 1 + j) else none).map (fun k => G.2.2.1 + k))))))
        rw [f2, vp_cell_q]
        refine congrArg some (congrArg (arrV _ N) (funext fun j => ?_))
        by_cases hj : j < N
        · rw [if_pos hj, if_pos hj]
          exact congrArg Value.ref (by rw [hs]; simp only [Nat.add_assoc])
        · rw [if_neg hj, if_neg hj]; rfl
      · rw [if_neg e1]
        by_cases e2 : h.1 < q ∧ q < h.1 + 1 + N
        · rw [if_pos e2]
          have e3 := hrow (q - h.1 - 1) (by omega)
          show F.heap[G.2.2.1 + q]? = some (vp_cell _ (K, .inl (fun _ => 0)))
          rw [← e3]
          congr 1
          omega
        · rw [if_neg e2]
          exact (HR.2.2.1 q (by omega)).kept (hold _ (by show G.2.2.1 + q < H.size; omega))
    · have hq' : h.1 + 1 + N ≤ q := hq
      show (if q = h.1 then _ else if h.1 < q ∧ q < h.1 + 1 + N then _ else h.2.1 q) = ma_no
      rw [if_neg (by omega), if_neg (by omega)]
      exact HR.2.2.2.1 q (by omega)
  obtain ⟨t, a1, b1⟩ := k G p l e R s mi args below meth c F.heap locs _ _ ls Z C hRn (by rw [f1]; omega) hlo (by omega) (by omega) hL (fun pc' ls' st' r' h' H' locs' cells' slots' a1 a2 a3 a4 a5 a6 a7 => hf pc' ls' st' r' h' H' locs' cells' slots' a1 a2 a3 a4 a5 (by omega) (by omega)) F rfl X'
  refine ⟨t, step t ?_, b1⟩
  have e : T.heap.size = H.size := by rw [hT]
  rw [e, hs]
  exact a1
