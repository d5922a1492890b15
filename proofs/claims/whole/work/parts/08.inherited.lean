/-! THE ABSTRACT MACHINE's ROWS: a static method, a superclass' method, that the named class only inherits -/
theorem mr_staticU {m m' pc i : Nat} {b b' : Nat × Nat} {L : ma_L} {r as : List Value} {h : ma_H} {Q : ma_Q} (hm : mt_in m') (hv : mt_v m' + 1 ≤ mt_v m) (hn : ma_np (mt_y m').desc as.length) (hcs : (r.map fun v => v.category).sum ≤ 8) (hb : b'.1 + (mt_c m').1 = b.1 ∧ b'.2 + (mt_c m').2 = b.2) {x : MethodName} (hx : mt_y m' = ⟨(mt_y m').cls, x.name, x.desc⟩) (hw : Cond.methodLink (mt_y m).cls i x ∈ lw_ok) (hw1 : Cond.sameMethod x.cls (mt_y m').cls x.name x.desc ∈ lw_ok) (hw2 : Cond.static (mt_y m') ∈ lw_ok) (d : decode (mt_b m) pc = .ok (.invokestatic i, 3)) (k : ma_X m' as h (fun v h' => ma_P m (pc + 3) b' L (v.toList ++ r) h' Q)) : ma_P m pc b L (as.reverse ++ r) h Q := by
  intro G p l e R s mi args below meth c H locs cells slots ls Z C HR hz hlo h1 h2 hL hf
  obtain ⟨hexec, hbc, hml, hown, hts, -, -, -, hKK, -, -, hfr, hlo9⟩ := id C
  obtain ⟨p1, p2, p3, p4⟩ := mt_plain m' (mt_lt hm)
  have hini := hts _ (mt_init2 hm)
  have hcode := hts _ (mt_code2 hm)
  have hK : Back l R p e below s args (mt_y m') 3 8 (PreOf R (mt_c m').1 (mt_c m').2 (ma_pre G as h)) (PostOf (ma_post G (fun v h' => ma_P m (pc + 3) b' L (v.toList ++ r) h' Q)) (mt_c m').1 (mt_c m').2 (fun q => G.2.2.1 ≤ q)) :=
    back_of (bytes := mt_b m') (maxL := mt_n m') (ret := mt_r m') (k G l) (ma_pre_blind G _ h) rfl rfl (show mt_v m' + 1 ≤ R.frames by omega) (show 8 + (mt_n m' + 11) + 40 * mt_v m' ≤ R.locals by omega) (pay_in hts (ma_good hm)) List.mem_cons_self (fun a' U hW => word_at hW (Or.inl (by first | rfl | simp [Cond.onTables, Cond.keeps, Cond.steady])) hini)
  refine ma_back (r := r) (a9 := (as.map (ma_v G)).toArray) C hz hlo h1 h2 hL hb ?_ hf
  intro T hT X
  obtain ⟨mk, hnamed⟩ := Cond.code_named hcode
  obtain ⟨methM, cM, hmethM, -, -, -, -, -, -, hsigM⟩ := Cond.code_spec hnamed hcode
  have hstatic : methM.isStatic = true := Cond.static_spec hnamed hmethM (hts _ hw2)
  obtain ⟨kP, hkP, -⟩ := className_of_methodNamed hnamed
  have hinitP : kP.init = .initialized := Cond.initialized_spec (findClass_of_methodNamed hnamed) hkP hini
  have hnamed' : s.methodNamed? ⟨(mt_y m').cls, x.name, x.desc⟩ = some mk := by rw [← hx]; exact hnamed
  obtain ⟨vm₁, X₁, hstep₁⟩ := X.invokestaticUp hexec hown (hts _ hw) (hts _ hw1) ⟨p1, p2⟩ hnamed' hmethM hstatic hkP hinitP (g := F0 mi pc ls ((as.reverse ++ r).map (ma_v G))) rfl (argsL := as.map (ma_v G)) (rest := r.map (ma_v G)) (by rw [List.length_map]; exact hn.len _ hsigM) (ma_stk G _ _) (by rw [hbc]; exact d)
  obtain ⟨v, ⟨U', l2, c2, s2⟩, X', ⟨g', mk', t, Lq, e1, e2, hq, hl1, hLq, hl2, hl3⟩, hsteps⟩ := hK mi meth c ⟨T.setVm vm₁, locs, cells, slots⟩ { F0 mi pc ls ((as.reverse ++ r).map (ma_v G)) with stack := r.map (ma_v G) } (.invokestatic i) mk (as.map (ma_v G)).toArray X₁ rfl (by show ls.size = c.maxLocals; rw [hml]; exact hL.1) (by rw [hbc]; exact d) (lv_room (by rw [ma_cats]; exact hcs)) (X₁.named hnamed) ⟨by show cells + _ ≤ _; omega, by show slots + _ ≤ _; omega, ((ma_preS C HR as).2 (T.setVm vm₁) hT X₁.warmed)⟩
  dsimp only [Pt.U, Pt.locs, Pt.cells, Pt.slots] at X' e1 e2 hl1 hl2 hl3 hsteps
  subst hl1; subst hl2; subst hl3
  exact ⟨v, (T.setVm vm₁).calling g' mk' (as.map (ma_v G)).toArray, t, U', Lq, hT, X', hLq, e1, e2, hq, fun target h9 => hstep₁ _ fun acts => by rw [doInvoke_state]; exact hsteps.trans h9⟩
theorem ma_findName {vm : Vm} {n : String} {c : ClassId} (h : vm.findClass n = some c) : ∃ k, vm.classes[c]? = some k ∧ k.name = n := by
  unfold Vm.findClass at h
  obtain ⟨hlt, hp, -⟩ := Array.findIdx?_eq_some_iff_getElem.mp h
  refine ⟨vm.classes[c], Array.getElem?_eq_getElem hlt, ?_⟩
  simp only [Bool.and_eq_true, beq_iff_eq] at hp
  exact hp.1.1.1
theorem ma_subc {s : State} {args : Array Value} {A B : String} {a b : ClassId} (ha : s.vm.findClass A = some a) (hb : s.vm.findClass B = some b) (hne : A ≠ B) (h : (Cond.superclass A B).before args s = true ∨ ∃ D, D ≠ B ∧ D ≠ A ∧ (Cond.superclass A D).before args s = true ∧ (Cond.superclass D B).before args s = true) : s.vm.isSubclass a b = true := by
  have lt : ∀ {n c}, s.vm.findClass n = some c → c < s.vm.classes.size := fun h => by
    obtain ⟨k, hk, -⟩ := ma_findName h
    exact (Array.getElem?_eq_some_iff.mp hk).1
  have diff : ∀ {n n' c c'}, s.vm.findClass n = some c → s.vm.findClass n' = some c' → n ≠ n' → c ≠ c' := fun h h' hn e => by
    subst e
    obtain ⟨k, hk, e1⟩ := ma_findName h
    obtain ⟨k', hk', e2⟩ := ma_findName h'
    cases hk.symm.trans hk'
    exact hn (e1.symm.trans e2)
  have hl : @LT.lt Nat _ a s.vm.classes.size := lt ha
  have hl2 : @LT.lt Nat _ b s.vm.classes.size := lt hb
  have hd : @Ne Nat a b := diff ha hb hne
  unfold Vm.isSubclass
  rcases h with h | ⟨D, hD, hDA, h, h'⟩
  · obtain ⟨p, k, kp, q1, q2, q3, q4, -⟩ := Cond.superclass_spec ha h
    cases hb.symm.trans q1
    obtain ⟨n, hn⟩ : ∃ n, s.vm.classes.size = n + 1 := ⟨s.vm.classes.size - 1, by omega⟩
    rw [hn]
    simp [Vm.isSubclassAux, q2, q4]
  · obtain ⟨p, k, kp, q1, q2, q3, q4, -⟩ := Cond.superclass_spec ha h
    obtain ⟨p', k', kp', r1, r2, r3, r4, -⟩ := Cond.superclass_spec q1 h'
    cases hb.symm.trans r1
    have hd2 : @Ne Nat p b := diff q1 hb hD
    have hd3 : @Ne Nat p a := diff q1 ha hDA
    have hl3 : @LT.lt Nat _ p s.vm.classes.size := lt q1
    obtain ⟨n, hn⟩ : ∃ n, s.vm.classes.size = n + 2 := ⟨s.vm.classes.size - 2, by omega⟩
    rw [hn]
    simp [Vm.isSubclassAux, q2, q4, r2, r4]
theorem mr_superU {m m' pc i : Nat} {b b' : Nat × Nat} {L : ma_L} {r as : List Value} {h : ma_H} {Q : ma_Q} (hm : mt_in m') (hv : mt_v m' + 1 ≤ mt_v m) (hn : ma_np (mt_y m').desc as.length) (hcs : (r.map fun v => v.category).sum ≤ 8) (hb : b'.1 + (mt_c m').1 = b.1 ∧ b'.2 + (mt_c m').2 = b.2) {a ci : Nat} {fs : List Value} (he : h.2.1 a = .inr (ci, fs)) (hci : ci < 13) {x : MethodName} (hx : mt_y m' = ⟨(mt_y m').cls, x.name, x.desc⟩) (hw : Cond.methodLink (mt_y m).cls i x ∈ lw_ok) (hw1 : Cond.sameMethod x.cls (mt_y m').cls x.name x.desc ∈ lw_ok) (hw2 : Cond.instanceMethod (mt_y m') ∈ lw_ok) (hw3 : Cond.superclass (mt_y m).cls x.cls ∈ lw_ok) (hne : x.cls ≠ (mt_y m').cls) (hw4 : Cond.superclass x.cls (mt_y m').cls ∈ lw_ok ∨ ∃ D, D ≠ (mt_y m').cls ∧ D ≠ x.cls ∧ Cond.superclass x.cls D ∈ lw_ok ∧ Cond.superclass D (mt_y m').cls ∈ lw_ok) (hno : x.name ≠ "<init>") (d : decode (mt_b m) pc = .ok (.invokespecial i, 3)) (k : ma_X m' (.ref a :: as) h (fun v h' => ma_P m (pc + 3) b' L (v.toList ++ r) h' Q)) : ma_P m pc b L (as.reverse ++ .ref a :: r) h Q := by
  intro G p l e R s mi args below meth c H locs cells slots ls Z C HR hz hlo h1 h2 hL hf
  obtain ⟨hexec, hbc, hml, hown, hts, -, -, -, hKK, -, -, hfr, hlo9⟩ := id C
  obtain ⟨p1, p2, p3, p4⟩ := mt_plain m' (mt_lt hm)
  have hini := hts _ (mt_init2 hm)
  have hcode := hts _ (mt_code2 hm)
  have hK : Back l R p e below s args (mt_y m') 3 8 (PreOf R (mt_c m').1 (mt_c m').2 (ma_pre G (.ref a :: as) h)) (PostOf (ma_post G (fun v h' => ma_P m (pc + 3) b' L (v.toList ++ r) h' Q)) (mt_c m').1 (mt_c m').2 (fun q => G.2.2.1 ≤ q)) :=
    back_of (bytes := mt_b m') (maxL := mt_n m') (ret := mt_r m') (k G l) (ma_pre_blind G _ h) rfl rfl (show mt_v m' + 1 ≤ R.frames by omega) (show 8 + (mt_n m' + 11) + 40 * mt_v m' ≤ R.locals by omega) (pay_in hts (ma_good hm)) List.mem_cons_self (fun a' U hW => word_at hW (Or.inl (by first | rfl | simp [Cond.onTables, Cond.keeps, Cond.steady])) hini)
  refine ma_back (r := r) (a9 := (((Value.ref a :: as).map (ma_v G))).toArray) C hz hlo h1 h2 hL hb ?_ hf
  intro T hT X
  obtain ⟨mk, methM, hnamed, hmethM, hstM, habM⟩ := Cond.instanceMethod_spec (hts _ hw2)
  obtain ⟨methM', cM, hmethM', -, -, -, -, -, -, hsigM⟩ := Cond.code_spec hnamed hcode
  cases hmethM.symm.trans hmethM'
  obtain ⟨ps, dk, kp, hps, hdk, hkp, hsuper, -, -, hnid⟩ := Cond.superclass_spec hown (hts _ hw3)
  have hnamed' : s.methodNamed? ⟨(mt_y m').cls, x.name, x.desc⟩ = some mk := by rw [← hx]; exact hnamed
  have hsub : s.vm.isSubclass ps mk.cls = true := ma_subc hps (findClass_of_methodNamed hnamed) hne (hw4.elim (fun q => Or.inl (hts _ q)) (fun ⟨D, q1, q2, q3, q4⟩ => Or.inr ⟨D, q1, q2, hts _ q3, hts _ q4⟩))
  obtain ⟨-, ⟨cellB, hcB, hoB, hclB⟩, hPc⟩ := ma_preV C HR he hci as
  obtain ⟨kB, hkB⟩ := Vm.classAt_of_findClass hclB
  obtain ⟨vm₁, X₁, hstep₁⟩ := X.invokespecialUp hexec hown (hts _ hw) (hts _ hw1) hnamed' hmethM hstM habM hno hdk hnid hps hsuper hsub (a := G.2.2.1 + a) (cell := cellB) (by rw [hT]; exact hcB)
    (fun z h9 => by rw [h9] at hoB; cases hoB) hkB (g := F0 mi pc ls ((as.reverse ++ .ref a :: r).map (ma_v G))) rfl (argsL := as.map (ma_v G)) (rest := r.map (ma_v G)) (by rw [List.length_map]; exact hn.len _ hsigM) (ma_stk G as (.ref a :: r)) (by rw [hbc]; exact d)
  obtain ⟨v, ⟨U', l2, c2, s2⟩, X', ⟨g', mk', t, Lq, e1, e2, hq, hl1, hLq, hl2, hl3⟩, hsteps⟩ := hK mi meth c ⟨T.setVm vm₁, locs, cells, slots⟩ { F0 mi pc ls ((as.reverse ++ .ref a :: r).map (ma_v G)) with stack := r.map (ma_v G) } (.invokespecial i) mk (Value.ref (G.2.2.1 + a) :: as.map (ma_v G)).toArray X₁ rfl (by show ls.size = c.maxLocals; rw [hml]; exact hL.1) (by rw [hbc]; exact d) (lv_room (by rw [ma_cats]; exact hcs)) (X₁.named hnamed) ⟨by show cells + _ ≤ _; omega, by show slots + _ ≤ _; omega, (hPc (T.setVm vm₁) hT X₁.warmed)⟩
  dsimp only [Pt.U, Pt.locs, Pt.cells, Pt.slots] at X' e1 e2 hl1 hl2 hl3 hsteps
  subst hl1; subst hl2; subst hl3
  exact ⟨v, (T.setVm vm₁).calling g' mk' (Value.ref (G.2.2.1 + a) :: as.map (ma_v G)).toArray, t, U', Lq, hT, X', hLq, e1, e2, hq, fun target h9 => hstep₁ _ (by rw [doInvoke_state]; exact hsteps.trans h9)⟩
