/-! THE ABSTRACT MACHINE's ROWS: fields, arrays, statics, what is made -/
theorem ma_cl {ci : Nat} (hci : ci < 13) : classes[ci]? = some (ct_R ci, ct_T ci, ct_N ci) := match ci, hci with
  | 0, _ => rfl
  | 1, _ => rfl
  | 2, _ => rfl
  | 3, _ => rfl
  | 4, _ => rfl
  | 5, _ => rfl
  | 6, _ => rfl
  | 7, _ => rfl
  | 8, _ => rfl
  | 9, _ => rfl
  | 10, _ => rfl
  | 11, _ => rfl
  | 12, _ => rfl
  | n + 13, hci => absurd hci (by omega)
theorem ma_in {ci : Nat} (hci : ci < 13) : ∀ w ∈ u_ws (ct_R ci) (ct_T ci) (ct_N ci), w ∈ lw_ok := match ci, hci with
  | 0, _ => ct_i0
  | 1, _ => ct_i1
  | 2, _ => ct_i2
  | 3, _ => ct_i3
  | 4, _ => ct_i4
  | 5, _ => ct_i5
  | 6, _ => ct_i6
  | 7, _ => ct_i7
  | 8, _ => ct_i8
  | 9, _ => ct_i9
  | 10, _ => ct_i10
  | 11, _ => ct_i11
  | 12, _ => ct_i12
  | n + 13, hci => absurd hci (by omega)
theorem ma_nm {ci : Nat} (hci : ci < 13) : ∀ a, a < ct_N ci → ∀ b, b < ct_N ci → a ≠ b → (ct_T ci a).2.1 ≠ (ct_T ci b).2.1 := match ci, hci with
  | 0, _ => ct_n0
  | 1, _ => ct_n1
  | 2, _ => ct_n2
  | 3, _ => ct_n3
  | 4, _ => ct_n4
  | 5, _ => ct_n5
  | 6, _ => ct_n6
  | 7, _ => ct_n7
  | 8, _ => ct_n8
  | 9, _ => ct_n9
  | 10, _ => ct_n10
  | 11, _ => ct_n11
  | 12, _ => ct_n12
  | n + 13, hci => absurd hci (by omega)
theorem ma_tk {ci : Nat} (hci : ci < 13) : ∀ k, k < ct_N ci → parseFieldDescriptor (ct_T ci k).2.2.1 = some (ct_ty ci k) := match ci, hci with
  | 0, _ => ct_k0
  | 1, _ => ct_k1
  | 2, _ => ct_k2
  | 3, _ => ct_k3
  | 4, _ => ct_k4
  | 5, _ => ct_k5
  | 6, _ => ct_k6
  | 7, _ => ct_k7
  | 8, _ => ct_k8
  | 9, _ => ct_k9
  | 10, _ => ct_k10
  | 11, _ => ct_k11
  | 12, _ => ct_k12
  | n + 13, hci => absurd hci (by omega)
theorem ma_dk {ci : Nat} (hci : ci < 13) : ∀ k, k < ct_N ci → defaultValue (ct_ty ci k) = (ct_d ci).getD k .null := match ci, hci with
  | 0, _ => by decide +kernel
  | 1, _ => by decide +kernel
  | 2, _ => by decide +kernel
  | 3, _ => by decide +kernel
  | 4, _ => by decide +kernel
  | 5, _ => by decide +kernel
  | 6, _ => by decide +kernel
  | 7, _ => by decide +kernel
  | 8, _ => by decide +kernel
  | 9, _ => by decide +kernel
  | 10, _ => by decide +kernel
  | 11, _ => by decide +kernel
  | 12, _ => by decide +kernel
  | n + 13, hci => absurd hci (by omega)
theorem ma_R.lt {G : ma_G} {h : ma_H} {H : Heap} (HR : ma_R G h H) {a : Nat} (hc : h.2.1 a ≠ ma_no) : a < h.1 := by
  rcases Nat.lt_or_ge a h.1 with q | q
  · exact q
  · exact absurd (HR.2.2.2.1 a q) hc
theorem ma_no_obj {h : ma_H} {a ci : Nat} {fs : List Value} (e : h.2.1 a = .inr (ci, fs)) (hci : ci < 13) : h.2.1 a ≠ ma_no := by
  rw [e]
  intro q
  have : ci = 99 := by injection q with q; injection q
  omega
theorem ma_no_arr {h : ma_H} {a : Nat} {ty : FieldType} {x : vp_A} (e : h.2.1 a = .inl (ty, x)) : h.2.1 a ≠ ma_no := by
  rw [e]
  intro q
  cases q
theorem ma_one {D : va_G} {cl : List vw_C} {q : Nat × va_E} {H : Heap} (h : va_at D cl q H) : va_P D cl [q] H := by
  intro k x hx
  cases k with
  | zero => cases hx; exact h
  | succ k => cases hx
theorem ma_R.obj {G : ma_G} {h : ma_H} {H : Heap} (HR : ma_R G h H) {a ci : Nat} {fs : List Value} (e : h.2.1 a = .inr (ci, fs)) (hci : ci < 13) : va_P G.1 classes [(G.2.2.1 + a, .inr (ci, fs.map (ma_v G)))] H := by
  have q := HR.2.2.1 a (HR.lt (ma_no_obj e hci))
  rw [e] at q
  exact ma_one q
theorem ma_R.arr {G : ma_G} {h : ma_H} {H : Heap} (HR : ma_R G h H) {a : Nat} {ty : FieldType} {x : vp_A} (e : h.2.1 a = .inl (ty, x)) : va_P G.1 classes [(G.2.2.1 + a, .inl (G.2.1 ty, ma_a G x))] H := by
  have q := HR.2.2.1 a (HR.lt (ma_no_arr e))
  rw [e] at q
  exact ma_one q
theorem ma_R.put {G : ma_G} {h : ma_H} {H H' : Heap} (HR : ma_R G h H) {a : Nat} {c : ma_C} (hlt : a < h.1) (z : H'.size = H.size) (oq : ∀ q : Nat, q ≠ G.2.2.1 + a → H'[q]? = H[q]?) (hat : va_at G.1 classes (G.2.2.1 + a, ma_c G c) H') : ma_R G (ma_set h a c) H' := by
  refine ⟨by rw [z]; exact HR.1, fun q hq => (oq q (by omega)).trans (HR.2.1 q hq), fun k hk => ?_, fun k hk => ?_, HR.2.2.2.2⟩
  · show va_at G.1 classes (G.2.2.1 + k, ma_c G (if k = a then c else h.2.1 k)) H'
    by_cases e : k = a
    · rw [if_pos e, e]; exact hat
    · rw [if_neg e]
      exact (HR.2.2.1 k hk).kept (oq _ (by show G.2.2.1 + k ≠ G.2.2.1 + a; omega))
  · show (if k = a then c else h.2.1 k) = ma_no
    have hk' : h.1 ≤ k := hk
    rw [if_neg (by omega)]
    exact HR.2.2.2.1 k hk'
theorem ma_R.push {G : ma_G} {h : ma_H} {H H' : Heap} (HR : ma_R G h H) {c : ma_C} (z : H'.size = H.size + 1) (oq : ∀ q : Nat, q < H.size → H'[q]? = H[q]?) (hat : va_at G.1 classes (H.size, ma_c G c) H') : ma_R G (ma_new h c) H' := by
  have hs := HR.1
  refine ⟨by show H'.size = G.2.2.1 + (h.1 + 1); omega, fun q hq => (oq q (by omega)).trans (HR.2.1 q hq), fun k hk => ?_, fun k hk => ?_, HR.2.2.2.2⟩
  · show va_at G.1 classes (G.2.2.1 + k, ma_c G (if k = h.1 then c else h.2.1 k)) H'
    have hk' : k < h.1 + 1 := hk
    by_cases e : k = h.1
    · rw [if_pos e, e, ← hs]; exact hat
    · rw [if_neg e]
      exact (HR.2.2.1 k (by omega)).kept (oq _ (by show G.2.2.1 + k < H.size; omega))
  · show (if k = h.1 then c else h.2.1 k) = ma_no
    have hk' : h.1 + 1 ≤ k := hk
    rw [if_neg (by omega)]
    exact HR.2.2.2.1 k (by omega)
theorem ma_tysAt (G : ma_G) {i : Nat} {ty : FieldType} (e : ma_tyl[i]? = some ty) : (ma_tys G)[i]? = some (G.2.1 ty, ty) := by
  unfold ma_tys
  rw [List.getElem?_map, e]
  rfl
theorem ma_loc1 {b a k : Nat} {locs : List Loc} (h : ∀ q ∈ locs, b ≤ q.base) : ∀ q ∈ locs ++ [⟨b + a, k⟩], b ≤ q.base := by
  intro q hq
  rcases List.mem_append.mp hq with h1 | h1
  · exact h q h1
  · rw [List.mem_singleton.mp h1]
    exact Nat.le_add_right b a
theorem ma_vaS {G : ma_G} {m : Nat} {p : Program} {R : Room} {s : State} {mi : MethodId} {args : Array Value} {meth : Method} {c : Code} {h : ma_H} {H : Heap} {locs : List Loc} (C : ma_M G m p R s mi args meth c) (HR : ma_R G h H) (hz : s.heap.size ≤ H.size) (hlo : ∀ q ∈ locs, G.2.2.1 ≤ q.base) : va_S (fun q => G.2.2.1 ≤ q) s.heap H locs :=
  ⟨hz, fun q _ h2 => (HR.2.1 q (Nat.not_le.mp h2)).trans (C.2.2.2.2.2.2.2.2.2.2.1 q (Nat.not_le.mp h2)).symm, hlo⟩
theorem ma_old {G : ma_G} {m : Nat} {p : Program} {R : Room} {s : State} {mi : MethodId} {args : Array Value} {meth : Method} {c : Code} (C : ma_M G m p R s mi args meth c) : ∀ a : Nat, a < G.2.2.2.1.size → ¬ G.2.2.1 ≤ a → s.heap[a]? = G.2.2.2.1[a]? := fun a _ h => C.2.2.2.2.2.2.2.2.2.2.1 a (Nat.not_le.mp h)
theorem mr_getfield {m pc : Nat} {b : Nat × Nat} {L : ma_L} {r : List Value} {h : ma_H} {Q : ma_Q} {ci k a i : Nat} {fs : List Value} {v : Value} {ref : String} (he : h.2.1 a = .inr (ci, fs)) (hci : ci < 13) (hk : k < ct_N ci) (hv : fs[k]? = some v) (hw : Cond.fieldLink (mt_y m).cls i ref (ct_T ci k).2.1 (ct_T ci k).2.2.1 ∈ lw_ok) (hs : ref = (ct_T ci k).1 ∨ Cond.sameField ref (ct_T ci k).1 (ct_T ci k).2.1 (ct_T ci k).2.2.1 ∈ lw_ok) (d : decode (mt_b m) pc = .ok (.getfield i, 3)) (k0 : ma_P m (pc + 3) b L (v :: r) h Q) : ma_P m pc b L (.ref a :: r) h Q := by
  intro G p l e R s mi args below meth c H locs cells slots ls Z C HR hz hlo h1 h2 hL hf
  refine va_get (v := ma_v G v) C.1 C.2.1 C.2.2.2.2.1 (ma_in hci) C.2.2.2.1 C.2.2.2.2.2.2.2.2.1 (HR.obj he hci) 0 rfl (ma_cl hci) k hk (C.2.2.2.2.1 _ hw) ?_ (by rw [List.getElem?_map, hv]; rfl) d (k0 G p l e R s mi args below meth c H locs cells slots ls Z C HR hz hlo h1 h2 hL hf)
  rcases hs with rfl | hs
  · exact fun _ q => q
  · exact fun x q => u_same (C.2.2.2.2.1 _ hs) x q
section MAPUT
variable {p : Program} {l : Launch} {e : Env} {R : Room} {s : State} {m : MethodId} {args : Array Value} {below : List Frame} {meth : Method} {c : Code} {H : Heap} {locs : List Loc} {cells slots : Nat} {Q : State → Prop}
variable {cc : ByteArray} {pc : Nat} {ls : Array Slot} {rest : List Value} {D : va_G} {cl : List vw_C} {a : Nat} {tys : List (ClassId × FieldType)}
theorem mh_put (hexec : p.tables.exec = Jvm.exec) (hb : c.code = cc) {own ref C : String} {T : u_T} {N ci index : Nat} {Ts : List Cond} (hts : ∀ w ∈ Ts, w.before args s = true) (hin : ∀ w ∈ u_ws C T N, w ∈ Ts) (ty0 : Nat → FieldType) (hty : ∀ k, k < N → parseFieldDescriptor (T k).2.2.1 = some (ty0 k)) (hnm : ∀ a, a < N → ∀ b, b < N → a ≠ b → (T a).2.1 ≠ (T b).2.1) (hown : s.vm.findClass own = some m.cls) (hK : va_K D cl tys s) {fs : List Value} (hP : va_at D cl (a, .inr (ci, fs)) H) (hc : cl[ci]? = some (C, T, N)) (k : Nat) (hk : k < N) (hlink : (Cond.fieldLink own index ref (T k).2.1 (T k).2.2.1).before args s = true) (hsame : ∀ x, s.fieldFound? (T k).1 (T k).2.1 (T k).2.2.1 = some x → s.fieldFound? ref (T k).2.1 (T k).2.2.1 = some x) (hfin : (T k).2.2.2 = false ∨ (meth.name = "<init>" ∧ (T k).1 = own)) {ty : FieldType} {v : Value} (hd : parseFieldDescriptor (T k).2.2.1 = some ty) (hn : narrow ty v = v) (hfit : fits ty v = true) (hl : k < fs.length)
    (hdg : decode cc pc = .ok (.putfield index, 3)) (kk : ∀ (H1 : Heap) (j : Nat), H1.size = H.size → (∀ q : Nat, q ≠ a → H1[q]? = H[q]?) → va_at D cl (a, .inr (ci, fs.set k v)) H1 → W p l e R s m args below meth c H1 (locs ++ [⟨a, j⟩]) cells slots Q (F0 m (pc + 3) ls rest)) : W p l e R s m args below meth c H locs cells slots Q (F0 m pc ls (v :: .ref a :: rest)) := by
  have hap := va_apart (own := own) hts hin ty0 hty hnm hK hc
  obtain ⟨r, h1, cell, q1, q2, q3, q4⟩ := hP
  have hr : r = (C, T, N) := Option.some.inj (h1.symm.trans hc)
  subst hr
  obtain ⟨hS, hfc, kC, hkC, hkind⟩ := hK.1 ci _ hc
  obtain ⟨cf, kf, fi, f, hi, hsl⟩ := hS k hk
  have hst := (u_facts hfc hkC (u_lays hts hin hk) hi).1
  have hlay := hts _ (hin _ (u_in_lay hk))
  unfold u_lay at hlay
  have fin : ∀ (H' : Heap), H'[a]? = some (cell.setSlot f.slot v) → H'.size = H.size → (∀ q : Nat, q ≠ a → H'[q]? = H[q]?) → W p l e R s m args below meth c H' (locs ++ [⟨a, f.slot⟩]) cells slots Q (F0 m (pc + 3) ls rest) := by
    intro H' e1 e2 e3
    rw [hsl] at e1
    exact kk H' f.slot e2 e3 ⟨_, hc, t_OB.to (V := updV (vp_V fs) k v) ⟨_, e1, q2, q3, t_set q4 hap hk v⟩ (fun j _ => vp_updV_set hl v j)⟩
  by_cases hf0 : (T k).2.2.2 = false
  · rw [if_neg (by rw [hf0]; decide)] at hlay
    have h6 := u_store hfc hkC hkind hlay hi hd hn hfit
    exact W.putK hexec hb (f := f) ⟨hown, hlink, ⟨_, _, _, hsame _ hi⟩, hst⟩ (by rw [q2]; exact h6) q1 q3 (by rw [hsl]; exact k2_hasslot (q4 k hk)) rfl rfl hdg fin
  · have hf1 : (T k).2.2.2 = true := by simpa using hf0
    rw [if_pos hf1] at hlay
    obtain ⟨hin2, hdecl⟩ := hfin.resolve_left hf0
    have hcf : m.cls = cf := by
      obtain ⟨_, _, c', _, _, _, -, -, hf', -, -, -, hown2, -⟩ := Cond.laysFinal_spec hlay
      have e1 : c' = cf := by have := hi.symm.trans hf'; simp at this; exact this.1.symm
      rw [hdecl] at hown2
      rw [← e1]; exact Option.some.inj (hown.symm.trans hown2)
    have h6 := u_fits hfc hkC hkind (Or.inr hlay) hi hd hn hfit
    exact W.putFinK hexec hb hown hlink (hsame _ hi) hst hcf hin2 (by rw [q2]; exact h6) q1 q3 (by rw [hsl]; exact k2_hasslot (q4 k hk)) rfl rfl hdg fin
end MAPUT
theorem mr_putfield {m pc : Nat} {b : Nat × Nat} {L : ma_L} {r : List Value} {h : ma_H} {Q : ma_Q} {ci k a i : Nat} {fs : List Value} {v : Value} {ref : String} (he : h.2.1 a = .inr (ci, fs)) (hci : ci < 13) (hk : k < ct_N ci) (hl : k < fs.length) (hw : Cond.fieldLink (mt_y m).cls i ref (ct_T ci k).2.1 (ct_T ci k).2.2.1 ∈ lw_ok) (hs : ref = (ct_T ci k).1 ∨ Cond.sameField ref (ct_T ci k).1 (ct_T ci k).2.1 (ct_T ci k).2.2.1 ∈ lw_ok) (hfin : (ct_T ci k).2.2.2 = false ∨ ((mt_y m).name = "<init>" ∧ (ct_T ci k).1 = (mt_y m).cls)) (hn : ∀ G, narrow (ct_ty ci k) (ma_v G v) = ma_v G v) (hfit : ∀ G, fits (ct_ty ci k) (ma_v G v) = true) (d : decode (mt_b m) pc = .ok (.putfield i, 3)) (k0 : ma_P m (pc + 3) b L r (ma_set h a (.inr (ci, fs.set k v))) Q) : ma_P m pc b L (v :: .ref a :: r) h Q := by
  intro G p l e R s mi args below meth c H locs cells slots ls Z C HR hz hlo h1 h2 hL hf
  refine mh_put C.1 C.2.1 C.2.2.2.2.1 (ma_in hci) (ct_ty ci) (ma_tk hci) (ma_nm hci) C.2.2.2.1 C.2.2.2.2.2.2.2.2.1 (HR.obj he hci 0 _ rfl) (ma_cl hci) k hk (C.2.2.2.2.1 _ hw) ?_ (by rw [C.2.2.2.2.2.2.2.1]; exact hfin) (ma_tk hci k hk) (hn G) (hfit G) (by rw [List.length_map]; exact hl) d (fun H1 j e1 e2 e3 => ?_)
  · rcases hs with rfl | hs
    · exact fun _ q => q
    · exact fun x q => u_same (C.2.2.2.2.1 _ hs) x q
  · have hlt := HR.lt (ma_no_obj he hci)
    exact k0 G p l e R s mi args below meth c H1 _ cells slots ls Z C (HR.put hlt e1 e2 (by show va_at G.1 classes (G.2.2.1 + a, .inr (ci, (fs.set k v).map (ma_v G))) H1; rw [List.map_set]; exact e3)) (by rw [e1]; exact hz) (ma_loc1 hlo) h1 h2 hL hf
theorem mr_iald {m pc : Nat} {b : Nat × Nat} {L : ma_L} {r : List Value} {h : ma_H} {Q : ma_Q} {a n : Nat} {f : Nat → Int32} {i : Int32} (he : h.2.1 a = .inl (.int, n, .inl f)) (hi : vp_in i n) (d : decode (mt_b m) pc = .ok (.iaload, 1)) (k0 : ma_P m (pc + 1) b L (.int (f i.toNatClampNeg) :: r) h Q) : ma_P m pc b L (.int i :: .ref a :: r) h Q := by
  intro G p l e R s mi args below meth c H locs cells slots ls Z C HR hz hlo h1 h2 hL hf
  exact va_iald C.1 C.2.1 C.2.2.2.2.2.2.2.2.1 (HR.arr he) 0 0 rfl (ma_tysAt G rfl) hi d (k0 G p l e R s mi args below meth c H locs cells slots ls Z C HR hz hlo h1 h2 hL hf)
theorem mr_lald {m pc : Nat} {b : Nat × Nat} {L : ma_L} {r : List Value} {h : ma_H} {Q : ma_Q} {a n : Nat} {f : Nat → Int64} {i : Int32} (he : h.2.1 a = .inl (.long, n, .inr (.inl f))) (hi : vp_in i n) (d : decode (mt_b m) pc = .ok (.laload, 1)) (k0 : ma_P m (pc + 1) b L (.long (f i.toNatClampNeg) :: r) h Q) : ma_P m pc b L (.int i :: .ref a :: r) h Q := by
  intro G p l e R s mi args below meth c H locs cells slots ls Z C HR hz hlo h1 h2 hL hf
  exact va_lald C.1 C.2.1 C.2.2.2.2.2.2.2.2.1 (HR.arr he) 0 1 rfl (ma_tysAt G rfl) hi d (k0 G p l e R s mi args below meth c H locs cells slots ls Z C HR hz hlo h1 h2 hL hf)
theorem mr_bald {m pc : Nat} {b : Nat × Nat} {L : ma_L} {r : List Value} {h : ma_H} {Q : ma_Q} {a n : Nat} {f : Nat → Int32} {i : Int32} (he : h.2.1 a = .inl (.byte, n, .inl f)) (hi : vp_in i n) (d : decode (mt_b m) pc = .ok (.baload, 1)) (k0 : ma_P m (pc + 1) b L (.int (f i.toNatClampNeg) :: r) h Q) : ma_P m pc b L (.int i :: .ref a :: r) h Q := by
  intro G p l e R s mi args below meth c H locs cells slots ls Z C HR hz hlo h1 h2 hL hf
  exact va_bald C.1 C.2.1 C.2.2.2.2.2.2.2.2.1 (HR.arr he) 0 2 rfl (ma_tysAt G rfl) hi d (k0 G p l e R s mi args below meth c H locs cells slots ls Z C HR hz hlo h1 h2 hL hf)
theorem mr_zald {m pc : Nat} {b : Nat × Nat} {L : ma_L} {r : List Value} {h : ma_H} {Q : ma_Q} {a n : Nat} {f : Nat → Int32} {i : Int32} (he : h.2.1 a = .inl (.boolean, n, .inl f)) (hi : vp_in i n) (d : decode (mt_b m) pc = .ok (.baload, 1)) (k0 : ma_P m (pc + 1) b L (.int (f i.toNatClampNeg) :: r) h Q) : ma_P m pc b L (.int i :: .ref a :: r) h Q := by
  intro G p l e R s mi args below meth c H locs cells slots ls Z C HR hz hlo h1 h2 hL hf
  exact va_zald C.1 C.2.1 C.2.2.2.2.2.2.2.2.1 (HR.arr he) 0 3 rfl (ma_tysAt G rfl) hi d (k0 G p l e R s mi args below meth c H locs cells slots ls Z C HR hz hlo h1 h2 hL hf)
theorem ma_rf (G : ma_G) (x : Option Nat) : ma_v G (va_rf x) = va_rf (x.map (fun k => G.2.2.1 + k)) := by cases x <;> rfl
theorem mr_aald4 {m pc : Nat} {b : Nat × Nat} {L : ma_L} {r : List Value} {h : ma_H} {Q : ma_Q} {a n : Nat} {f : Nat → Option Nat} {i : Int32} (he : h.2.1 a = .inl (.object "FlakeArms$Flake", n, .inr (.inr (.inr (.inr f))))) (hi : vp_in i n) (d : decode (mt_b m) pc = .ok (.aaload, 1)) (k0 : ma_P m (pc + 1) b L (va_rf (f i.toNatClampNeg) :: r) h Q) : ma_P m pc b L (.int i :: .ref a :: r) h Q := by
  intro G p l e R s mi args below meth c H locs cells slots ls Z C HR hz hlo h1 h2 hL hf
  have k1 := k0 G p l e R s mi args below meth c H locs cells slots ls Z C HR hz hlo h1 h2 hL hf
  rw [List.map_cons, ma_rf] at k1
  exact va_aldq C.1 C.2.1 C.2.2.2.2.2.2.2.2.1 (HR.arr he) 0 4 rfl (ma_tysAt G rfl) hi d k1
theorem mr_aald5 {m pc : Nat} {b : Nat × Nat} {L : ma_L} {r : List Value} {h : ma_H} {Q : ma_Q} {a n : Nat} {f : Nat → Option Nat} {i : Int32} (he : h.2.1 a = .inl (.object "FlakeArms$Growth", n, .inr (.inr (.inr (.inr f))))) (hi : vp_in i n) (d : decode (mt_b m) pc = .ok (.aaload, 1)) (k0 : ma_P m (pc + 1) b L (va_rf (f i.toNatClampNeg) :: r) h Q) : ma_P m pc b L (.int i :: .ref a :: r) h Q := by
  intro G p l e R s mi args below meth c H locs cells slots ls Z C HR hz hlo h1 h2 hL hf
  have k1 := k0 G p l e R s mi args below meth c H locs cells slots ls Z C HR hz hlo h1 h2 hL hf
  rw [List.map_cons, ma_rf] at k1
  exact va_aldq C.1 C.2.1 C.2.2.2.2.2.2.2.2.1 (HR.arr he) 0 5 rfl (ma_tysAt G rfl) hi d k1
theorem mr_aald6 {m pc : Nat} {b : Nat × Nat} {L : ma_L} {r : List Value} {h : ma_H} {Q : ma_Q} {a n : Nat} {f : Nat → Option Nat} {i : Int32} (he : h.2.1 a = .inl (.array .int, n, .inr (.inr (.inr (.inr f))))) (hi : vp_in i n) (d : decode (mt_b m) pc = .ok (.aaload, 1)) (k0 : ma_P m (pc + 1) b L (va_rf (f i.toNatClampNeg) :: r) h Q) : ma_P m pc b L (.int i :: .ref a :: r) h Q := by
  intro G p l e R s mi args below meth c H locs cells slots ls Z C HR hz hlo h1 h2 hL hf
  have k1 := k0 G p l e R s mi args below meth c H locs cells slots ls Z C HR hz hlo h1 h2 hL hf
  rw [List.map_cons, ma_rf] at k1
  have hlt : i.toNatClampNeg < n := Nat.not_le.mp fun q => hi (Or.inr q)
  exact W.aald (v := va_rf ((f i.toNatClampNeg).map (fun k => G.2.2.1 + k))) C.1 C.2.1 (HR.arr he 0 _ rfl) ((C.2.2.2.2.2.2.2.2.1.2 6 _ (ma_tysAt G rfl)).1 n (fun j => va_rf ((f j).map (fun k => G.2.2.1 + k)))) rfl (fun q => by cases q) (by show ¬ (i < 0 ∨ (arrV _ _ _).slots.size ≤ _); rw [arrV_size]; exact hi) (by exact arrV_read _ _ hlt) rfl rfl d k1
theorem mr_sald {m pc : Nat} {b : Nat × Nat} {L : ma_L} {r : List Value} {h : ma_H} {Q : ma_Q} {j : Nat} {i : Int32} (hj : j < 2) (hi : vp_in i (ma_sl j)) (d : decode (mt_b m) pc = .ok (.iaload, 1)) (k0 : ma_P m (pc + 1) b L (.int (ma_sv j i.toNatClampNeg) :: r) h Q) : ma_P m pc b L (.int i :: .retAddr j :: r) h Q := by
  intro G p l e R s mi args below meth c H locs cells slots ls Z C HR hz hlo h1 h2 hL hf
  exact va_ti C.1 C.2.1 ((C.2.2.2.2.2.2.2.2.2.1.1.1 j hj).2.kept (ma_old C)) (ma_vaS C HR hz hlo) hi rfl d (k0 G p l e R s mi args below meth c H locs cells slots ls Z C HR hz hlo h1 h2 hL hf)
theorem mr_slen {m pc : Nat} {b : Nat × Nat} {L : ma_L} {r : List Value} {h : ma_H} {Q : ma_Q} {j : Nat} (hj : j < 2) (d : decode (mt_b m) pc = .ok (.arraylength, 1)) (k0 : ma_P m (pc + 1) b L (.int (nI (ma_sl j)) :: r) h Q) : ma_P m pc b L (.retAddr j :: r) h Q := by
  intro G p l e R s mi args below meth c H locs cells slots ls Z C HR hz hlo h1 h2 hL hf
  exact va_tlen C.1 C.2.1 ((C.2.2.2.2.2.2.2.2.2.1.1.1 j hj).2.kept (ma_old C)) (ma_vaS C HR hz hlo) rfl d (k0 G p l e R s mi args below meth c H locs cells slots ls Z C HR hz hlo h1 h2 hL hf)
theorem mr_scld {m pc : Nat} {b : Nat × Nat} {L : ma_L} {r : List Value} {h : ma_H} {Q : ma_Q} {i : Int32} (hi : vp_in i h.2.2.1) (d : decode (mt_b m) pc = .ok (.iaload, 1)) (k0 : ma_P m (pc + 1) b L (.int (h.2.2.2 i.toNatClampNeg) :: r) h Q) : ma_P m pc b L (.int i :: .retAddr 1000 :: r) h Q := by
  intro G p l e R s mi args below meth c H locs cells slots ls Z C HR hz hlo h1 h2 hL hf
  have k1 := k0 G p l e R s mi args below meth c H locs cells slots ls Z C HR hz hlo h1 h2 hL hf
  rw [HR.2.2.2.2] at k1 hi
  exact va_ti C.1 C.2.1 (C.2.2.2.2.2.2.2.2.2.1.1.2.kept (ma_old C)) (ma_vaS C HR hz hlo) hi rfl d k1
theorem mr_sclen {m pc : Nat} {b : Nat × Nat} {L : ma_L} {r : List Value} {h : ma_H} {Q : ma_Q} (d : decode (mt_b m) pc = .ok (.arraylength, 1)) (k0 : ma_P m (pc + 1) b L (.int (nI h.2.2.1) :: r) h Q) : ma_P m pc b L (.retAddr 1000 :: r) h Q := by
  intro G p l e R s mi args below meth c H locs cells slots ls Z C HR hz hlo h1 h2 hL hf
  have k1 := k0 G p l e R s mi args below meth c H locs cells slots ls Z C HR hz hlo h1 h2 hL hf
  rw [HR.2.2.2.2] at k1
  exact va_tlen C.1 C.2.1 (C.2.2.2.2.2.2.2.2.2.1.1.2.kept (ma_old C)) (ma_vaS C HR hz hlo) rfl d k1
theorem mr_getstatic {m pc : Nat} {b : Nat × Nat} {L : ma_L} {r : List Value} {h : ma_H} {Q : ma_Q} {j i : Nat} (hj : j < 2) (hw : Cond.fieldLink (mt_y m).cls i "FlakeArms$Flake" (ma_sn j) "[I" ∈ lw_ok) (d : decode (mt_b m) pc = .ok (.getstatic i, 3)) (k0 : ma_P m (pc + 3) b L (.retAddr j :: r) h Q) : ma_P m pc b L r h Q := by
  intro G p l e R s mi args below meth c H locs cells slots ls Z C HR hz hlo h1 h2 hL hf
  exact va_gets C.1 C.2.1 ((C.2.2.2.2.2.2.2.2.2.1.1.1 j hj).1.kept (ma_old C)) (ma_vaS C HR hz hlo) C.2.2.2.1 (C.2.2.2.2.1 _ hw) (fun _ q => q) d (k0 G p l e R s mi args below meth c H locs cells slots ls Z C HR hz hlo h1 h2 hL hf)
theorem mr_alen {m pc : Nat} {b : Nat × Nat} {L : ma_L} {r : List Value} {h : ma_H} {Q : ma_Q} {a t : Nat} {ty : FieldType} {z : vp_A} (he : h.2.1 a = .inl (ty, z)) (ht : ma_tyl[t]? = some ty) (d : decode (mt_b m) pc = .ok (.arraylength, 1)) (k0 : ma_P m (pc + 1) b L (.int (nI z.1) :: r) h Q) : ma_P m pc b L (.ref a :: r) h Q := by
  intro G p l e R s mi args below meth c H locs cells slots ls Z C HR hz hlo h1 h2 hL hf
  have hz1 : (ma_a G z).1 = z.1 := by obtain ⟨n, f | f | f | f | f⟩ := z <;> rfl
  exact va_alen C.1 C.2.1 C.2.2.2.2.2.2.2.2.1 (HR.arr he) 0 t rfl (ma_tysAt G ht) (by rw [hz1]; rfl) d (k0 G p l e R s mi args below meth c H locs cells slots ls Z C HR hz hlo h1 h2 hL hf)
theorem mr_iast {m pc : Nat} {b : Nat × Nat} {L : ma_L} {r : List Value} {h : ma_H} {Q : ma_Q} {a n : Nat} {f : Nat → Int32} {i : Int32} {x : Int32} (he : h.2.1 a = .inl (.int, n, .inl f)) (hi : vp_in i n) (d : decode (mt_b m) pc = .ok (.iastore, 1)) (k0 : ma_P m (pc + 1) b L r (ma_set h a (.inl (.int, n, .inl (upd f i.toNatClampNeg x)))) Q) : ma_P m pc b L (.int x :: .int i :: .ref a :: r) h Q := by
  intro G p l e R s mi args below meth c H locs cells slots ls Z C HR hz hlo h1 h2 hL hf
  have hlt := HR.lt (ma_no_arr he)
  refine W.iast C.1 C.2.1 (HR.arr he 0 _ rfl) ((C.2.2.2.2.2.2.2.2.1.2 0 _ (ma_tysAt G rfl)).1 n (fun j => .int (f j))) (fun q => by cases q) (by show ¬ (i < 0 ∨ (arrV _ _ _).slots.size ≤ _); rw [arrV_size]; exact hi) rfl rfl d fun H1 e0 z oq => ?_
  refine k0 G p l e R s mi args below meth c H1 _ cells slots ls Z C (HR.put hlt z oq ?_) (by rw [z]; exact hz) (ma_loc1 hlo) h1 h2 hL hf
  show H1[G.2.2.1 + a]? = some (vp_cell _ (n, .inl (upd f i.toNatClampNeg x)))
  rw [e0]
  show some ((vp_cell _ (n, .inl f)).setSlot _ _) = _
  rw [vp_cell_i, vp_cell_i, arrV_store]
  congr 2
  funext q
  by_cases hq : q = i.toNatClampNeg
  · subst hq
    simp [updV, upd, vp_updL]
  · simp [updV, upd, vp_updL, hq]
theorem mr_bast {m pc : Nat} {b : Nat × Nat} {L : ma_L} {r : List Value} {h : ma_H} {Q : ma_Q} {a n : Nat} {f : Nat → Int32} {i : Int32} {x : Int32} (he : h.2.1 a = .inl (.byte, n, .inl f)) (hi : vp_in i n) (d : decode (mt_b m) pc = .ok (.bastore, 1)) (k0 : ma_P m (pc + 1) b L r (ma_set h a (.inl (.byte, n, .inl (upd f i.toNatClampNeg (vp_nar .byte x))))) Q) : ma_P m pc b L (.int x :: .int i :: .ref a :: r) h Q := by
  intro G p l e R s mi args below meth c H locs cells slots ls Z C HR hz hlo h1 h2 hL hf
  have hlt := HR.lt (ma_no_arr he)
  refine W.bast C.1 C.2.1 (HR.arr he 0 _ rfl) ((C.2.2.2.2.2.2.2.2.1.2 2 _ (ma_tysAt G rfl)).1 n (fun j => .int (f j))) (fun q => by cases q) (by show ¬ (i < 0 ∨ (arrV _ _ _).slots.size ≤ _); rw [arrV_size]; exact hi) rfl rfl d fun H1 e0 z oq => ?_
  refine k0 G p l e R s mi args below meth c H1 _ cells slots ls Z C (HR.put hlt z oq ?_) (by rw [z]; exact hz) (ma_loc1 hlo) h1 h2 hL hf
  show H1[G.2.2.1 + a]? = some (vp_cell _ (n, .inl (upd f i.toNatClampNeg (vp_nar .byte x))))
  rw [e0]
  show some ((vp_cell _ (n, .inl f)).setSlot _ _) = _
  rw [vp_cell_i, vp_cell_i, show narrow .byte (.int x) = .int (vp_nar .byte x) from rfl, arrV_store]
  congr 2
  funext q
  by_cases hq : q = i.toNatClampNeg
  · subst hq
    simp [updV, upd, vp_updL]
  · simp [updV, upd, vp_updL, hq]
theorem mr_zast {m pc : Nat} {b : Nat × Nat} {L : ma_L} {r : List Value} {h : ma_H} {Q : ma_Q} {a n : Nat} {f : Nat → Int32} {i : Int32} {x : Int32} (he : h.2.1 a = .inl (.boolean, n, .inl f)) (hi : vp_in i n) (d : decode (mt_b m) pc = .ok (.bastore, 1)) (k0 : ma_P m (pc + 1) b L r (ma_set h a (.inl (.boolean, n, .inl (upd f i.toNatClampNeg (vp_nar .boolean x))))) Q) : ma_P m pc b L (.int x :: .int i :: .ref a :: r) h Q := by
  intro G p l e R s mi args below meth c H locs cells slots ls Z C HR hz hlo h1 h2 hL hf
  have hlt := HR.lt (ma_no_arr he)
  refine W.zast C.1 C.2.1 (HR.arr he 0 _ rfl) ((C.2.2.2.2.2.2.2.2.1.2 3 _ (ma_tysAt G rfl)).1 n (fun j => .int (f j))) (fun q => by cases q) (by show ¬ (i < 0 ∨ (arrV _ _ _).slots.size ≤ _); rw [arrV_size]; exact hi) rfl rfl d fun H1 e0 z oq => ?_
  refine k0 G p l e R s mi args below meth c H1 _ cells slots ls Z C (HR.put hlt z oq ?_) (by rw [z]; exact hz) (ma_loc1 hlo) h1 h2 hL hf
  show H1[G.2.2.1 + a]? = some (vp_cell _ (n, .inl (upd f i.toNatClampNeg (vp_nar .boolean x))))
  rw [e0]
  show some ((vp_cell _ (n, .inl f)).setSlot _ _) = _
  rw [vp_cell_i, vp_cell_i, show narrow .boolean (.int x) = .int (vp_nar .boolean x) from rfl, arrV_store]
  congr 2
  funext q
  by_cases hq : q = i.toNatClampNeg
  · subst hq
    simp [updV, upd, vp_updL]
  · simp [updV, upd, vp_updL, hq]
theorem mr_last {m pc : Nat} {b : Nat × Nat} {L : ma_L} {r : List Value} {h : ma_H} {Q : ma_Q} {a n : Nat} {f : Nat → Int64} {i : Int32} {x : Int64} (he : h.2.1 a = .inl (.long, n, .inr (.inl f))) (hi : vp_in i n) (d : decode (mt_b m) pc = .ok (.lastore, 1)) (k0 : ma_P m (pc + 1) b L r (ma_set h a (.inl (.long, n, .inr (.inl (vp_updL f i.toNatClampNeg x))))) Q) : ma_P m pc b L (.long x :: .int i :: .ref a :: r) h Q := by
  intro G p l e R s mi args below meth c H locs cells slots ls Z C HR hz hlo h1 h2 hL hf
  have hlt := HR.lt (ma_no_arr he)
  refine W.last C.1 C.2.1 (HR.arr he 0 _ rfl) ((C.2.2.2.2.2.2.2.2.1.2 1 _ (ma_tysAt G rfl)).1 n (fun j => .long (f j))) (fun q => by cases q) (by show ¬ (i < 0 ∨ (arrV _ _ _).slots.size ≤ _); rw [arrV_size]; exact hi) rfl rfl d fun H1 e0 z oq => ?_
  refine k0 G p l e R s mi args below meth c H1 _ cells slots ls Z C (HR.put hlt z oq ?_) (by rw [z]; exact hz) (ma_loc1 hlo) h1 h2 hL hf
  show H1[G.2.2.1 + a]? = some (vp_cell _ (n, .inr (.inl (vp_updL f i.toNatClampNeg x))))
  rw [e0]
  show some ((vp_cell _ (n, .inr (.inl f))).setSlot _ _) = _
  rw [vp_cell_l, vp_cell_l, arrV_store]
  congr 2
  funext q
  by_cases hq : q = i.toNatClampNeg
  · subst hq
    simp [updV, upd, vp_updL]
  · simp [updV, upd, vp_updL, hq]
theorem mr_new {m pc : Nat} {b b' : Nat × Nat} {L : ma_L} {r : List Value} {h : ma_H} {Q : ma_Q} {ci i : Nat} (hci : ci < 13) (hw : Cond.classLink (mt_y m).cls i (ct_R ci) ∈ lw_ok) (hw2 : Cond.instantiable (ct_R ci) (ct_N ci) ∈ lw_ok) (hw3 : Cond.initialized (ct_R ci) ∈ lw_ok) (hb : b'.1 + 1 = b.1 ∧ b'.2 + ct_N ci = b.2) (d : decode (mt_b m) pc = .ok (.new i, 3)) (k0 : ma_P m (pc + 3) b' L (.ref h.1 :: r) (ma_new h (.inr (ci, ct_d ci))) Q) : ma_P m pc b L r h Q := by
  intro G p l e R s mi args below meth c H locs cells slots ls Z C HR hz hlo h1 h2 hL hf
  have hKn := C.2.2.2.2.2.2.2.2.1.1 ci _ (ma_cl hci)
  refine W.newcK C.1 C.2.1 C.2.2.2.1 (C.2.2.2.2.1 _ hw) (C.2.2.2.2.1 _ hw2) (C.2.2.2.2.1 _ hw3) rfl d (by omega) (by omega) hKn.2.1 rfl fun H1 kC hkC e1 z1 o1 => ?_
  have hat : va_at G.1 classes (H.size, ma_c G (.inr (ci, ct_d ci))) H1 := by
    refine ⟨_, ma_cl hci, (u_born (ct_ty ci) C.2.2.2.2.1 (ma_in hci) hKn hkC e1 (ma_tk hci)).to fun j hj => ?_⟩
    rw [ma_dk hci j hj]
    show (ct_d ci).getD j .null = ((ct_d ci).map (ma_v G)).getD j .null
    have hd : ∀ v ∈ ct_d ci, ma_v G v = v := by
      have h13 : ∀ ci, ci < 13 → ∀ v ∈ ct_d ci, v = .int 0 ∨ v = .long 0 ∨ v = .null := by decide +kernel
      intro v hv
      rcases h13 ci hci v hv with rfl | rfl | rfl <;> rfl
    rw [List.map_congr_left hd, List.map_id']
  have hs1 : Value.ref H.size = ma_v G (.ref h.1) := by show _ = Value.ref (G.2.2.1 + h.1); rw [HR.1]
  show W p l e R s mi args below meth c H1 locs (cells + 1) (slots + ct_N ci) Z (F0 mi (pc + 3) ls (.ref H.size :: r.map (ma_v G)))
  rw [hs1]
  exact k0 G p l e R s mi args below meth c H1 locs (cells + 1) (slots + ct_N ci) ls Z C (HR.push z1 o1 hat) (by omega) hlo (by omega) (by omega) hL (fun pc' ls' st' r' h' H' locs' cells' slots' a1 a2 a3 a4 a5 a6 a7 => hf pc' ls' st' r' h' H' locs' cells' slots' a1 a2 a3 a4 a5 (by omega) (by omega))
theorem mr_newa_int {m pc : Nat} {b b' : Nat × Nat} {L : ma_L} {r : List Value} {h : ma_H} {Q : ma_Q} {n : Nat} (hn : n < 100000) (hw : Cond.arrayClass .int ∈ lw_ok) (hb : b'.1 + 1 = b.1 ∧ b'.2 + n = b.2) (d : decode (mt_b m) pc = .ok (.newarray .int, 2)) (k0 : ma_P m (pc + 2) b' L (.ref h.1 :: r) (ma_new h (.inl (.int, n, .inl (fun _ => 0)))) Q) : ma_P m pc b L (.int (nI n) :: r) h Q := by
  intro G p l e R s mi args below meth c H locs cells slots ls Z C HR hz hlo h1 h2 hL hf
  have h31 : n < 2 ^ 31 := Nat.lt_of_lt_of_le hn (Nat.le_of_ble_eq_true rfl)
  have hc : componentBytes (newarray.typeOf .int) ≤ 8 := by decide
  have hm : n * componentBytes (newarray.typeOf .int) ≤ 536870912 := Nat.le_trans (Nat.mul_le_mul (Nat.le_of_lt hn) hc) (Nat.le_of_ble_eq_true rfl)
  refine va_newaK (atype := .int) (N := n) C.1 C.2.1 (C.2.2.2.2.1 _ hw) rfl d rfl (nI_pos h31) (nI_clamp h31) hm (by rw [← hb.1] at h1; omega) (by rw [← hb.2] at h2; omega) rfl fun H1 cA e1 z1 o1 hA hF => ?_
  have hcA : cA = G.2.1 .int := by
    have q := (C.2.2.2.2.2.2.2.2.1.2 0 _ (ma_tysAt G rfl)).2
    exact Option.some.inj (hF.symm.trans q)
  subst hcA
  have hs1 : Value.ref H.size = ma_v G (.ref h.1) := by show _ = Value.ref (G.2.2.1 + h.1); rw [HR.1]
  show W p l e R s mi args below meth c H1 locs (cells + 1) (slots + n) Z (F0 mi (pc + 2) ls (.ref H.size :: r.map (ma_v G)))
  rw [hs1]
  exact k0 G p l e R s mi args below meth c H1 locs (cells + 1) (slots + n) ls Z C (HR.push z1 o1 e1) (by omega) hlo (by omega) (by omega) hL (fun pc' ls' st' r' h' H' locs' cells' slots' a1 a2 a3 a4 a5 a6 a7 => hf pc' ls' st' r' h' H' locs' cells' slots' a1 a2 a3 a4 a5 (by omega) (by omega))
theorem mr_newa_long {m pc : Nat} {b b' : Nat × Nat} {L : ma_L} {r : List Value} {h : ma_H} {Q : ma_Q} {n : Nat} (hn : n < 100000) (hw : Cond.arrayClass .long ∈ lw_ok) (hb : b'.1 + 1 = b.1 ∧ b'.2 + n = b.2) (d : decode (mt_b m) pc = .ok (.newarray .long, 2)) (k0 : ma_P m (pc + 2) b' L (.ref h.1 :: r) (ma_new h (.inl (.long, n, .inr (.inl (fun _ => 0))))) Q) : ma_P m pc b L (.int (nI n) :: r) h Q := by
  intro G p l e R s mi args below meth c H locs cells slots ls Z C HR hz hlo h1 h2 hL hf
  have h31 : n < 2 ^ 31 := Nat.lt_of_lt_of_le hn (Nat.le_of_ble_eq_true rfl)
  have hc : componentBytes (newarray.typeOf .long) ≤ 8 := by decide
  have hm : n * componentBytes (newarray.typeOf .long) ≤ 536870912 := Nat.le_trans (Nat.mul_le_mul (Nat.le_of_lt hn) hc) (Nat.le_of_ble_eq_true rfl)
  refine va_newaK (atype := .long) (N := n) C.1 C.2.1 (C.2.2.2.2.1 _ hw) rfl d rfl (nI_pos h31) (nI_clamp h31) hm (by rw [← hb.1] at h1; omega) (by rw [← hb.2] at h2; omega) rfl fun H1 cA e1 z1 o1 hA hF => ?_
  have hcA : cA = G.2.1 .long := by
    have q := (C.2.2.2.2.2.2.2.2.1.2 1 _ (ma_tysAt G rfl)).2
    exact Option.some.inj (hF.symm.trans q)
  subst hcA
  have hs1 : Value.ref H.size = ma_v G (.ref h.1) := by show _ = Value.ref (G.2.2.1 + h.1); rw [HR.1]
  show W p l e R s mi args below meth c H1 locs (cells + 1) (slots + n) Z (F0 mi (pc + 2) ls (.ref H.size :: r.map (ma_v G)))
  rw [hs1]
  exact k0 G p l e R s mi args below meth c H1 locs (cells + 1) (slots + n) ls Z C (HR.push z1 o1 e1) (by omega) hlo (by omega) (by omega) hL (fun pc' ls' st' r' h' H' locs' cells' slots' a1 a2 a3 a4 a5 a6 a7 => hf pc' ls' st' r' h' H' locs' cells' slots' a1 a2 a3 a4 a5 (by omega) (by omega))
theorem mr_newa_byte {m pc : Nat} {b b' : Nat × Nat} {L : ma_L} {r : List Value} {h : ma_H} {Q : ma_Q} {n : Nat} (hn : n < 100000) (hw : Cond.arrayClass .byte ∈ lw_ok) (hb : b'.1 + 1 = b.1 ∧ b'.2 + n = b.2) (d : decode (mt_b m) pc = .ok (.newarray .byte, 2)) (k0 : ma_P m (pc + 2) b' L (.ref h.1 :: r) (ma_new h (.inl (.byte, n, .inl (fun _ => 0)))) Q) : ma_P m pc b L (.int (nI n) :: r) h Q := by
  intro G p l e R s mi args below meth c H locs cells slots ls Z C HR hz hlo h1 h2 hL hf
  have h31 : n < 2 ^ 31 := Nat.lt_of_lt_of_le hn (Nat.le_of_ble_eq_true rfl)
  have hc : componentBytes (newarray.typeOf .byte) ≤ 8 := by decide
  have hm : n * componentBytes (newarray.typeOf .byte) ≤ 536870912 := Nat.le_trans (Nat.mul_le_mul (Nat.le_of_lt hn) hc) (Nat.le_of_ble_eq_true rfl)
  refine va_newaK (atype := .byte) (N := n) C.1 C.2.1 (C.2.2.2.2.1 _ hw) rfl d rfl (nI_pos h31) (nI_clamp h31) hm (by rw [← hb.1] at h1; omega) (by rw [← hb.2] at h2; omega) rfl fun H1 cA e1 z1 o1 hA hF => ?_
  have hcA : cA = G.2.1 .byte := by
    have q := (C.2.2.2.2.2.2.2.2.1.2 2 _ (ma_tysAt G rfl)).2
    exact Option.some.inj (hF.symm.trans q)
  subst hcA
  have hs1 : Value.ref H.size = ma_v G (.ref h.1) := by show _ = Value.ref (G.2.2.1 + h.1); rw [HR.1]
  show W p l e R s mi args below meth c H1 locs (cells + 1) (slots + n) Z (F0 mi (pc + 2) ls (.ref H.size :: r.map (ma_v G)))
  rw [hs1]
  exact k0 G p l e R s mi args below meth c H1 locs (cells + 1) (slots + n) ls Z C (HR.push z1 o1 e1) (by omega) hlo (by omega) (by omega) hL (fun pc' ls' st' r' h' H' locs' cells' slots' a1 a2 a3 a4 a5 a6 a7 => hf pc' ls' st' r' h' H' locs' cells' slots' a1 a2 a3 a4 a5 (by omega) (by omega))
theorem mr_newa_boolean {m pc : Nat} {b b' : Nat × Nat} {L : ma_L} {r : List Value} {h : ma_H} {Q : ma_Q} {n : Nat} (hn : n < 100000) (hw : Cond.arrayClass .boolean ∈ lw_ok) (hb : b'.1 + 1 = b.1 ∧ b'.2 + n = b.2) (d : decode (mt_b m) pc = .ok (.newarray .boolean, 2)) (k0 : ma_P m (pc + 2) b' L (.ref h.1 :: r) (ma_new h (.inl (.boolean, n, .inl (fun _ => 0)))) Q) : ma_P m pc b L (.int (nI n) :: r) h Q := by
  intro G p l e R s mi args below meth c H locs cells slots ls Z C HR hz hlo h1 h2 hL hf
  have h31 : n < 2 ^ 31 := Nat.lt_of_lt_of_le hn (Nat.le_of_ble_eq_true rfl)
  have hc : componentBytes (newarray.typeOf .boolean) ≤ 8 := by decide
  have hm : n * componentBytes (newarray.typeOf .boolean) ≤ 536870912 := Nat.le_trans (Nat.mul_le_mul (Nat.le_of_lt hn) hc) (Nat.le_of_ble_eq_true rfl)
  refine va_newaK (atype := .boolean) (N := n) C.1 C.2.1 (C.2.2.2.2.1 _ hw) rfl d rfl (nI_pos h31) (nI_clamp h31) hm (by rw [← hb.1] at h1; omega) (by rw [← hb.2] at h2; omega) rfl fun H1 cA e1 z1 o1 hA hF => ?_
  have hcA : cA = G.2.1 .boolean := by
    have q := (C.2.2.2.2.2.2.2.2.1.2 3 _ (ma_tysAt G rfl)).2
    exact Option.some.inj (hF.symm.trans q)
  subst hcA
  have hs1 : Value.ref H.size = ma_v G (.ref h.1) := by show _ = Value.ref (G.2.2.1 + h.1); rw [HR.1]
  show W p l e R s mi args below meth c H1 locs (cells + 1) (slots + n) Z (F0 mi (pc + 2) ls (.ref H.size :: r.map (ma_v G)))
  rw [hs1]
  exact k0 G p l e R s mi args below meth c H1 locs (cells + 1) (slots + n) ls Z C (HR.push z1 o1 e1) (by omega) hlo (by omega) (by omega) hL (fun pc' ls' st' r' h' H' locs' cells' slots' a1 a2 a3 a4 a5 a6 a7 => hf pc' ls' st' r' h' H' locs' cells' slots' a1 a2 a3 a4 a5 (by omega) (by omega))
theorem mr_anew4 {m pc : Nat} {b b' : Nat × Nat} {L : ma_L} {r : List Value} {h : ma_H} {Q : ma_Q} {n i : Nat} (hn : n < 100000) (hw : Cond.classLink (mt_y m).cls i "FlakeArms$Flake" ∈ lw_ok) (hb : b'.1 + 1 = b.1 ∧ b'.2 + n = b.2) (d : decode (mt_b m) pc = .ok (.anewarray i, 3)) (k0 : ma_P m (pc + 3) b' L (.ref h.1 :: r) (ma_new h (.inl (.object "FlakeArms$Flake", n, .inr (.inr (.inr (.inr (fun _ => none))))))) Q) : ma_P m pc b L (.int (nI n) :: r) h Q := by
  intro G p l e R s mi args below meth c H locs cells slots ls Z C HR hz hlo h1 h2 hL hf
  have h31 : n < 2 ^ 31 := Nat.lt_of_lt_of_le hn (Nat.le_of_ble_eq_true rfl)
  have hcl : (nI n).toNatClampNeg = n := nI_clamp h31
  have hm : n * 4 ≤ 536870912 := Nat.le_trans (Nat.mul_le_mul_right 4 (Nat.le_of_lt hn)) (Nat.le_of_ble_eq_true rfl)
  refine W.anew C.1 C.2.1 C.2.2.2.1 (C.2.2.2.2.1 _ hw) (ma_over (by simp) (State.WarmedH.refl s) (C.2.2.2.2.2.2.2.2.2.1.2.2.2.2.2.2.2.2 _ (by simp))) rfl d rfl (nI_pos h31) (by rw [hcl]; exact hm) (by rw [← hb.1] at h1; omega) (by rw [hcl]; rw [← hb.2] at h2; omega) fun cA kA comp f1 f2 f3 f4 => ?_
  rw [hcl]
  generalize hH1 : H.push ({ cls := cA, slots := Array.replicate n .null, vm := .none } : Cell) = H1
  have z1 : H1.size = H.size + 1 := by rw [← hH1, Array.size_push]
  have e1 : H1[H.size]? = some (arrV cA n (fun _ => .null)) := by rw [← hH1, Array.getElem?_push_size, ← arrV_new]
  have o1 : ∀ q : Nat, q < H.size → H1[q]? = H[q]? := fun q hq => by rw [← hH1, Array.getElem?_push, if_neg (Nat.ne_of_lt hq)]
  have hcA : cA = G.2.1 (.object "FlakeArms$Flake") := by
    obtain ⟨-, -, -, -, -, q⟩ := (C.2.2.2.2.2.2.2.2.1.2 4 _ (ma_tysAt G rfl)).2
    exact Option.some.inj (f1.symm.trans q)
  subst hcA
  have hs1 : Value.ref H.size = ma_v G (.ref h.1) := by show _ = Value.ref (G.2.2.1 + h.1); rw [HR.1]
  show W p l e R s mi args below meth c H1 locs (cells + 1) (slots + n) Z (F0 mi (pc + 3) ls (.ref H.size :: r.map (ma_v G)))
  rw [hs1]
  exact k0 G p l e R s mi args below meth c H1 locs (cells + 1) (slots + n) ls Z C (HR.push z1 o1 e1) (by omega) hlo (by omega) (by omega) hL (fun pc' ls' st' r' h' H' locs' cells' slots' a1 a2 a3 a4 a5 a6 a7 => hf pc' ls' st' r' h' H' locs' cells' slots' a1 a2 a3 a4 a5 (by omega) (by omega))
theorem mr_anew5 {m pc : Nat} {b b' : Nat × Nat} {L : ma_L} {r : List Value} {h : ma_H} {Q : ma_Q} {n i : Nat} (hn : n < 100000) (hw : Cond.classLink (mt_y m).cls i "FlakeArms$Growth" ∈ lw_ok) (hb : b'.1 + 1 = b.1 ∧ b'.2 + n = b.2) (d : decode (mt_b m) pc = .ok (.anewarray i, 3)) (k0 : ma_P m (pc + 3) b' L (.ref h.1 :: r) (ma_new h (.inl (.object "FlakeArms$Growth", n, .inr (.inr (.inr (.inr (fun _ => none))))))) Q) : ma_P m pc b L (.int (nI n) :: r) h Q := by
  intro G p l e R s mi args below meth c H locs cells slots ls Z C HR hz hlo h1 h2 hL hf
  have h31 : n < 2 ^ 31 := Nat.lt_of_lt_of_le hn (Nat.le_of_ble_eq_true rfl)
  have hcl : (nI n).toNatClampNeg = n := nI_clamp h31
  have hm : n * 4 ≤ 536870912 := Nat.le_trans (Nat.mul_le_mul_right 4 (Nat.le_of_lt hn)) (Nat.le_of_ble_eq_true rfl)
  refine W.anew C.1 C.2.1 C.2.2.2.1 (C.2.2.2.2.1 _ hw) (ma_over (by simp) (State.WarmedH.refl s) (C.2.2.2.2.2.2.2.2.2.1.2.2.2.2.2.2.2.2 _ (by simp))) rfl d rfl (nI_pos h31) (by rw [hcl]; exact hm) (by rw [← hb.1] at h1; omega) (by rw [hcl]; rw [← hb.2] at h2; omega) fun cA kA comp f1 f2 f3 f4 => ?_
  rw [hcl]
  generalize hH1 : H.push ({ cls := cA, slots := Array.replicate n .null, vm := .none } : Cell) = H1
  have z1 : H1.size = H.size + 1 := by rw [← hH1, Array.size_push]
  have e1 : H1[H.size]? = some (arrV cA n (fun _ => .null)) := by rw [← hH1, Array.getElem?_push_size, ← arrV_new]
  have o1 : ∀ q : Nat, q < H.size → H1[q]? = H[q]? := fun q hq => by rw [← hH1, Array.getElem?_push, if_neg (Nat.ne_of_lt hq)]
  have hcA : cA = G.2.1 (.object "FlakeArms$Growth") := by
    obtain ⟨-, -, -, -, -, q⟩ := (C.2.2.2.2.2.2.2.2.1.2 5 _ (ma_tysAt G rfl)).2
    exact Option.some.inj (f1.symm.trans q)
  subst hcA
  have hs1 : Value.ref H.size = ma_v G (.ref h.1) := by show _ = Value.ref (G.2.2.1 + h.1); rw [HR.1]
  show W p l e R s mi args below meth c H1 locs (cells + 1) (slots + n) Z (F0 mi (pc + 3) ls (.ref H.size :: r.map (ma_v G)))
  rw [hs1]
  exact k0 G p l e R s mi args below meth c H1 locs (cells + 1) (slots + n) ls Z C (HR.push z1 o1 e1) (by omega) hlo (by omega) (by omega) hL (fun pc' ls' st' r' h' H' locs' cells' slots' a1 a2 a3 a4 a5 a6 a7 => hf pc' ls' st' r' h' H' locs' cells' slots' a1 a2 a3 a4 a5 (by omega) (by omega))
