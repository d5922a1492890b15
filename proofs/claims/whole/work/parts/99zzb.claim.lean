/-! THE CLAIM -/
def R_law : String := "FlakeArmsLaw"
def lw_P (b : Addr) (xs : List Int32) (args : Array Value) (s : State) : Prop := args = #[.ref b] ∧ s.IntsAt b xs ∧ xs.length ≤ 320 ∧ (Jvm.Cond.and given_1 narrow_1).before args s = true
def lw_Q (_ : Array Value) (s : State) (o : Outcome) (t : State) : Prop := o = .returned (some (.int 1)) ∧ Framed s o t [] 600000 7302250
def lw_Z (below : List Frame) (a : Array Value) (s : State) : State → Prop := fun t => ∃ o, t.status = .running ∧ Ended t below o ∧ lw_Q a s o t
/-- the law's own end, with 1 on the stack, nothing written that was there before, its room as the claim has it -/
theorem lw_ret {p : Program} {l : Launch} {e : Env} {s : State} {m : MethodId} {below : List Frame} {meth : Method} {c : Code} {b : Nat} (hx : p.tables.exec = Jvm.exec) (hb : c.code = code) (hr : meth.sig.returnType = ret) (hlocks : meth.locks = false) {pc : Nat} {H : Heap} {ls : Array Slot} (hdg : decode code pc = .ok (.ireturn, 1)) : W p l e room_1 s m #[Value.ref b] below meth c H [] 600000 7302250 (lw_Z below #[Value.ref b] s) (F0 m pc ls [.int 1]) := by
  intro T hT X
  obtain ⟨fs, hret, hrun, hended, hW, hframe⟩ := X.leave (v := some (.int 1)) (hlocks := hlocks) (fun h => by rw [hr] at h; cases h)
  have hmeth' : T.vm.method? m = some meth := X.method'
  refine ⟨T.setFrames fs, ?_, .returned (some (.int 1)), hrun, hended, rfl, ⟨_, rfl⟩, hW, hframe⟩
  jvm_step X.here [X.here.top, hx, hb, hdg, hmeth', hr, ret, narrow_b1]
  (try refine ⟨rfl, ?_⟩); (try refine ⟨rfl, ?_⟩)
  first | (intro acts; rw [hret _ acts rfl rfl rfl]) | rw [hret _ _ rfl rfl rfl]
  exact Steps.refl _
/-- what holds at the law's entry: the machine, the code, the tables' words (any of lw_tbl by 'hts w (by decide +kernel)'), the script of L ints xs at the cell b, what the Statement gives of the start (any of its parts by flat_of_before) -/
def lw_At (p : Program) (s : State) (m : MethodId) (meth : Method) (c : Code) (b L : Nat) (xs : Nat → Int32) : Prop :=
  p.tables.exec = Jvm.exec ∧ c.code = code ∧ meth.sig.returnType = ret ∧ c.maxLocals = 4 ∧ s.vm.findClass R_law = some m.cls ∧ (∀ w ∈ lw_tbl, w.before #[Value.ref b] s = true) ∧ va_X b L xs s s.heap ∧ b < s.heap.size ∧ meth.locks = false ∧ (Jvm.Cond.and given_1 narrow_1).before #[Value.ref b] s = true ∧ meth.name = x.name

theorem nI_bits (x : Int32) : nI x.toBitVec.toNat = x := by
  apply Int32.toBitVec_inj.mp
  apply BitVec.eq_of_toNat_eq
  show (BitVec.ofNat 32 x.toBitVec.toNat).toNat = _
  rw [BitVec.toNat_ofNat, Nat.mod_eq_of_lt x.toBitVec.isLt]
theorem z_285 : mt_b 285 = code ∧ mt_n 285 = 4 ∧ mt_r 285 = ret ∧ (mt_y 285).cls = R_law ∧ (mt_y 285).name = x.name := ⟨rfl, rfl, rfl, rfl, rfl⟩
theorem z_lev : mt_v 285 ≤ 2048 ∧ 40 * mt_v 285 ≤ 84000 := by decide +kernel
theorem z_arr {s : State} {args : Array Value} {ty : FieldType} (h : (Cond.arrayClass ty).before args s = true) (hp : ∀ C, ty ≠ .object C) : ∃ cA : ClassId, ArrOfT s cA ty ∧ va_RA s cA ty := by
  obtain ⟨cA, kA, comp, h1, h2, h3⟩ := Cond.arrayClass_spec h
  refine ⟨cA, fun n z => ⟨fun k h => (by cases h), kA, h2, comp, h3⟩, ?_⟩
  cases ty with
  | object C => exact absurd rfl (hp C)
  | _ => exact h1
theorem z_obj {s : State} {args : Array Value} {C : String} (h : (Cond.arrayOver (.object C)).before args s = true) : ∃ cA : ClassId, ArrOfT s cA (.object C) ∧ va_RA s cA (.object C) := by
  obtain ⟨comp, c, k, h1, h2, h3, h4, h5⟩ := Cond.arrayOver_spec h
  exact ⟨c, fun n z => ⟨fun k h => (by cases h), k, h3, comp, h4⟩, k, comp, h3, h4, h1, h5⟩
theorem z_aa {s : State} {args : Array Value} (h : (Cond.arrayOver (.array .int)).before args s = true) : ∃ cA : ClassId, ArrOfT s cA (.array .int) ∧ va_RA s cA (.array .int) := by
  obtain ⟨comp, c, k, h1, h2, h3, h4, h5⟩ := Jvm.Stand.arrayOver_specB h
  exact ⟨c, fun n z => ⟨fun k h => (by cases h), k, h3, comp, h4⟩, h5⟩
/-- the world of the start -/
theorem z_world {s : State} {b L : Nat} {xs : Nat → Int32} (hL : L ≤ 320) (hts : ∀ w ∈ lw_tbl, w.before #[Value.ref b] s = true) (hX : va_X b L xs s s.heap) (hbl : b < s.heap.size) (hgv : (Jvm.Cond.and given_1 narrow_1).before #[Value.ref b] s = true) : ∃ G : ma_G, G.2.2.1 = s.heap.size ∧ G.2.2.2.1 = s.heap ∧ G.2.2.2.2 1000 = b ∧ ma_ss G = (L, xs) ∧ va_K G.1 classes (ma_tys G) s ∧ ma_S G s := by
  have hs : ∀ w ∈ z_fl, w.before #[Value.ref b] s = true := flat_of_before _ hgv
  have hA : ∀ a : Nat, a < s.heap.size → ¬ (fun q : Nat => s.heap.size ≤ q) a := fun a h => Nat.not_le.mpr h
  -- classes
  have hC : ∀ c : Nat, ∃ q : ClassId × (Nat → Nat), c < 13 → u_Kn s (ct_R c) (ct_T c) (ct_N c) q.1 q.2 := by
    intro c
    by_cases h : c < 13
    · match c, h with
      | 0, _ => exact (u_known (C := ct_R0) (T := ct_T0) (N := ct_N 0) (n := ct_N 0) hts (fun w hw => (List.mem_filter.mp (ct_i0 w hw)).1) (hts _ (z_in 0 (by decide)))).elim fun cC h => h.elim fun iS h => ⟨(cC, iS), fun _ => h⟩
      | 1, _ => exact (u_known (C := ct_R1) (T := ct_T1) (N := ct_N 1) (n := ct_N 1) hts (fun w hw => (List.mem_filter.mp (ct_i1 w hw)).1) (hts _ (z_in 1 (by decide)))).elim fun cC h => h.elim fun iS h => ⟨(cC, iS), fun _ => h⟩
      | 2, _ => exact (u_known (C := ct_R2) (T := ct_T2) (N := ct_N 2) (n := ct_N 2) hts (fun w hw => (List.mem_filter.mp (ct_i2 w hw)).1) (hts _ (z_in 2 (by decide)))).elim fun cC h => h.elim fun iS h => ⟨(cC, iS), fun _ => h⟩
      | 3, _ => exact (u_known (C := ct_R3) (T := ct_T3) (N := ct_N 3) (n := ct_N 3) hts (fun w hw => (List.mem_filter.mp (ct_i3 w hw)).1) (hts _ (z_in 3 (by decide)))).elim fun cC h => h.elim fun iS h => ⟨(cC, iS), fun _ => h⟩
      | 4, _ => exact (u_known (C := ct_R4) (T := ct_T4) (N := ct_N 4) (n := ct_N 4) hts (fun w hw => (List.mem_filter.mp (ct_i4 w hw)).1) (hts _ (z_in 4 (by decide)))).elim fun cC h => h.elim fun iS h => ⟨(cC, iS), fun _ => h⟩
      | 5, _ => exact (u_known (C := ct_R5) (T := ct_T5) (N := ct_N 5) (n := ct_N 5) hts (fun w hw => (List.mem_filter.mp (ct_i5 w hw)).1) (hts _ (z_in 5 (by decide)))).elim fun cC h => h.elim fun iS h => ⟨(cC, iS), fun _ => h⟩
      | 6, _ => exact (u_known (C := ct_R6) (T := ct_T6) (N := ct_N 6) (n := ct_N 6) hts (fun w hw => (List.mem_filter.mp (ct_i6 w hw)).1) (hts _ (z_in 6 (by decide)))).elim fun cC h => h.elim fun iS h => ⟨(cC, iS), fun _ => h⟩
      | 7, _ => exact (u_known (C := ct_R7) (T := ct_T7) (N := ct_N 7) (n := ct_N 7) hts (fun w hw => (List.mem_filter.mp (ct_i7 w hw)).1) (hts _ (z_in 7 (by decide)))).elim fun cC h => h.elim fun iS h => ⟨(cC, iS), fun _ => h⟩
      | 8, _ => exact (u_known (C := ct_R8) (T := ct_T8) (N := ct_N 8) (n := ct_N 8) hts (fun w hw => (List.mem_filter.mp (ct_i8 w hw)).1) (hts _ (z_in 8 (by decide)))).elim fun cC h => h.elim fun iS h => ⟨(cC, iS), fun _ => h⟩
      | 9, _ => exact (u_known (C := ct_R9) (T := ct_T9) (N := ct_N 9) (n := ct_N 9) hts (fun w hw => (List.mem_filter.mp (ct_i9 w hw)).1) (hts _ (z_in 9 (by decide)))).elim fun cC h => h.elim fun iS h => ⟨(cC, iS), fun _ => h⟩
      | 10, _ => exact (u_known (C := ct_R10) (T := ct_T10) (N := ct_N 10) (n := ct_N 10) hts (fun w hw => (List.mem_filter.mp (ct_i10 w hw)).1) (hts _ (z_in 10 (by decide)))).elim fun cC h => h.elim fun iS h => ⟨(cC, iS), fun _ => h⟩
      | 11, _ => exact (u_known (C := ct_R11) (T := ct_T11) (N := ct_N 11) (n := ct_N 11) hts (fun w hw => (List.mem_filter.mp (ct_i11 w hw)).1) (hts _ (z_in 11 (by decide)))).elim fun cC h => h.elim fun iS h => ⟨(cC, iS), fun _ => h⟩
      | 12, _ => exact (u_known (C := ct_R12) (T := ct_T12) (N := ct_N 12) (n := ct_N 12) hts (fun w hw => (List.mem_filter.mp (ct_i12 w hw)).1) (hts _ (z_in 12 (by decide)))).elim fun cC h => h.elim fun iS h => ⟨(cC, iS), fun _ => h⟩
      | c + 13, h => exact absurd h (by omega)
    · exact ⟨(0, fun _ => 0), fun x => absurd x h⟩
  have hT : ∀ ty : FieldType, ∃ cA : ClassId, ty ∈ ma_tyl → ArrOfT s cA ty ∧ va_RA s cA ty := by
    intro ty
    by_cases h : ty ∈ ma_tyl
    · have h2 : ty = .int ∨ ty = .long ∨ ty = .byte ∨ ty = .boolean ∨ ty = .object "FlakeArms$Flake" ∨ ty = .object "FlakeArms$Growth" ∨ ty = .array .int := by
        simpa [ma_tyl] using h
      obtain ⟨a1, a2, a3, a4, a5, a6, a7⟩ := z_ao
      rcases h2 with rfl | rfl | rfl | rfl | rfl | rfl | rfl
      · obtain ⟨c, e⟩ := z_arr (hts _ a4) (fun C z => by cases z); exact ⟨c, fun _ => e⟩
      · obtain ⟨c, e⟩ := z_arr (hts _ a5) (fun C z => by cases z); exact ⟨c, fun _ => e⟩
      · obtain ⟨c, e⟩ := z_arr (hts _ a6) (fun C z => by cases z); exact ⟨c, fun _ => e⟩
      · obtain ⟨c, e⟩ := z_arr (hts _ a7) (fun C z => by cases z); exact ⟨c, fun _ => e⟩
      · obtain ⟨c, e⟩ := z_obj (hts _ a1); exact ⟨c, fun _ => e⟩
      · obtain ⟨c, e⟩ := z_obj (hts _ a2); exact ⟨c, fun _ => e⟩
      · obtain ⟨c, e⟩ := z_aa (hts _ a3); exact ⟨c, fun _ => e⟩
    · exact ⟨0, fun x => absurd x h⟩
  -- static arrays
  obtain ⟨i1, i2, i3, i4, i5, i6, i7⟩ := z_ini
  have hZ : ∀ j : Nat, ∃ t : Nat, j < 2 → va_Z "FlakeArms$Flake" (ma_sn j) "[I" (.ref t) (fun q => s.heap.size ≤ q) s s.heap ∧ va_T .int t (ma_sl j) (fun k => .int (ma_sv j k)) (fun q => s.heap.size ≤ q) s s.heap := by
    intro j
    by_cases hj : j < 2
    · obtain ⟨c1, c2, c3⟩ := z_cells j hj
      have hel : ∀ k : Nat, k < ma_sl j → (Term.elem (z_st j) (.int (Int32.ofNat k))).eval #[Value.ref b] s none [] s = some (.int (ma_sv j k)) := by
        intro k hk
        match j, hj, hk with
        | 0, _, hk => exact va_eqt (hs _ (z_el0 k hk))
        | 1, _, hk => exact va_eqt (hs _ (z_el1 k hk))
      obtain ⟨t, e1, e2⟩ := va_Tof (A := fun q => s.heap.size ≤ q) (N := ma_sl j) (f := fun k => .int (ma_sv j k)) (by match j, hj with | 0, _ => decide | 1, _ => decide) (hs _ c2) (va_eqt (hs _ c3)) hel hA
      exact ⟨t, fun _ => ⟨va_Zof (hts _ c1) (hts _ i1) e1 hA, e2⟩⟩
    · exact ⟨0, fun x => absurd x hj⟩
  -- texts
  obtain ⟨adK, adV, v1, v2⟩ := vk_Sof (args := #[Value.ref b]) (s := s) (N := 12) (tm := z_tm) (len := ma_tl) (byt := ma_tb) (A := fun q => s.heap.size ≤ q) (fun i hi => (show ∀ i, i < 12 → ma_tl.getD i 0 < 2 ^ 31 by decide) i hi) (fun i hi => hs _ (z_tx i hi).1) (fun i hi => hs _ (z_tx i hi).2.1) (fun i hi => hs _ (z_tx i hi).2.2.1) (fun i hi => hs _ (z_tx i hi).2.2.2.1) (fun i hi j hj => hs _ (z_te i hi j hj)) (fun i j hi hj ne => (z_ne i hi j hj ne).imp (hs _) (hs _)) hA
  -- the formatter
  have hF : ∃ f : Nat, va_Z "jdk/internal/util/Preconditions" "SIOOBE_FORMATTER" "Ljava/util/function/BiFunction;" .null (fun q => s.heap.size ≤ q) s s.heap ∨ va_Z "jdk/internal/util/Preconditions" "SIOOBE_FORMATTER" "Ljava/util/function/BiFunction;" (.ref f) (fun q => s.heap.size ≤ q) s s.heap := by
    have h := hs _ i7
    cases hv : (Term.static "jdk/internal/util/Preconditions" "SIOOBE_FORMATTER" "Ljava/util/function/BiFunction;").eval #[Value.ref b] s none [] s with
    | none => simp [Cond.before, Cond.holds, Cond.value, hv] at h
    | some w =>
      cases w with
      | null => exact ⟨0, Or.inl (va_Zof (hts _ i5) (hts _ i3) hv hA)⟩
      | ref f => exact ⟨f, Or.inr (va_Zof (hts _ i5) (hts _ i3) hv hA)⟩
      | _ => simp [Cond.before, Cond.holds, Cond.value, hv] at h
  obtain ⟨ff, hF⟩ := hF
  have hAd : ∃ ad : Nat → Nat, (∀ j, j < 2 → ad j = Classical.choose (hZ j)) ∧ (∀ i, i < 12 → ad (2 + i) = adK i) ∧ (∀ i, i < 12 → ad (20 + i) = adV i) ∧ ad 60 = ff ∧ ad 1000 = b ∧ ad 5000 = L ∧ ∀ k, nI (ad (5001 + k)) = xs k := by
    refine ⟨fun q => if q < 2 then Classical.choose (hZ q) else if q < 14 then adK (q - 2) else if q < 20 then 0 else if q < 32 then adV (q - 20) else if q = 60 then ff else if q = 1000 then b else if q = 5000 then L else (xs (q - 5001)).toBitVec.toNat, fun j hj => ?_, fun i hi => ?_, fun i hi => ?_, rfl, rfl, rfl, fun k => ?_⟩
    · dsimp only
      rw [if_pos hj]
    · dsimp only
      rw [if_neg (by omega), if_pos (by omega), Nat.add_sub_cancel_left]
    · dsimp only
      rw [if_neg (by omega), if_neg (by omega), if_neg (by omega), if_pos (by omega), Nat.add_sub_cancel_left]
    · dsimp only
      rw [if_neg (by omega), if_neg (by omega), if_neg (by omega), if_neg (by omega), if_neg (by omega), if_neg (by omega), if_neg (by omega), Nat.add_sub_cancel_left]
      exact nI_bits _
  obtain ⟨ad, aZ, aK, aV, a60, a1000, a5000, aX⟩ := hAd
  have ss : ma_ss ((fun c => (Classical.choose (hC c)).1, fun c => (Classical.choose (hC c)).2), fun ty => Classical.choose (hT ty), s.heap.size, s.heap, ad) = (L, xs) := Prod.ext a5000 (funext aX)
  refine ⟨((fun c => (Classical.choose (hC c)).1, fun c => (Classical.choose (hC c)).2), fun ty => Classical.choose (hT ty), s.heap.size, s.heap, ad), rfl, rfl, a1000, ss, ⟨fun c q hq => ?_, fun k q hk => ?_⟩, ⟨fun j hj => ?_, ?_⟩, ?_, fun i hi => ?_, va_Zof (hts _ i4) (hts _ i2) (va_eqt (hs _ i6)) hA, by show _ ∨ va_Z _ _ _ (.ref (ad 60)) _ s s.heap; rw [a60]; exact hF, rfl, fun c t g1 g2 g3 => va_Nc.of (hs _ (z_nc g1 g2 g3)), fun c t g1 g2 g3 g4 => va_Nw.of rfl (hts _ (z_ca g1 g2 g3 g4)), fun ty h => ?_⟩
  · have hc : c < 13 := (List.getElem?_eq_some_iff.mp hq).1
    have e : q = (ct_R c, ct_T c, ct_N c) := by
      match c, hc, hq with
      | 0, _, hq => exact (Option.some.inj hq).symm
      | 1, _, hq => exact (Option.some.inj hq).symm
      | 2, _, hq => exact (Option.some.inj hq).symm
      | 3, _, hq => exact (Option.some.inj hq).symm
      | 4, _, hq => exact (Option.some.inj hq).symm
      | 5, _, hq => exact (Option.some.inj hq).symm
      | 6, _, hq => exact (Option.some.inj hq).symm
      | 7, _, hq => exact (Option.some.inj hq).symm
      | 8, _, hq => exact (Option.some.inj hq).symm
      | 9, _, hq => exact (Option.some.inj hq).symm
      | 10, _, hq => exact (Option.some.inj hq).symm
      | 11, _, hq => exact (Option.some.inj hq).symm
      | 12, _, hq => exact (Option.some.inj hq).symm
      | c + 13, hc, _ => exact absurd hc (by omega)
    rw [e]
    exact Classical.choose_spec (hC c) hc
  · obtain ⟨ty, hm, rfl⟩ := List.mem_map.mp (List.mem_of_getElem? hk)
    exact Classical.choose_spec (hT ty) hm
  · show va_Z _ _ _ (.ref (ad j)) _ s s.heap ∧ va_T .int (ad j) _ _ _ s s.heap
    rw [aZ j hj]
    exact Classical.choose_spec (hZ j) hj
  · rw [ss]
    show va_T .int (ad 1000) L (fun k => .int (xs k)) _ s s.heap
    rw [a1000]
    obtain ⟨scr, x1, x2, x3, x4, x5⟩ := hX
    exact ⟨scr, x1, x2, x3, Nat.le_of_eq x4.symm, by rw [x4], x5, hA b hbl⟩
  · refine ⟨fun i hi => ?_, fun i j hi hj e => v1.2 i j hi hj ?_⟩
    · show va_O _ (ad (2 + i)) _ s s.heap ∧ va_OF _ _ _ _ (ad (2 + i)) _ s s.heap ∧ va_OF _ _ _ (.ref (ad (20 + i))) (ad (2 + i)) _ s s.heap ∧ va_T .byte (ad (20 + i)) _ _ _ s s.heap
      rw [aK i hi, aV i hi]
      exact v1.1 i hi
    · have e : ad (2 + i) = ad (2 + j) := e
      rw [aK i hi, aK j hj] at e
      exact e
  · show vk_R _ _ _ (ad (2 + i)) s
    rw [aK i hi]
    exact vk_R.of (hts _ (z_tx i hi).2.2.2.2) (v2 i hi)
  · rcases h with rfl | rfl | rfl
    · exact hts _ z_ao.1
    · exact hts _ z_ao.2.1
    · exact hts _ z_ao.2.2.1
theorem whole_start {p : Program} {e : Env} {s : State} {m : MethodId} {below : List Frame} {meth : Method} {c : Code} (l : Launch) (hflags : l.flags = flags0) {b L : Nat} {xs : Nat → Int32} (hL : L ≤ 320) (C0 : lw_At p s m meth c b L xs) : W p l e room_1 s m #[Value.ref b] below meth c s.heap [] 0 0 (lw_Z below #[Value.ref b] s) (entryFrame m ([Value.ref b] : List Value).toArray 4) := by
  obtain ⟨hx, hb, hr, hml, hown, hts, hX, hbl, hlocks, hgv, hname⟩ := id C0
  obtain ⟨G, g1, g2, g3, ss, gK, gS⟩ := z_world hL hts hX hbl hgv
  obtain ⟨z1, z2, z3, z4, z5⟩ := z_285
  have hl := lv_entry ([.ref b]) (n := 4) (Nat.le_of_ble_eq_true rfl)
  rw [lg_entry_eq]
  generalize (lg_sl ([.ref b]) ++ List.replicate (4 - (lg_sl ([.ref b])).length) Slot.unset).toArray = ls at hl ⊢
  have hl : lv_has ls 4 [(0, .ref b)] := hl
  have hM : ma_M G 285 p room_1 s m #[Value.ref b] meth c := ⟨hx, by rw [z1]; exact hb, by rw [z2]; exact hml, by rw [z4]; exact hown, fun w hw => hts w (List.mem_filter.mp hw).1, by rw [z3]; exact hr, hlocks, by rw [z5]; exact hname, gK, gS, fun q hq => by rw [g2], z_lev.1, z_lev.2⟩
  have hR : ma_R G (0, (fun _ => ma_no), (ma_ss G).1, (ma_ss G).2) s.heap := ⟨by rw [g1]; rfl, fun q hq => by rw [g2], fun k hk => absurd hk (Nat.not_lt_zero _), fun k hk => rfl, rfl⟩
  have hLr : ma_lr G (mt_n 285) ls [some (.retAddr 1000), none, none, none] := by
    rw [z2]
    refine ⟨hl.1, hl.2.1, fun i v hv => ?_⟩
    match i, hv with
    | 0, hv =>
      have hv : some (some (Value.retAddr 1000)) = some (some v) := hv
      injection hv with hv
      injection hv with hv
      rw [← hv]
      show ls[0]? = some (.val (.ref (G.2.2.2.2 1000)))
      rw [g3]
      exact hl.2.2 (0, .ref b) List.mem_cons_self
    | 1, hv => exact absurd hv (by simp)
    | 2, hv => exact absurd hv (by simp)
    | 3, hv => exact absurd hv (by simp)
    | i + 4, hv => exact absurd hv (by simp)
  have hss : (ma_ss G).1 = L := by rw [ss]
  have k0 := m285 (Q := fun r _ => r = some (.int 1)) (n := (ma_ss G).1) (g := (ma_ss G).2) (by rw [hss]; exact hL) (fun h => rfl)
  have e0 : me_pc 285 0 = 0 := by decide +kernel
  have k1 := k0 G p l e room_1 s m #[Value.ref b] below meth c s.heap [] 0 0 ls (lw_Z below #[Value.ref b] s) hM hR (Nat.le_refl _) (fun q hq => by cases hq) (Nat.le_of_ble_eq_true rfl) (Nat.le_of_ble_eq_true rfl) hLr
  rw [e0] at k1
  refine k1 ?_
  intro pc' ls' st' r h' H' locs' cells' slots' q hret hR' hz' hlo' hc' hs'
  subst q
  obtain ⟨d, rfl, ty, hr0, hn0⟩ := hret
  rw [z1] at d
  refine va_forget (fun q hq => by rw [← g1]; exact hlo' q hq) ?_
  refine W.widen (k := 600000) (n := 7302250) (by omega) (by omega) ?_
  exact lw_ret hx hb hr hlocks d
set_option maxHeartbeats 4000000 in
theorem lw_walk (l : Launch) (hflags : l.flags = flags0) (b : Addr) (xs : List Int32) : MetFree l x (headSpec (Jvm.Cond.code x code maxLocals ret :: tables_1) room_1) (lw_P b xs) (fun _ _ _ _ _ => True) lw_Q := by
  refine MetFree.of_bodyS (code := code) (maxLocals := maxLocals) (ret := ret) (by decide) ?_ ?_
  · intro args s m h hn
    obtain ⟨meth, c, h1, h2, h3, h4, h5, h6, -, -⟩ := Cond.code_spec hn (atoms_spec (ws := Jvm.Cond.code x code maxLocals ret :: tables_1) h _ List.mem_cons_self)
    exact ⟨meth, c, h1, h2, h3, h4, h5, h6⟩
  · intro p e s m args below meth c s₁ B hml0 hP _
    obtain ⟨rfl, hx, hbd, hgv⟩ := hP
    obtain ⟨scr, harrAt, hlist, hof, hsmall⟩ := hx
    obtain ⟨hcb, hkn, -, -⟩ := State.arrayAt?_spec harrAt
    have hown : s.vm.findClass R_law = some m.cls := findClass_of_methodNamed B.named
    have hts0 : ∀ c ∈ (Jvm.Cond.code x code maxLocals ret :: tables_1), c.before #[Value.ref b] s = true := atoms_spec (ws := Jvm.Cond.code x code maxLocals ret :: tables_1) B.pre
    have hts : ∀ w ∈ lw_tbl, w.before #[Value.ref b] s = true := k2_hts_sels lw_privs (fun w hw => hts0 w (List.mem_cons_of_mem _ hw)) lw_privs_ok
    have hml : c.maxLocals = 4 := B.maxLocals_eq (hts0 _ List.mem_cons_self)
    have X₀ : Stand p l e room_1 s m #[Value.ref b] below meth c s₁ [] 0 0 := Stand.of_body B
    have hh0 : s₁.heap = s.heap := by rw [B.state]; rfl
    have hsz : scr.slots.size = xs.length := by rw [← Array.length_toList, hlist, List.length_map]
    have hval : ∀ j : Nat, j < xs.length → scr.slots[j]? = some (.int (xs.getD j 0)) := fun j hj => by
      rw [← Array.getElem?_toList, hlist]
      simp [hj]
    have hbl : b < s.heap.size := (Array.getElem?_eq_some_iff.mp hcb).1
    have hX : va_X b xs.length (fun j => xs.getD j 0) s s.heap := ⟨scr, hcb, hof, hkn, hsz, hval⟩
    have K : W p l e room_1 s m #[Value.ref b] below meth c s₁.heap [] 0 0 (lw_Z below #[Value.ref b] s) (entryFrame m ([Value.ref b] : List Value).toArray 4) := by
      rw [hh0]
      exact whole_start l hflags hbd ⟨B.exec, B.bytes, B.returns, hml, hown, hts, hX, hbl, B.notSynchronized, hgv, (name_of_methodNamed B.named B.method).1⟩
    obtain ⟨t, a1, o, b1, b2, b3⟩ := K s₁ rfl X₀
    exact ⟨t, o, a1, b1, b2, b3⟩
theorem lw_pre_spec {args : Array Value} {s : State} (h : (Jvm.Cond.and given_1 narrow_1).before args s = true) (hr : rest_1_c.before args s = true) : ∃ (b : Addr) (xs : List Int32), lw_P b xs args s := by
  have hs := flat_of_before _ h
  have hq := flat_of_before _ hr
  have hc : (Cond.count 1).before args s = true := hs _ (by decide +kernel)
  have harr : (Cond.arrayOf (.arg 0) .int).before args s = true := hs _ (by decide +kernel)
  have hle : (Cond.le (.length (.arg 0)) (.int 320)).before args s = true := hs _ (by decide +kernel)
  have hlen : (Cond.isInt (.length (.arg 0))).before args s = true := hq _ (by decide +kernel)
  have hall : (Cond.all (.arg 0) (.isInt (.elem (.arg 0) (.index 0)))).before args s = true := hq _ (by decide +kernel)
  obtain ⟨b, xs, hb, hx⟩ := State.ints_of_pre rfl harr hlen hall
  have hsm : xs.length < 2 ^ 31 := hx.choose_spec.2.2.2
  have hev : (Term.length (.arg 0)).eval args s none [] s = some (.int xs.length.toInt32) := hx.length_eval hb
  have hv := Cond.le_ints hev (show (Term.int 320).eval args s none [] s = some (.int 320) from rfl)
  have hd : xs.length.toInt32 ≤ 320 := by
    simpa [Cond.before, Cond.holds, hv] using hle
  have hN : xs.length ≤ 320 := (Int32.ofNat_le_ofNat hsm (by decide)).mp (show Int32.ofNat xs.length ≤ Int32.ofNat 320 from hd)
  exact ⟨b, xs, Cond.one_arg hc (show args[0]? = some (.ref b) from hb), hx, hN, h⟩
theorem lw_comes (l : Launch) (hflags : l.flags = flags0) : Comes l x (Jvm.Cond.code x code maxLocals ret :: tables_1) room_1 (fun tb e args s => Calls_1 tb e args s ∧ rest_1 tb e args s ∧ Pre_1 tb e args s)
    (fun _ _ args s o t => lw_Q args s o t) := by
  intro p e ha hc hk s m args below hf hfit hheap happ hpre
  obtain ⟨b, xs, hP⟩ := lw_pre_spec hpre.2.2 hpre.2.1
  obtain ⟨k, o, h1, h2, h3, hQ⟩ := lw_walk l hflags b xs p e ha hc hk s m args below hf ((Spec.applies_iff_loose hf).mp happ).1 hP trivial
  exact ⟨k, o, h1, h2, h3, hQ⟩
theorem lw_frame {s t : State} {o : Outcome} {args : Array Value} (h : Framed s o t [] 600000 7302250) :
    Framed s o t (fieldLocs frame_1_writes args s ++ arrayLocs frame_1_arrays args s ++ staticLocs frame_1_statics s) 600000 7302250 := h
theorem lw_limb (L : Cond) (hL : ∀ (args : Array Value) (s t : State), L.after args s (.returned (some (.int 1))) t = true) :
    ArmFor flags0 classFile x code maxLocals ret World_1 tables_1 room_1 Calls_1 rest_1 Pre_1
      (fun tb e a s o t => postC L tb e a s o t ∧ Framed s o t (fieldLocs frame_1_writes a s ++ arrayLocs frame_1_arrays a s ++ staticLocs frame_1_statics s) 600000 7302250) := by
  intro l hflags _ _ p e ha hc hk s m args below hf hfit hheap happ hpre
  obtain ⟨k, o, h1, h2, h3, rfl, hF⟩ := lw_comes l hflags p e ha hc hk s m args below hf hfit hheap happ hpre
  exact ⟨k, _, h1, h2, h3, hL args s _, lw_frame hF⟩
theorem i_vc : Claimed_1_1 ∧ Claimed_1_2 := ⟨lw_limb limb_1_1 (fun args s t => by simp [limb_1_1, Cond.after, Cond.holds, Cond.value]), lw_limb limb_1_2 (fun args s t => Cond.after_iff.mpr (by
  first | (rw [show limb_1_2 = Cond.eq .result (.int 1) from rfl, Cond.eq_ints (x := 1) (y := 1) rfl rfl]; simp; done) | (simp [limb_1_2, Cond.value, Term.eval]; done)))⟩

