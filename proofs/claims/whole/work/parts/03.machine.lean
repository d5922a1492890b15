/-! AN ABSTRACT MACHINE over this claim's bytecode: cells are numbered as they are made (cell k stands at base + k), static arrays and texts are '.retAddr j'; 'ma_A': from instruction k of method m on the machine comes to a return with Q -/
/-- an abstract cell: an array (its components' type, its length, what it holds), or an object (its class' number, its fields) -/
abbrev ma_C : Type := (FieldType × vp_A) ⊕ (Nat × List Value)
/-- an abstract heap: how many cells, and each; and the script (its length, its ints), which lies at an old address -/
abbrev ma_H : Type := Nat × (Nat → ma_C) × (Nat × (Nat → Int32))
/-- where the run stands: class ids and slots, array class ids, the first new address, the heap at the law's start, where static arrays and texts lie -/
abbrev ma_G : Type := va_G × (FieldType → ClassId) × Nat × Heap × (Nat → Nat)
abbrev ma_L : Type := List (Option Value)
abbrev ma_Q : Type := Option Value → ma_H → Prop
def ma_no : ma_C := .inr (99, [])
def ma_v (G : ma_G) (v : Value) : Value := match v with
  | .ref k => .ref (G.2.2.1 + k)
  | .retAddr j => .ref (G.2.2.2.2 j)
  | v => v
def ma_a (G : ma_G) (x : vp_A) : vp_A := match x with
  | (n, .inr (.inr (.inr (.inr f)))) => (n, .inr (.inr (.inr (.inr (fun j => (f j).map (fun k => G.2.2.1 + k))))))
  | x => x
def ma_c (G : ma_G) (x : ma_C) : va_E := match x with
  | .inl (ty, a) => .inl (G.2.1 ty, ma_a G a)
  | .inr (ci, fs) => .inr (ci, fs.map (ma_v G))
/-- the script, told by the world's last part: its length at 5000, its ints from 5001 on -/
def ma_ss (G : ma_G) : Nat × (Nat → Int32) := (G.2.2.2.2 5000, fun k => nI (G.2.2.2.2 (5001 + k)))
/-- the heap is as the abstract one says; nothing that was there before the law has changed -/
def ma_R (G : ma_G) (h : ma_H) (H : Heap) : Prop := H.size = G.2.2.1 + h.1 ∧ (∀ q : Nat, q < G.2.2.1 → H[q]? = G.2.2.2.1[q]?) ∧ (∀ k : Nat, k < h.1 → va_at G.1 classes (G.2.2.1 + k, ma_c G (h.2.1 k)) H) ∧ (∀ k : Nat, h.1 ≤ k → h.2.1 k = ma_no) ∧ h.2.2 = ma_ss G
def ma_set (h : ma_H) (a : Nat) (c : ma_C) : ma_H := (h.1, fun q => if q = a then c else h.2.1 q, h.2.2)
def ma_new (h : ma_H) (c : ma_C) : ma_H := (h.1 + 1, fun q => if q = h.1 then c else h.2.1 q, h.2.2)
/-- the array types in use -/
def ma_tyl : List FieldType := [.int, .long, .byte, .boolean, .object "FlakeArms$Flake", .object "FlakeArms$Growth", .array .int]
def ma_tys (G : ma_G) : List (ClassId × FieldType) := ma_tyl.map (fun ty => (G.2.1 ty, ty))
/-- locals -/
def ma_lr (G : ma_G) (nL : Nat) (ls : Array Slot) (L : ma_L) : Prop := ls.size = nL ∧ lv_wf ls ∧ ∀ (i : Nat) (v : Value), L[i]? = some (some v) → ls[i]? = some (.val (ma_v G v))
theorem ma_v_cat (G : ma_G) (v : Value) : (ma_v G v).category = v.category := by cases v <;> rfl
theorem ma_lr.at {G : ma_G} {nL : Nat} {ls : Array Slot} {L : ma_L} (h : ma_lr G nL ls L) {i : Nat} {v : Value} (e : L[i]? = some (some v)) : ls[i]? = some (.val (ma_v G v)) := h.2.2 i v e
def ma_nl (x : Option (Option Value)) : Prop := match x with
  | some (some (.long _)) => False
  | some (some (.double _)) => False
  | _ => True
theorem ma_lr.weaken {G : ma_G} {nL : Nat} {ls : Array Slot} {L L' : ma_L} (h : ma_lr G nL ls L) (hw : ∀ (i : Nat) (v : Value), L'[i]? = some (some v) → L[i]? = some (some v)) : ma_lr G nL ls L' := ⟨h.1, h.2.1, fun i v e => h.2.2 i v (hw i v e)⟩
/-- a store of one word -/
theorem ma_lr.set1 {G : ma_G} {nL : Nat} {ls : Array Slot} {L : ma_L} (h : ma_lr G nL ls L) {i : Nat} {v : Value} (hi : i < nL) (hc : v.category = 1) (hp : i = 0 ∨ ma_nl L[i - 1]?) :
    ∃ ls', storeLocals ls i (ma_v G v) = some ls' ∧ ma_lr G nL ls' (L.set i (some v)) := by
  have hl : lv_has ls nL ((List.range L.length).filterMap (fun j => match L[j]? with | some (some w) => some (j, ma_v G w) | _ => none)) := by
    refine ⟨h.1, h.2.1, fun q hq => ?_⟩
    obtain ⟨j, -, hj⟩ := List.mem_filterMap.mp hq
    cases hL : L[j]? with
    | none => rw [hL] at hj; cases hj
    | some o =>
      cases o with
      | none => rw [hL] at hj; cases hj
      | some w =>
        rw [hL] at hj
        cases hj
        exact h.2.2 j w hL
  obtain ⟨ls', e, h1, h2, h3⟩ := lv_store1 (v := ma_v G v) hl hi (by rw [ma_v_cat]; exact hc)
  refine ⟨ls', e, h1, h2, fun j w hj => ?_⟩
  by_cases hji : j = i
  · subst hji
    by_cases hlt : j < L.length
    · rw [List.getElem?_set_self hlt] at hj
      cases hj
      exact h3 (j, ma_v G v) List.mem_cons_self
    · rw [List.getElem?_eq_none (by rw [List.length_set]; omega)] at hj
      cases hj
  · rw [List.getElem?_set_ne (Ne.symm hji)] at hj
    refine h3 (j, ma_v G w) (List.mem_cons_of_mem _ (List.mem_filter.mpr ⟨List.mem_filterMap.mpr ⟨j, List.mem_range.mpr (List.getElem?_eq_some_iff.mp hj).1, by rw [hj]⟩, ?_⟩))
    have h5 : ¬ (j + 1 = i ∧ (ma_v G w).category = 2) := by
      rintro ⟨h6, h7⟩
      rcases hp with h8 | h8
      · omega
      · rw [show i - 1 = j by omega, hj] at h8
        rw [ma_v_cat] at h7
        cases w <;> simp [Value.category, ma_nl] at h7 h8
    simp only [Bool.and_eq_true, Bool.not_eq_true', beq_eq_false_iff_ne, Bool.and_eq_false_iff]
    refine ⟨hji, ?_⟩
    by_cases h6 : j + 1 = i
    · exact Or.inr (fun h7 => h5 ⟨h6, h7⟩)
    · exact Or.inl h6
/-- a store of two words -/
theorem ma_lr.set2 {G : ma_G} {nL : Nat} {ls : Array Slot} {L : ma_L} (h : ma_lr G nL ls L) {i : Nat} {v : Value} (hi : i + 1 < nL) (hc : v.category = 2) (hp : i = 0 ∨ ma_nl L[i - 1]?) :
    ∃ ls', storeLocals ls i (ma_v G v) = some ls' ∧ ma_lr G nL ls' ((L.set i (some v)).set (i + 1) none) := by
  have hl : lv_has ls nL ((List.range L.length).filterMap (fun j => match L[j]? with | some (some w) => some (j, ma_v G w) | _ => none)) := by
    refine ⟨h.1, h.2.1, fun q hq => ?_⟩
    obtain ⟨j, -, hj⟩ := List.mem_filterMap.mp hq
    cases hL : L[j]? with
    | none => rw [hL] at hj; cases hj
    | some o =>
      cases o with
      | none => rw [hL] at hj; cases hj
      | some w =>
        rw [hL] at hj
        cases hj
        exact h.2.2 j w hL
  obtain ⟨ls', e, h1, h2, h3⟩ := lv_store2 (v := ma_v G v) hl hi (by rw [ma_v_cat]; exact hc)
  refine ⟨ls', e, h1, h2, fun j w hj => ?_⟩
  by_cases hj1 : j = i + 1
  · subst hj1
    by_cases hlt : i + 1 < (L.set i (some v)).length
    · rw [List.getElem?_set_self hlt] at hj
      cases hj
    · rw [List.getElem?_eq_none (by rw [List.length_set]; omega)] at hj
      cases hj
  rw [List.getElem?_set_ne (Ne.symm hj1)] at hj
  by_cases hji : j = i
  · subst hji
    by_cases hlt : j < L.length
    · rw [List.getElem?_set_self hlt] at hj
      cases hj
      exact h3 (j, ma_v G v) List.mem_cons_self
    · rw [List.getElem?_eq_none (by rw [List.length_set]; omega)] at hj
      cases hj
  · rw [List.getElem?_set_ne (Ne.symm hji)] at hj
    refine h3 (j, ma_v G w) (List.mem_cons_of_mem _ (List.mem_filter.mpr ⟨List.mem_filterMap.mpr ⟨j, List.mem_range.mpr (List.getElem?_eq_some_iff.mp hj).1, by rw [hj]⟩, ?_⟩))
    have h5 : ¬ (j + 1 = i ∧ (ma_v G w).category = 2) := by
      rintro ⟨h6, h7⟩
      rcases hp with h8 | h8
      · omega
      · rw [show i - 1 = j by omega, hj] at h8
        rw [ma_v_cat] at h7
        cases w <;> simp [Value.category, ma_nl] at h7 h8
    simp only [Bool.and_eq_true, Bool.not_eq_true', beq_eq_false_iff_ne, Bool.and_eq_false_iff]
    refine ⟨hji, hj1, ?_⟩
    by_cases h6 : j + 1 = i
    · exact Or.inr (fun h7 => h5 ⟨h6, h7⟩)
    · exact Or.inl h6
/-- static arrays: which static holds them, and what they hold -/
def ma_CELLS : List Nat := [19, 20, 21, 22, 23, 24, 31, 32, 33, 34, 35, 36, 37, 43, 44, 45, 46, 47, 48, 49, 50, 55, 56, 57, 58, 59, 60, 61, 62, 63, 67, 68, 69, 70, 71, 72, 73, 74, 75, 76, 79, 80, 81, 82, 83, 84, 85, 86, 87, 88, 89, 92, 93, 94, 95, 96, 97, 98, 99, 100, 101, 105, 106, 107, 108, 109, 110, 111, 112, 113, 118, 119, 120, 121, 122, 123, 124, 125, 131, 132, 133, 134, 135, 136, 137, 144, 145, 146, 147, 148, 149]
def ma_TOW : List Int32 := [1, 13, 12, -1, -13, -12]
def ma_cell (k : Nat) : Nat := ma_CELLS.getD k 0
def ma_sn (j : Nat) : String := match j with
  | 0 => "CELLS"
  | _ => "TOWARDS"
def ma_sl (j : Nat) : Nat := match j with
  | 0 => 91
  | _ => 6
def ma_sv (j : Nat) : Nat → Int32 := match j with
  | 0 => fun k => nI (ma_cell k)
  | _ => fun k => ma_TOW.getD k 0
/-- the texts of LawReader: entries of its pool, what they spell -/
def ma_ti : List Nat := [88, 94, 96, 98, 100, 102, 104, 106, 108, 110, 112, 114]
def ma_tx : List String := ["use", "pick", "if", "or", "and", "not", "warm", "wet", "size", "span", "edge", "minute"]
def ma_tb : List (List Int32) := [[117, 115, 101], [112, 105, 99, 107], [105, 102], [111, 114], [97, 110, 100], [110, 111, 116], [119, 97, 114, 109], [119, 101, 116], [115, 105, 122, 101], [115, 112, 97, 110], [101, 100, 103, 101], [109, 105, 110, 117, 116, 101]]
def ma_tl : List Nat := [3, 4, 2, 2, 3, 3, 4, 3, 4, 4, 4, 6]
/-- the kinds of GROWTHS: Armed 0, Broken 1, Growth 3, Needled 6, Plated 7, Sided 8: who stands under whom -/
def ma_sub (c t : Nat) : Bool := c == t || [(0, 7), (0, 3), (8, 0), (8, 7), (8, 3), (7, 3), (1, 3), (6, 3)].contains (c, t)
def ma_gk (c : Nat) : Bool := [0, 1, 3, 6, 7, 8].contains c
def ma_S (G : ma_G) (s : State) : Prop :=
  ((∀ j : Nat, j < 2 → va_Z "FlakeArms$Flake" (ma_sn j) "[I" (.ref (G.2.2.2.2 j)) (fun q => G.2.2.1 ≤ q) s G.2.2.2.1 ∧ va_T .int (G.2.2.2.2 j) (ma_sl j) (fun k => .int (ma_sv j k)) (fun q => G.2.2.1 ≤ q) s G.2.2.2.1) ∧ va_T .int (G.2.2.2.2 1000) (ma_ss G).1 (fun k => .int ((ma_ss G).2 k)) (fun q => G.2.2.1 ≤ q) s G.2.2.2.1) ∧
  vk_S 12 ma_tl ma_tb (fun i => G.2.2.2.2 (2 + i)) (fun i => G.2.2.2.2 (20 + i)) (fun q => G.2.2.1 ≤ q) s G.2.2.2.1 ∧
  (∀ i : Nat, i < 12 → vk_R "FlakeArms$LawReader" (ma_ti.getD i 0) (ma_tx.getD i "") (G.2.2.2.2 (2 + i)) s) ∧
  va_Z "java/lang/String" "COMPACT_STRINGS" "Z" (.int 1) (fun q => G.2.2.1 ≤ q) s G.2.2.2.1 ∧ (va_Z "jdk/internal/util/Preconditions" "SIOOBE_FORMATTER" "Ljava/util/function/BiFunction;" .null (fun q => G.2.2.1 ≤ q) s G.2.2.2.1 ∨ va_Z "jdk/internal/util/Preconditions" "SIOOBE_FORMATTER" "Ljava/util/function/BiFunction;" (.ref (G.2.2.2.2 60)) (fun q => G.2.2.1 ≤ q) s G.2.2.2.1) ∧ G.2.2.2.1.size = G.2.2.1 ∧
  (∀ c t : Nat, ma_gk c = true → ma_gk t = true → ma_sub c t = false → va_Nc (ct_R c) (ct_R t) s) ∧
  (∀ c t : Nat, ma_gk c = true → ma_gk t = true → ma_sub c t = true → c ≠ t → va_Nw (.castable (ct_R c) (ct_R t)) s) ∧
  ∀ ty : FieldType, ty = .object "FlakeArms$Flake" ∨ ty = .object "FlakeArms$Growth" ∨ ty = .array .int → (Cond.arrayOver ty).before #[] s = true
/-- the machine stands in method m -/
def ma_M (G : ma_G) (m : Nat) (p : Program) (R : Room) (s : State) (mi : MethodId) (args : Array Value) (meth : Method) (c : Code) : Prop :=
  p.tables.exec = Jvm.exec ∧ c.code = mt_b m ∧ c.maxLocals = mt_n m ∧ s.vm.findClass (mt_y m).cls = some mi.cls ∧ (∀ w ∈ lw_ok, w.before args s = true) ∧ meth.sig.returnType = mt_r m ∧ meth.locks = false ∧ meth.name = (mt_y m).name ∧ va_K G.1 classes (ma_tys G) s ∧ ma_S G s ∧ (∀ q : Nat, q < G.2.2.1 → s.heap[q]? = G.2.2.2.1[q]?) ∧ mt_v m ≤ R.frames ∧ 40 * mt_v m ≤ R.locals
/-- a return: the instruction, the stack, the answer -/
def ma_ret (m pc : Nat) (st : List Value) (r : Option Value) : Prop := match r with
  | none => decode (mt_b m) pc = .ok (.return_, 1) ∧ st = [] ∧ mt_r m = none
  | some (.int v) => decode (mt_b m) pc = .ok (.ireturn, 1) ∧ st = [.int v] ∧ ∃ ty, mt_r m = some ty ∧ narrow ty (.int v) = .int v
  | some (.long v) => decode (mt_b m) pc = .ok (.lreturn, 1) ∧ st = [.long v] ∧ mt_r m = some .long
  | some v => decode (mt_b m) pc = .ok (.areturn, 1) ∧ st = [v] ∧ (v = .null ∨ ∃ a, v = .ref a) ∧ ∃ ty, mt_r m = some ty ∧ ((∃ n, ty = .object n) ∨ ∃ t, ty = .array t)
/-- from pc of method m on -/
def ma_P (m pc : Nat) (b : Nat × Nat) (L : ma_L) (st : List Value) (h : ma_H) (Q : ma_Q) : Prop :=
  ∀ (G : ma_G) (p : Program) (l : Launch) (e : Env) (R : Room) (s : State) (mi : MethodId) (args : Array Value) (below : List Frame) (meth : Method) (c : Code) (H : Heap) (locs : List Loc) (cells slots : Nat) (ls : Array Slot) (Z : State → Prop),
    ma_M G m p R s mi args meth c → ma_R G h H → s.heap.size ≤ H.size → (∀ q ∈ locs, G.2.2.1 ≤ q.base) → cells + b.1 ≤ R.cells → slots + b.2 ≤ R.slots → ma_lr G (mt_n m) ls L →
    (∀ (pc' : Nat) (ls' : Array Slot) (st' : List Value) (r : Option Value) (h' : ma_H) (H' : Heap) (locs' : List Loc) (cells' slots' : Nat), Q r h' → ma_ret m pc' st' r → ma_R G h' H' → s.heap.size ≤ H'.size → (∀ q ∈ locs', G.2.2.1 ≤ q.base) → cells' ≤ cells + b.1 → slots' ≤ slots + b.2 →
      W p l e R s mi args below meth c H' locs' cells' slots' Z (F0 mi pc' ls' (st'.map (ma_v G)))) →
    W p l e R s mi args below meth c H locs cells slots Z (F0 mi pc ls (st.map (ma_v G)))
def ma_w (m : Nat) : List Cond := .code (mt_y m) (mt_b m) (mt_n m) (mt_r m) :: lw_ok
def ma_rm (m : Nat) : Room := { frames := mt_v m, cells := (mt_c m).1, slots := (mt_c m).2, locals := 40 * mt_v m }
def ma_pre (G : ma_G) (as : List Value) (h : ma_H) : Array Value → State → Prop := fun a U => a = (as.map (ma_v G)).toArray ∧ ma_R G h U.heap ∧ va_K G.1 classes (ma_tys G) U ∧ ma_S G U
def ma_post (G : ma_G) (Q : ma_Q) : Array Value → State → Outcome → State → Prop := fun _ st o t => ∃ (r : Option Value) (h' : ma_H), o = .returned (r.map (ma_v G)) ∧ Q r h' ∧ ma_R G h' t.heap ∧ st.heap.size ≤ t.heap.size
/-- a call of method m with these arguments, from this heap, comes back with Q -/
def ma_X (m : Nat) (as : List Value) (h : ma_H) (Q : ma_Q) : Prop :=
  ∀ (G : ma_G) (l : Launch), Met l (mt_y m) (ma_w m) (ma_rm m) (ma_pre G as h) (ma_post G Q) (mt_c m).1 (mt_c m).2 (fun q => G.2.2.1 ≤ q)
theorem ma_over {ty : FieldType} (ht : ty = .object "FlakeArms$Flake" ∨ ty = .object "FlakeArms$Growth" ∨ ty = .array .int) {a a' : Array Value} {s U : State} (hW : s.WarmedH U.vm) (h : (Cond.arrayOver ty).before a s = true) : (Cond.arrayOver ty).before a' U = true := by
  rcases ht with rfl | rfl | rfl
  · exact Cond.arrayOver_alike hW.alike h
  · exact Cond.arrayOver_alike hW.alike h
  · exact Jvm.Stand.arrayOver_alikeB hW.alike h
theorem ma_S.moved {G : ma_G} {u U : State} (hW : u.WarmedH U.vm) (h : ma_S G u) : ma_S G U := by
  have hvm := hW.alike
  obtain ⟨h1, h2, h3, h4, h5, h6, h7, h8, h9⟩ := h
  exact ⟨⟨fun j hj => ⟨va_Z.moved hvm (h1.1 j hj).1, va_T.moved hvm (h1.1 j hj).2⟩, va_T.moved hvm h1.2⟩, vk_S.moved hvm h2, fun i hi => vk_R.warm hW (h3 i hi), va_Z.moved hvm h4, h5.imp (va_Z.moved hvm) (va_Z.moved hvm), h6, fun c t a1 a2 a3 => va_Nc.moved hvm (h7 c t a1 a2 a3), fun c t a1 a2 a3 a4 => va_Nw.warmC hW (h8 c t a1 a2 a3 a4), fun ty a1 => ma_over a1 hW (h9 ty a1)⟩
theorem ma_S.same {G : ma_G} {u U : State} (hv : U.vm = u.vm) (h : ma_S G u) : ma_S G U := ma_S.moved (by rw [hv]; exact State.WarmedH.refl u) h
theorem ma_pre_blind (G : ma_G) (as : List Value) (h : ma_H) : FrameBlind (ma_pre G as h) := by
  intro a U g mk q
  obtain ⟨q0, q1, q2, q3⟩ := q
  exact ⟨q0, q1, va_K.moved (u := U) (U := U.calling g mk a) (Vm.Alike.refl U.vm) q2, ma_S.same (u := U) (U := U.calling g mk a) rfl q3⟩
