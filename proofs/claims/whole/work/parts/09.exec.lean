/-! WHAT AN INSTRUCTION ASKS: 'me_x' says in one step what must hold at instruction k of method m for the run to go on (at the next instructions: 'go'; behind a call: 'aw'). The codes are the machine's own instructions with resolved operands: branches name instructions by place; '.multianewarray c k' is getfield k of class c, '.invokeinterface c k' putfield, '.jsr', '.jsr_w', '.ldc' constants, '.ret' a new int[n][k], '.invokedynamic' a superclass' method, '.putstatic' a call that the receiver's class chooses, '.ldc2_w' the JDK's own methods, '.faload', '.fastore' booleans -/
abbrev ma_K : Type := Nat → Nat × Nat → ma_L → List Value → ma_H → Prop
def me_g : ma_L → Nat → Option Value
  | [], _ => none
  | v :: _, 0 => v
  | _ :: r, n + 1 => me_g r n
def me_s : ma_L → Nat → Option Value → ma_L
  | [], _, _ => []
  | _ :: r, 0, v => v :: r
  | w :: r, n + 1, v => w :: me_s r n v
theorem me_g_eq : ∀ (L : ma_L) (n : Nat) (v : Value), me_g L n = some v → L[n]? = some (some v)
  | [], _, _, h => by cases h
  | w :: _, 0, _, h => by rw [List.getElem?_cons_zero]; exact congrArg some h
  | _ :: r, n + 1, v, h => by rw [List.getElem?_cons_succ]; exact me_g_eq r n v h
theorem me_s_eq : ∀ (L : ma_L) (n : Nat) (v : Option Value), me_s L n v = L.set n v
  | [], _, _ => rfl
  | _ :: _, 0, _ => rfl
  | w :: r, n + 1, v => by show w :: me_s r n v = w :: r.set n v; rw [me_s_eq r n v]
def me_nl (x : Option Value) : Prop := match x with
  | some (.long _) => False
  | some (.double _) => False
  | _ => True
theorem me_nl_eq {L : ma_L} {n : Nat} (h : n = 0 ∨ me_nl (me_g L (n - 1))) : n = 0 ∨ ma_nl L[n - 1]? := by
  rcases h with h | h
  · exact Or.inl h
  · refine Or.inr ?_
    cases e : L[n - 1]? with
    | none => trivial
    | some o =>
      cases o with
      | none => trivial
      | some v =>
        have e2 : ∀ (L : ma_L) (n : Nat), L[n]? = some (some v) → me_g L n = some v := by
          intro L
          induction L with
          | nil => intro n h; cases h
          | cons w r ih =>
            intro n h
            cases n with
            | zero => rw [List.getElem?_cons_zero] at h; exact Option.some.inj h
            | succ n => rw [List.getElem?_cons_succ] at h; exact ih n h
        rw [e2 L _ e] at h
        cases v <;> first | exact h | trivial
def me_cat (v : Value) : Nat := match v with
  | .long _ => 2
  | .double _ => 2
  | _ => 1
def me_cs : List Value → Nat
  | [] => 0
  | v :: r => me_cat v + me_cs r
theorem me_cs_eq : ∀ r : List Value, (r.map fun v => v.category).sum = me_cs r
  | [] => rfl
  | v :: r => by
    show v.category + (r.map fun v => v.category).sum = me_cat v + me_cs r
    rw [me_cs_eq r]
    cases v <;> rfl
def me_isR (v : Value) : Prop := match v with
  | .ref _ => True
  | .null => True
  | .retAddr _ => True
  | _ => False
theorem me_isR_eq {v : Value} (h : me_isR v) : v = .null ∨ (∃ a, v = .ref a) ∨ ∃ a, v = .retAddr a := by
  cases v <;> first | exact h.elim | exact Or.inl rfl | exact Or.inr (Or.inl ⟨_, rfl⟩) | exact Or.inr (Or.inr ⟨_, rfl⟩)
-- what stands on the stack
def xi (st : List Value) (f : Int32 → List Value → Prop) : Prop := match st with
  | .int x :: r => f x r
  | _ => False
def xl (st : List Value) (f : Int64 → List Value → Prop) : Prop := match st with
  | .long x :: r => f x r
  | _ => False
def xr (st : List Value) (f : Nat → List Value → Prop) : Prop := match st with
  | .ref x :: r => f x r
  | _ => False
def xv (st : List Value) (f : Value → List Value → Prop) : Prop := match st with
  | x :: r => f x r
  | [] => False
def xa (st : List Value) (f g : Nat → List Value → Prop) : Prop := match st with
  | .ref x :: r => f x r
  | .retAddr x :: r => g x r
  | _ => False
def xgi (L : ma_L) (n : Nat) (f : Int32 → Prop) : Prop := match me_g L n with
  | some (.int x) => f x
  | _ => False
def xgl (L : ma_L) (n : Nat) (f : Int64 → Prop) : Prop := match me_g L n with
  | some (.long x) => f x
  | _ => False
def xgr (L : ma_L) (n : Nat) (f : Value → Prop) : Prop := match me_g L n with
  | some v => me_isR v ∧ f v
  | none => False
-- what a cell holds
def xo (c : ma_C) (f : Nat → List Value → Prop) : Prop := match c with
  | .inr (ci, fs) => f ci fs
  | _ => False
def xf (fs : List Value) (k : Nat) (f : Value → Prop) : Prop := match fs[k]? with
  | some v => f v
  | none => False
def xI (c : ma_C) (ty : FieldType) (f : Nat → (Nat → Int32) → Prop) : Prop := match c with
  | .inl (t, n, .inl g) => t = ty ∧ f n g
  | _ => False
def xJ (c : ma_C) (f : Nat → (Nat → Int64) → Prop) : Prop := match c with
  | .inl (t, n, .inr (.inl g)) => t = .long ∧ f n g
  | _ => False
def xR (c : ma_C) (f : FieldType → Nat → (Nat → Option Nat) → Prop) : Prop := match c with
  | .inl (t, n, .inr (.inr (.inr (.inr g)))) => f t n g
  | _ => False
def xA (c : ma_C) (f : FieldType → vp_A → Prop) : Prop := match c with
  | .inl (t, a) => f t a
  | _ => False
/-- a class c stands under class base -/
def me_un (base c : Nat) : Bool := c == base || ma_sub c base
/-- a field may hold this -/
def me_fit (ty : FieldType) (v : Value) : Prop := match ty, v with
  | .int, .int _ => True
  | .long, .long _ => True
  | .boolean, .int x => x = 0 ∨ x = 1
  | .object _, .ref _ => True
  | .array _, .ref _ => True
  | .object _, .null => True
  | .array _, .null => True
  | _, _ => False
theorem me_fit_eq {ty : FieldType} {v : Value} (h : me_fit ty v) : (∀ G : ma_G, narrow ty (ma_v G v) = ma_v G v) ∧ ∀ G : ma_G, fits ty (ma_v G v) = true := by
  cases ty <;> cases v <;> first
    | exact h.elim
    | exact ⟨fun _ => rfl, fun _ => rfl⟩
    | (rcases h with rfl | rfl <;> exact ⟨fun _ => rfl, fun _ => rfl⟩)
/-- a boolean that a method answers -/
def me_rz (m : Nat) (x : Int32) : Prop := match mt_r m with
  | some .int => True
  | some .boolean => x = 0 ∨ x = 1
  | _ => False
/-- the method that a receiver of class c has for the declared method x -/
def me_vl : List (Nat × Nat × Nat) := [(286, 0, 2), (286, 8, 90), (287, 1, 47), (288, 0, 1), (288, 1, 5), (288, 3, 44), (288, 6, 81), (288, 7, 85), (288, 8, 88), (289, 0, 41), (289, 1, 41), (289, 3, 41), (289, 6, 41), (289, 7, 41), (289, 8, 41), (290, 0, 2), (290, 1, 47), (290, 3, 47), (290, 6, 82), (290, 7, 47), (290, 8, 90), (291, 0, 3), (291, 1, 48), (291, 3, 48), (291, 6, 48), (291, 7, 86), (291, 8, 3), (292, 6, 49), (293, 0, 42), (293, 1, 42), (293, 3, 42), (293, 6, 42), (293, 7, 42), (293, 8, 42), (294, 0, 40), (294, 1, 40), (294, 3, 40), (294, 6, 40), (294, 7, 40), (294, 8, 40), (295, 0, 49), (295, 1, 7), (295, 3, 49), (295, 6, 49), (295, 7, 49), (295, 8, 89), (296, 0, 50), (296, 1, 6), (296, 3, 50), (296, 6, 83), (296, 7, 50), (296, 8, 50), (297, 0, 43), (297, 1, 43), (297, 3, 43), (297, 6, 43), (297, 7, 43), (297, 8, 43)]
def me_vt (x c : Nat) : Option Nat := (me_vl.find? (fun q => q.1 == x && q.2.1 == c)).map (fun q => q.2.2)
/-- how many values a method takes, this object among them -/
def me_al : List Nat := [5, 5, 2, 2, 5, 5, 2, 2, 1, 2, 1, 1, 1, 2, 3, 1, 2, 3, 2, 2, 2, 2, 1, 2, 2, 1, 1, 2, 1, 2, 2, 2, 2, 4, 3, 3, 2, 3, 5, 4, 2, 3, 3, 3, 5, 2, 2, 2, 2, 2, 2, 1, 1, 2, 3, 2, 2, 2, 2, 3, 2, 2, 1, 4, 1, 4, 5, 3, 3, 3, 4, 2, 1, 2, 1, 1, 2, 2, 2, 1, 5, 5, 2, 2, 5, 5, 2, 5, 5, 2, 2, 1, 1, 1, 2, 2, 3, 1, 4, 2, 4, 3, 1, 3, 1, 2, 4, 5, 3, 3, 3, 4, 3, 3, 4, 3, 3, 3, 3, 3, 2, 2, 4, 3, 4, 2, 3, 4, 3, 2, 2, 3, 4, 2, 3, 4, 4, 4, 4, 3, 4, 2, 2, 1, 1, 2, 1, 2, 1, 1, 3, 2, 2, 4, 3, 2, 1, 2, 2, 2, 3, 1, 3, 1, 2, 2, 1, 1, 3, 2, 1, 1, 3, 2, 3, 2, 1, 1, 1, 2, 2, 1, 2, 2, 2, 2, 1, 1, 4, 4, 2, 1, 2, 4, 5, 2, 2, 2, 3, 3, 3, 3, 4, 5, 4, 3, 3, 3, 4, 3, 2, 3, 3, 3, 4, 3, 3, 3, 3, 2, 2, 4, 3, 4, 4, 4, 2, 3, 3, 2, 3, 4, 1, 3, 3, 1, 3, 3, 2, 3, 2, 2, 2, 3, 3, 4, 2, 3, 1, 4, 4, 3, 4, 3, 4, 2, 2, 3, 2, 2, 2, 2, 2, 2, 2, 2, 2, 2, 2, 4, 2, 2, 4, 2, 1, 1, 2, 2, 2, 2, 2, 2, 2, 2, 2, 1, 2, 2, 5, 3, 2, 2, 2, 3, 2, 2, 2, 3]
def me_na (m : Nat) : Nat := me_al.getD m 0
def xc (m : Nat) (st : List Value) (f : List Value → List Value → Prop) : Prop := me_na m ≤ st.length ∧ f (st.take (me_na m)).reverse (st.drop (me_na m))
def me_call (m m' : Nat) (aw : ma_K) (k : Nat) (b : Nat × Nat) (L : ma_L) (as r : List Value) (h : ma_H) : Prop :=
  me_cs r ≤ 8 ∧ (mt_c m').1 ≤ b.1 ∧ (mt_c m').2 ≤ b.2 ∧ ma_X m' as h (fun v h' => aw (k + 1) (b.1 - (mt_c m').1, b.2 - (mt_c m').2) L (v.toList ++ r) h')
def me_jdk (m : Nat) (j : Nat) (go : ma_K) (k : Nat) (b : Nat × Nat) (L : ma_L) (st : List Value) (h : ma_H) : Prop := match j with
  | 0 => xi st fun y r => xi r fun x r => me_cs r ≤ 8 ∧ go (k + 1) b L (.int (if x < y then y else x) :: r) h
  | 1 => xi st fun y r => xi r fun x r => me_cs r ≤ 8 ∧ go (k + 1) b L (.int (if y < x then y else x) :: r) h
  | 2 => xi st fun x r => me_cs r ≤ 8 ∧ go (k + 1) b L (.int (if 0 ≤ x then x else -x) :: r) h
  | 3 => xi st fun n r => xi r fun dp r => xr r fun a r => xi r fun sp r => xr r fun a0 r => xI (h.2.1 a0) .int fun n0 f => xI (h.2.1 a) .int fun n1 g => (¬ sp < 0 ∧ ¬ dp < 0 ∧ ¬ n < 0 ∧ sp.toNatClampNeg + n.toNatClampNeg ≤ n0 ∧ dp.toNatClampNeg + n.toNatClampNeg ≤ n1) ∧ me_cs r ≤ 8 ∧ go (k + 1) b L r (ma_set h a (.inl (.int, n1, .inl (va_cpy f g sp.toNatClampNeg dp.toNatClampNeg n.toNatClampNeg))))
  | 4 => xi st fun n r => xi r fun dp r => xr r fun a r => xi r fun sp r => xr r fun a0 r => xI (h.2.1 a0) .byte fun n0 f => xI (h.2.1 a) .byte fun n1 g => (¬ sp < 0 ∧ ¬ dp < 0 ∧ ¬ n < 0 ∧ sp.toNatClampNeg + n.toNatClampNeg ≤ n0 ∧ dp.toNatClampNeg + n.toNatClampNeg ≤ n1 ∧ ∀ i, i < n.toNatClampNeg → fits .byte (.int (f (sp.toNatClampNeg + i))) = true) ∧ me_cs r ≤ 8 ∧ go (k + 1) b L r (ma_set h a (.inl (.byte, n1, .inl (va_cpy f g sp.toNatClampNeg dp.toNatClampNeg n.toNatClampNeg))))
  | 5 => xr st fun _ r => me_cs r ≤ 8 ∧ go (k + 1) b L r h
  | 6 => xa st (fun _ _ => False) fun q r => (2 ≤ q ∧ q < 14) ∧ me_cs r ≤ 8 ∧ go (k + 1) b L (.int (nI (ma_tl.getD (q - 2) 0)) :: r) h
  | 7 => xi st fun i r => xa r (fun _ _ => False) fun q r => (2 ≤ q ∧ q < 14) ∧ vp_in i (ma_tl.getD (q - 2) 0) ∧ me_cs r ≤ 8 ∧ go (k + 1) b L (.int ((ma_tb.getD (q - 2) []).getD i.toNatClampNeg 0) :: r) h
  | _ => False
def me_ol : List Nat := [0, 0, 0, 0, 1, 1, 1, 1, 2, 2, 2, 2, 2, 2, 2, 2, 2, 2, 2, 2, 2, 2, 2, 2, 2, 2, 2, 2, 2, 2, 2, 2, 2, 2, 2, 2, 2, 2, 3, 3, 3, 3, 3, 3, 3, 3, 3, 3, 3, 3, 3, 4, 4, 4, 4, 4, 4, 4, 4, 4, 4, 4, 5, 5, 5, 5, 5, 5, 5, 5, 5, 5, 5, 5, 5, 5, 5, 5, 5, 5, 6, 6, 6, 6, 7, 7, 7, 8, 8, 8, 8, 9, 9, 10, 10, 10, 10, 10, 10, 10, 10, 10, 11, 11, 11, 11, 11, 11, 11, 11, 11, 11, 11, 11, 11, 11, 11, 11, 11, 11, 11, 11, 11, 11, 11, 11, 11, 11, 11, 11, 11, 11, 11, 11, 11, 11, 11, 11, 11, 11, 11, 11, 11, 11, 11, 11, 11, 11, 11, 11, 11, 11, 11, 11, 11, 11, 11, 11, 11, 11, 11, 12, 12, 12, 12, 12, 12, 12, 12, 12, 12, 12, 12, 12, 12, 12, 12, 12, 12, 12, 12, 12, 12, 12, 12, 12, 12, 12, 12, 12, 12, 12, 12, 12, 12, 12, 12, 12, 12, 12, 12, 12, 12, 12, 12, 12, 12, 12, 12, 12, 12, 12, 12, 12, 12, 12, 12, 12, 12, 12, 12, 12, 12, 12, 12, 12, 12, 12, 12, 12, 12, 12, 12, 12, 12, 12, 12, 12, 12, 12, 12, 12, 12, 12, 12, 12, 12, 12, 12, 12, 12, 12, 12, 12, 12, 12, 12, 12, 12, 12, 12, 12, 12, 12, 12, 12, 12, 12, 12, 12, 12, 12, 12, 12, 12, 12, 5, 5, 5, 5, 5, 5, 5, 5, 5, 13]
def me_ow (m : Nat) : Nat := me_ol.getD m 13
def me_x (m : Nat) (go aw : ma_K) (Q : ma_Q) (i : Instr) (k : Nat) (b : Nat × Nat) (L : ma_L) (st : List Value) (h : ma_H) : Prop := match i with
  | .iconst z => go (k + 1) b L (.int (ma_kI z) :: st) h
  | .bipush z => go (k + 1) b L (.int (ma_kI z) :: st) h
  | .sipush z => go (k + 1) b L (.int (ma_kI z) :: st) h
  | .jsr z => go (k + 1) b L (.int (ma_kI z) :: st) h
  | .lconst z => go (k + 1) b L (.long (lN z.val) :: st) h
  | .jsr_w z => go (k + 1) b L (.long (ma_kL z) :: st) h
  | .aconst_null => go (k + 1) b L (.null :: st) h
  | .ldc q => go (k + 1) b L (.retAddr (2 + q) :: st) h
  | .getstatic j => go (k + 1) b L (.retAddr j :: st) h
  | .iload n => xgi L n fun x => go (k + 1) b L (.int x :: st) h
  | .iload_n n => xgi L n.val fun x => go (k + 1) b L (.int x :: st) h
  | .lload n => xgl L n fun x => go (k + 1) b L (.long x :: st) h
  | .lload_n n => xgl L n.val fun x => go (k + 1) b L (.long x :: st) h
  | .aload n => xgr L n fun v => go (k + 1) b L (v :: st) h
  | .aload_n n => xgr L n.val fun v => go (k + 1) b L (v :: st) h
  | .istore n => xi st fun x r => (n = 0 ∨ me_nl (me_g L (n - 1))) ∧ go (k + 1) b (me_s L n (some (.int x))) r h
  | .istore_n n => xi st fun x r => (n.val = 0 ∨ me_nl (me_g L (n.val - 1))) ∧ go (k + 1) b (me_s L n.val (some (.int x))) r h
  | .lstore n => xl st fun x r => (n = 0 ∨ me_nl (me_g L (n - 1))) ∧ go (k + 1) b (me_s (me_s L n (some (.long x))) (n + 1) none) r h
  | .lstore_n n => xl st fun x r => (n.val = 0 ∨ me_nl (me_g L (n.val - 1))) ∧ go (k + 1) b (me_s (me_s L n.val (some (.long x))) (n.val + 1) none) r h
  | .astore n => xv st fun v r => me_isR v ∧ (n = 0 ∨ me_nl (me_g L (n - 1))) ∧ go (k + 1) b (me_s L n (some v)) r h
  | .astore_n n => xv st fun v r => me_isR v ∧ (n.val = 0 ∨ me_nl (me_g L (n.val - 1))) ∧ go (k + 1) b (me_s L n.val (some v)) r h
  | .iinc n z => xgi L n fun x => (n = 0 ∨ me_nl (me_g L (n - 1))) ∧ go (k + 1) b (me_s L n (some (.int (x + ma_kI z)))) st h
  | .iadd => xi st fun y r => xi r fun x r => go (k + 1) b L (.int (x + y) :: r) h
  | .isub => xi st fun y r => xi r fun x r => go (k + 1) b L (.int (x - y) :: r) h
  | .imul => xi st fun y r => xi r fun x r => go (k + 1) b L (.int (x * y) :: r) h
  | .iand => xi st fun y r => xi r fun x r => go (k + 1) b L (.int (x &&& y) :: r) h
  | .ior => xi st fun y r => xi r fun x r => go (k + 1) b L (.int (x ||| y) :: r) h
  | .ixor => xi st fun y r => xi r fun x r => go (k + 1) b L (.int (x ^^^ y) :: r) h
  | .ishl => xi st fun y r => xi r fun x r => go (k + 1) b L (.int (x <<< (y &&& 31)) :: r) h
  | .ishr => xi st fun y r => xi r fun x r => go (k + 1) b L (.int (x >>> (y &&& 31)) :: r) h
  | .iushr => xi st fun y r => xi r fun x r => go (k + 1) b L (.int ((x.toUInt32 >>> (y.toUInt32 &&& Int32.toUInt32 31)).toInt32) :: r) h
  | .idiv => xi st fun y r => xi r fun x r => ¬ y = 0 ∧ go (k + 1) b L (.int (x / y) :: r) h
  | .irem => xi st fun y r => xi r fun x r => ¬ y = 0 ∧ go (k + 1) b L (.int (x - x / y * y) :: r) h
  | .ladd => xl st fun y r => xl r fun x r => go (k + 1) b L (.long (x + y) :: r) h
  | .lsub => xl st fun y r => xl r fun x r => go (k + 1) b L (.long (x - y) :: r) h
  | .lmul => xl st fun y r => xl r fun x r => go (k + 1) b L (.long (x * y) :: r) h
  | .land => xl st fun y r => xl r fun x r => go (k + 1) b L (.long (x &&& y) :: r) h
  | .lor => xl st fun y r => xl r fun x r => go (k + 1) b L (.long (x ||| y) :: r) h
  | .lxor => xl st fun y r => xl r fun x r => go (k + 1) b L (.long (x ^^^ y) :: r) h
  | .ldiv => xl st fun y r => xl r fun x r => ¬ y = 0 ∧ go (k + 1) b L (.long (x / y) :: r) h
  | .lrem => xl st fun y r => xl r fun x r => ¬ y = 0 ∧ go (k + 1) b L (.long (x - x / y * y) :: r) h
  | .lushr => xi st fun y r => xl r fun x r => go (k + 1) b L (.long ((x.toUInt64 >>> (y.toInt64.toUInt64 &&& Int64.toUInt64 63)).toInt64) :: r) h
  | .lshl => xi st fun y r => xl r fun x r => go (k + 1) b L (.long (x <<< (y.toInt64 &&& 63)) :: r) h
  | .lshr => xi st fun y r => xl r fun x r => go (k + 1) b L (.long (x >>> (y.toInt64 &&& 63)) :: r) h
  | .lcmp => xl st fun y r => xl r fun x r => go (k + 1) b L (.int (lg_cmp x y) :: r) h
  | .ineg => xi st fun x r => go (k + 1) b L (.int (-x) :: r) h
  | .i2l => xi st fun x r => go (k + 1) b L (.long x.toInt64 :: r) h
  | .l2i => xl st fun x r => go (k + 1) b L (.int x.toInt32 :: r) h
  | .i2b => xi st fun x r => go (k + 1) b L (.int x.toInt8.toInt32 :: r) h
  | .i2s => xi st fun x r => go (k + 1) b L (.int x.toInt16.toInt32 :: r) h
  | .dup => xv st fun v r => me_cat v = 1 ∧ go (k + 1) b L (v :: v :: r) h
  | .pop => xv st fun v r => me_cat v = 1 ∧ go (k + 1) b L r h
  | .dup_x1 => xv st fun v r => xv r fun w r => (me_cat v = 1 ∧ me_cat w = 1) ∧ go (k + 1) b L (v :: w :: v :: r) h
  | .dup2 => xv st fun v r => xv r fun w r => (me_cat v = 1 ∧ me_cat w = 1) ∧ go (k + 1) b L (v :: w :: v :: w :: r) h
  | .ifCond .eq t => xi st fun x r => if x = 0 then go t.toNat b L r h else go (k + 1) b L r h
  | .ifCond .ne t => xi st fun x r => if x = 0 then go (k + 1) b L r h else go t.toNat b L r h
  | .ifCond .lt t => xi st fun x r => if x < 0 then go t.toNat b L r h else go (k + 1) b L r h
  | .ifCond .ge t => xi st fun x r => if x < 0 then go (k + 1) b L r h else go t.toNat b L r h
  | .ifCond .gt t => xi st fun x r => if x ≤ 0 then go (k + 1) b L r h else go t.toNat b L r h
  | .ifCond .le t => xi st fun x r => if x ≤ 0 then go t.toNat b L r h else go (k + 1) b L r h
  | .if_icmp .eq t => xi st fun y r => xi r fun x r => if x = y then go t.toNat b L r h else go (k + 1) b L r h
  | .if_icmp .ne t => xi st fun y r => xi r fun x r => if x = y then go (k + 1) b L r h else go t.toNat b L r h
  | .if_icmp .lt t => xi st fun y r => xi r fun x r => if x < y then go t.toNat b L r h else go (k + 1) b L r h
  | .if_icmp .ge t => xi st fun y r => xi r fun x r => if x < y then go (k + 1) b L r h else go t.toNat b L r h
  | .if_icmp .gt t => xi st fun y r => xi r fun x r => if x ≤ y then go (k + 1) b L r h else go t.toNat b L r h
  | .if_icmp .le t => xi st fun y r => xi r fun x r => if x ≤ y then go t.toNat b L r h else go (k + 1) b L r h
  | .goto t => go t.toNat b L st h
  | .ifnull t => match st with | .null :: r => go t.toNat b L r h | .ref _ :: r => go (k + 1) b L r h | _ => False
  | .ifnonnull t => match st with | .null :: r => go (k + 1) b L r h | .ref _ :: r => go t.toNat b L r h | _ => False
  | .tableswitch t lo hi ts => xi st fun x r => if x.toInt < lo ∨ hi < x.toInt then go t.toNat b L r h else go ((ts.toList.getD (x.toInt - lo).toNat 0).toNat) b L r h
  | .lookupswitch t ps => xi st fun x r => go (Op.lookupswitch.offset ps.toList t x.toInt).toNat b L r h
  | .multianewarray base n => xr st fun a r => xo (h.2.1 a) fun ci fs => me_un base ci = true ∧ xf fs n fun v => go (k + 1) b L (v :: r) h
  | .invokeinterface base n => xv st fun v r => xr r fun a r => xo (h.2.1 a) fun ci fs => me_un base ci = true ∧ n < fs.length ∧ me_fit (ct_ty base n) v ∧ go (k + 1) b L r (ma_set h a (.inr (ci, fs.set n v)))
  | .iaload => xi st fun i r => xa r (fun a r => xI (h.2.1 a) .int fun n f => vp_in i n ∧ go (k + 1) b L (.int (f i.toNatClampNeg) :: r) h) fun j r => if j = 1000 then vp_in i h.2.2.1 ∧ go (k + 1) b L (.int (h.2.2.2 i.toNatClampNeg) :: r) h else (j < 2 ∧ vp_in i (ma_sl j) ∧ go (k + 1) b L (.int (ma_sv j i.toNatClampNeg) :: r) h)
  | .baload => xi st fun i r => xr r fun a r => xI (h.2.1 a) .byte fun n f => vp_in i n ∧ go (k + 1) b L (.int (f i.toNatClampNeg) :: r) h
  | .faload => xi st fun i r => xr r fun a r => xI (h.2.1 a) .boolean fun n f => vp_in i n ∧ go (k + 1) b L (.int (f i.toNatClampNeg) :: r) h
  | .laload => xi st fun i r => xr r fun a r => xJ (h.2.1 a) fun n f => vp_in i n ∧ go (k + 1) b L (.long (f i.toNatClampNeg) :: r) h
  | .aaload => xi st fun i r => xr r fun a r => xR (h.2.1 a) fun t n f => (t = .object "FlakeArms$Flake" ∨ t = .object "FlakeArms$Growth" ∨ t = .array .int) ∧ vp_in i n ∧ go (k + 1) b L (va_rf (f i.toNatClampNeg) :: r) h
  | .iastore => xi st fun x r => xi r fun i r => xr r fun a r => xI (h.2.1 a) .int fun n f => vp_in i n ∧ go (k + 1) b L r (ma_set h a (.inl (.int, n, .inl (upd f i.toNatClampNeg x))))
  | .bastore => xi st fun x r => xi r fun i r => xr r fun a r => xI (h.2.1 a) .byte fun n f => vp_in i n ∧ go (k + 1) b L r (ma_set h a (.inl (.byte, n, .inl (upd f i.toNatClampNeg (vp_nar .byte x)))))
  | .fastore => xi st fun x r => xi r fun i r => xr r fun a r => xI (h.2.1 a) .boolean fun n f => vp_in i n ∧ go (k + 1) b L r (ma_set h a (.inl (.boolean, n, .inl (upd f i.toNatClampNeg (vp_nar .boolean x)))))
  | .lastore => xl st fun x r => xi r fun i r => xr r fun a r => xJ (h.2.1 a) fun n f => vp_in i n ∧ go (k + 1) b L r (ma_set h a (.inl (.long, n, .inr (.inl (vp_updL f i.toNatClampNeg x)))))
  | .aastore => xr st fun v r => xi r fun i r => xr r fun a r => xR (h.2.1 a) fun t n f => xo (h.2.1 v) fun ci _ => ((t = .object "FlakeArms$Flake" ∧ ci = 2) ∨ (t = .object "FlakeArms$Growth" ∧ (ma_gk ci = true ∧ ma_sub ci 3 = true))) ∧ vp_in i n ∧ go (k + 1) b L r (ma_set h a (.inl (t, n, .inr (.inr (.inr (.inr (va_up f i.toNatClampNeg (some v))))))))
  | .arraylength => xa st (fun a r => xA (h.2.1 a) fun t z => ma_tyl.contains t = true ∧ go (k + 1) b L (.int (nI z.1) :: r) h) fun j r => if j = 1000 then go (k + 1) b L (.int (nI h.2.2.1) :: r) h else (j < 2 ∧ go (k + 1) b L (.int (nI (ma_sl j)) :: r) h)
  | .new c => 1 ≤ b.1 ∧ ct_N c ≤ b.2 ∧ go (k + 1) (b.1 - 1, b.2 - ct_N c) L (.ref h.1 :: st) (ma_new h (.inr (c, ct_d c)))
  | .newarray .int => xi st fun x r => (x = nI x.toNatClampNeg ∧ x.toNatClampNeg < 100000) ∧ 1 ≤ b.1 ∧ x.toNatClampNeg ≤ b.2 ∧ go (k + 1) (b.1 - 1, b.2 - x.toNatClampNeg) L (.ref h.1 :: r) (ma_new h (.inl (.int, x.toNatClampNeg, .inl (fun _ => 0))))
  | .newarray .long => xi st fun x r => (x = nI x.toNatClampNeg ∧ x.toNatClampNeg < 100000) ∧ 1 ≤ b.1 ∧ x.toNatClampNeg ≤ b.2 ∧ go (k + 1) (b.1 - 1, b.2 - x.toNatClampNeg) L (.ref h.1 :: r) (ma_new h (.inl (.long, x.toNatClampNeg, .inr (.inl (fun _ => 0)))))
  | .newarray .byte => xi st fun x r => (x = nI x.toNatClampNeg ∧ x.toNatClampNeg < 100000) ∧ 1 ≤ b.1 ∧ x.toNatClampNeg ≤ b.2 ∧ go (k + 1) (b.1 - 1, b.2 - x.toNatClampNeg) L (.ref h.1 :: r) (ma_new h (.inl (.byte, x.toNatClampNeg, .inl (fun _ => 0))))
  | .newarray .boolean => xi st fun x r => (x = nI x.toNatClampNeg ∧ x.toNatClampNeg < 100000) ∧ 1 ≤ b.1 ∧ x.toNatClampNeg ≤ b.2 ∧ go (k + 1) (b.1 - 1, b.2 - x.toNatClampNeg) L (.ref h.1 :: r) (ma_new h (.inl (.boolean, x.toNatClampNeg, .inl (fun _ => 0))))
  | .anewarray c => xi st fun x r => (x = nI x.toNatClampNeg ∧ x.toNatClampNeg < 100000) ∧ 1 ≤ b.1 ∧ x.toNatClampNeg ≤ b.2 ∧ (c = 2 ∨ c = 3) ∧ go (k + 1) (b.1 - 1, b.2 - x.toNatClampNeg) L (.ref h.1 :: r) (ma_new h (.inl (.object (ct_R c), x.toNatClampNeg, .inr (.inr (.inr (.inr (fun _ => none)))))))
  | .ret _ => xi st fun y r => xi r fun x r => (x = nI x.toNatClampNeg ∧ x.toNatClampNeg < 1000 ∧ y = nI y.toNatClampNeg ∧ y.toNatClampNeg < 1000) ∧ 1 + x.toNatClampNeg ≤ b.1 ∧ x.toNatClampNeg + x.toNatClampNeg * y.toNatClampNeg ≤ b.2 ∧ go (k + 1) (b.1 - (1 + x.toNatClampNeg), b.2 - (x.toNatClampNeg + x.toNatClampNeg * y.toNatClampNeg)) L (.ref h.1 :: r) (ma_new2 h x.toNatClampNeg y.toNatClampNeg)
  | .instanceof t => xr st fun a r => xo (h.2.1 a) fun ci _ => ma_gk ci = true ∧ go (k + 1) b L (.int (if ma_sub ci t = true then 1 else 0) :: r) h
  | .invokestatic x => xc x st fun as r => me_call m x aw k b L as r h
  | .invokespecial x => xc x st fun as r => xr as fun _ _ => me_call m x aw k b L as r h
  | .invokedynamic x => xc x st fun as r => xr as fun a _ => xo (h.2.1 a) fun ci _ => ci < 13 ∧ me_call m x aw k b L as r h
  | .invokevirtual x => xc x st fun as r => xr as fun a _ => xo (h.2.1 a) fun ci _ => ci = me_ow x ∧ me_call m x aw k b L as r h
  | .putstatic x => xc x st fun as r => xr as fun a _ => xo (h.2.1 a) fun ci _ => match me_vt x ci with | some y => me_call m y aw k b L as r h | none => False
  | .ldc2_w j => me_jdk m j go k b L st h
  | .ireturn => match st with | [.int x] => me_rz m x ∧ Q (some (.int x)) h | _ => False
  | .lreturn => match st with | [.long x] => Q (some (.long x)) h | _ => False
  | .areturn => match st with | [.ref x] => Q (some (.ref x)) h | [.null] => Q (some .null) h | _ => False
  | .return_ => match st with | [] => Q none h | _ => False
  | _ => False
