/-! THE LAYOUT: the cells that the two constructors make, in their order: 0 the FlakeArms, 34 now, 57 kept, 80 the Model; from 115 on the GROWTHS -/
abbrev SD : Type := (FieldType × Nat × Nat) ⊕ (Nat × List Nat)
def sdl : List SD := [.inr (11, [37, 60, 0, 4, 0, 5, 10, 14, 0, 21, 26, 27, 28, 29, 30, 32, 33, 34]), .inl (.byte, 200, 0), .inr (5, [6, 0, 7, 8, 9, 0, 2]), .inl (.byte, 200, 0), .inl (.int, 201, 0), .inl (.int, 201, 0), .inl (.int, 201, 0), .inr (4, [0, 11, 12, 13, 0]), .inl (.int, 8, 0), .inl (.int, 8, 0), .inl (.int, 200, 0), .inl (.array .int, 6, 2), .inl (.int, 2, 0), .inl (.int, 2, 0), .inl (.int, 2, 0), .inl (.int, 2, 0), .inl (.int, 2, 0), .inl (.int, 2, 0), .inl (.array .int, 4, 2), .inl (.int, 40, 0), .inl (.int, 40, 0), .inl (.int, 40, 0), .inl (.int, 40, 0), .inl (.int, 4, 0), .inl (.int, 4, 0), .inl (.int, 4, 0), .inl (.int, 4, 0), .inr (9, [31, 0, 0]), .inl (.int, 30, 0), .inl (.long, 259, 1), .inl (.long, 259, 1), .inr (2, [0, 35, 36]), .inl (.int, 169, 0), .inl (.byte, 169, 0), .inr (10, [38, 51, 0, 52, 56, 57, 0, 0, 58, 59]), .inl (.object "FlakeArms$Flake", 4, 2), .inr (2, [0, 40, 41]), .inl (.int, 169, 0), .inl (.byte, 169, 0), .inr (2, [0, 43, 44]), .inl (.int, 169, 0), .inl (.byte, 169, 0), .inr (2, [0, 46, 47]), .inl (.int, 169, 0), .inl (.byte, 169, 0), .inr (2, [0, 49, 50]), .inl (.int, 169, 0), .inl (.byte, 169, 0), .inl (.object "FlakeArms$Growth", 6, 2), .inr (4, [0, 53, 54, 55, 0]), .inl (.int, 8, 0), .inl (.int, 8, 0), .inl (.int, 200, 0), .inl (.int, 24, 0), .inl (.int, 24, 0), .inl (.int, 91, 0), .inl (.int, 6, 0), .inr (10, [61, 74, 0, 75, 79, 80, 0, 0, 81, 82]), .inl (.object "FlakeArms$Flake", 4, 2), .inr (2, [0, 63, 64]), .inl (.int, 169, 0), .inl (.byte, 169, 0), .inr (2, [0, 66, 67]), .inl (.int, 169, 0), .inl (.byte, 169, 0), .inr (2, [0, 69, 70]), .inl (.int, 169, 0), .inl (.byte, 169, 0), .inr (2, [0, 72, 73]), .inl (.int, 169, 0), .inl (.byte, 169, 0), .inl (.object "FlakeArms$Growth", 6, 2), .inr (4, [0, 76, 77, 78, 0]), .inl (.int, 8, 0), .inl (.int, 8, 0), .inl (.int, 200, 0), .inl (.int, 24, 0), .inl (.int, 24, 0), .inl (.int, 91, 0), .inl (.int, 6, 0), .inr (12, [84, 85, 86, 87, 88, 89, 90, 91, 92, 0, 93, 0, 0, 94, 0, 95, 96, 97, 0, 0, 0, 0, 1, 0, 0, 98, 99, 100, 0, 0, 0, 101, 102, 103, 104, 1, 1, 105, 106, 107, 108, 0, 0, 109, 110, 111, 112, 113, 114, 0, 0, 0, 115, 0, 0, 0, 116, 0, 117]), .inl (.int, 91, 0), .inl (.int, 91, 0), .inl (.int, 91, 0), .inl (.int, 91, 0), .inl (.int, 91, 0), .inl (.int, 546, 0), .inl (.int, 12, 0), .inl (.int, 910, 0), .inl (.int, 4, 0), .inl (.int, 12, 0), .inl (.int, 48, 0), .inl (.int, 24, 0), .inl (.int, 200, 0), .inl (.int, 200, 0), .inl (.int, 6, 0), .inl (.int, 200, 0), .inl (.int, 200, 0), .inl (.boolean, 100, 0), .inl (.int, 24, 0), .inl (.boolean, 91, 0), .inl (.boolean, 91, 0), .inl (.long, 216, 1), .inl (.long, 216, 1), .inl (.int, 12, 0), .inl (.int, 12, 0), .inl (.int, 4, 0), .inl (.int, 4, 0), .inl (.long, 160, 1), .inl (.int, 4, 0), .inl (.int, 4, 0), .inl (.int, 4, 0), .inl (.int, 30, 0), .inl (.int, 700, 0), .inl (.int, 4, 0)]
def sd (a : Nat) : SD := sdl.getD a (.inr (99, []))
def aiC (c : ma_C) : Nat → Int32 := match c with
  | .inl (_, _, .inl g) => g
  | _ => fun _ => 0
def alC (c : ma_C) : Nat → Int64 := match c with
  | .inl (_, _, .inr (.inl g)) => g
  | _ => fun _ => 0
def arC (c : ma_C) : Nat → Option Nat := match c with
  | .inl (_, _, .inr (.inr (.inr (.inr g)))) => g
  | _ => fun _ => none
def fvC (c : ma_C) (i : Nat) : Value := match c with
  | .inr (_, fs) => fs.getD i .null
  | _ => .null
def fiC (c : ma_C) (i : Nat) : Int32 := match fvC c i with
  | .int v => v
  | _ => 0
def flC (c : ma_C) (i : Nat) : Int64 := match fvC c i with
  | .long v => v
  | _ => 0
def nfl (c : ma_C) : Nat → List Nat → List Value
  | _, [] => []
  | i, 0 :: r => .int (fiC c i) :: nfl c (i + 1) r
  | i, 1 :: r => .long (flC c i) :: nfl c (i + 1) r
  | i, 2 :: r => fvC c i :: nfl c (i + 1) r
  | i, (q + 3) :: r => .ref q :: nfl c (i + 1) r
/-- a cell as its description wants it -/
def nf (d : SD) (c : ma_C) : ma_C := match d with
  | .inl (t, n, 0) => .inl (t, n, .inl (aiC c))
  | .inl (t, n, 1) => .inl (t, n, .inr (.inl (alC c)))
  | .inl (t, n, _) => .inl (t, n, .inr (.inr (.inr (.inr (arC c)))))
  | .inr (k, l) => .inr (k, nfl c 0 l)
/-- the heap keeps to the layout -/
def Sh (h : ma_H) : Prop := 115 ≤ h.1 ∧ ∀ a, a < 115 → h.2.1 a = nf (sd a) (h.2.1 a)
abbrev ai (h : ma_H) (a : Nat) : Nat → Int32 := aiC (h.2.1 a)
abbrev al (h : ma_H) (a : Nat) : Nat → Int64 := alC (h.2.1 a)
abbrev ar (h : ma_H) (a : Nat) : Nat → Option Nat := arC (h.2.1 a)
abbrev fi (h : ma_H) (a i : Nat) : Int32 := fiC (h.2.1 a) i
abbrev fj (h : ma_H) (a i : Nat) : Int64 := flC (h.2.1 a) i
abbrev fv (h : ma_H) (a i : Nat) : Value := fvC (h.2.1 a) i
/-- h' is h but for the cells of S -/
def Fr (S : List Nat) (h h' : ma_H) : Prop := h'.1 = h.1 ∧ h'.2.2 = h.2.2 ∧ (∀ a, a ∉ S → h'.2.1 a = h.2.1 a) ∧ (Sh h → Sh h')
theorem Fr.refl (h : ma_H) : Fr [] h h := ⟨rfl, rfl, fun _ _ => rfl, fun q => q⟩
theorem Fr.trans {S T : List Nat} {h h1 h2 : ma_H} (a : Fr S h h1) (b : Fr T h1 h2) : Fr (S ++ T) h h2 := ⟨b.1.trans a.1, b.2.1.trans a.2.1, fun q hq => (b.2.2.1 q (fun x => hq (List.mem_append_right _ x))).trans (a.2.2.1 q (fun x => hq (List.mem_append_left _ x))), fun q => b.2.2.2 (a.2.2.2 q)⟩
theorem Fr.mono {S T : List Nat} {h h1 : ma_H} (a : Fr S h h1) (w : ∀ x ∈ S, x ∈ T) : Fr T h h1 := ⟨a.1, a.2.1, fun q hq => a.2.2.1 q (fun x => hq (w q x)), a.2.2.2⟩
theorem Fr.sh {S : List Nat} {h h1 : ma_H} (a : Fr S h h1) (H : Sh h) : Sh h1 := a.2.2.2 H
theorem Fr.at {S : List Nat} {h h1 : ma_H} (a : Fr S h h1) {q : Nat} (hq : q ∉ S) : h1.2.1 q = h.2.1 q := a.2.2.1 q hq
theorem Fr.set (h : ma_H) {a : Nat} {c : ma_C} (hc : c = nf (sd a) c) : Fr [a] h (ma_set h a c) := by
  refine ⟨rfl, rfl, fun q hq => if_neg (fun e => hq (by rw [e]; exact List.mem_singleton.mpr rfl)), fun H => ⟨H.1, fun q hq => ?_⟩⟩
  by_cases e : q = a
  · subst e
    rw [ma_set_at]
    exact hc
  · rw [ma_set_ne _ _ e]
    exact H.2 q hq
theorem sh_set {h : ma_H} (H : Sh h) {a : Nat} {c : ma_C} (hc : c = nf (sd a) c) : Sh (ma_set h a c) := (Fr.set h hc).sh H
theorem Fr.push {S : List Nat} {h h1 : ma_H} (f : Fr S h h1) {a : Nat} {c : ma_C} (hc : c = nf (sd a) c) : Fr (S ++ [a]) h (ma_set h1 a c) := f.trans (Fr.set h1 hc)
theorem Sh.e0 {h : ma_H} (H : Sh h) : h.2.1 0 = .inr (11, [.ref 34, .ref 57, .int (fi h 0 2), .ref 1, .int (fi h 0 4), .ref 2, .ref 7, .ref 11, .int (fi h 0 8), .ref 18, .ref 23, .ref 24, .ref 25, .ref 26, .ref 27, .ref 29, .ref 30, .ref 31]) := H.2 0 (by decide)
theorem Sh.e1 {h : ma_H} (H : Sh h) : h.2.1 1 = .inl (.byte, 200, .inl (ai h 1)) := H.2 1 (by decide)
theorem Sh.e2 {h : ma_H} (H : Sh h) : h.2.1 2 = .inr (5, [.ref 3, .int (fi h 2 1), .ref 4, .ref 5, .ref 6, .int (fi h 2 5), fv h 2 6]) := H.2 2 (by decide)
theorem Sh.e3 {h : ma_H} (H : Sh h) : h.2.1 3 = .inl (.byte, 200, .inl (ai h 3)) := H.2 3 (by decide)
theorem Sh.e4 {h : ma_H} (H : Sh h) : h.2.1 4 = .inl (.int, 201, .inl (ai h 4)) := H.2 4 (by decide)
theorem Sh.e5 {h : ma_H} (H : Sh h) : h.2.1 5 = .inl (.int, 201, .inl (ai h 5)) := H.2 5 (by decide)
theorem Sh.e6 {h : ma_H} (H : Sh h) : h.2.1 6 = .inl (.int, 201, .inl (ai h 6)) := H.2 6 (by decide)
theorem Sh.e7 {h : ma_H} (H : Sh h) : h.2.1 7 = .inr (4, [.int (fi h 7 0), .ref 8, .ref 9, .ref 10, .int (fi h 7 4)]) := H.2 7 (by decide)
theorem Sh.e8 {h : ma_H} (H : Sh h) : h.2.1 8 = .inl (.int, 8, .inl (ai h 8)) := H.2 8 (by decide)
theorem Sh.e9 {h : ma_H} (H : Sh h) : h.2.1 9 = .inl (.int, 8, .inl (ai h 9)) := H.2 9 (by decide)
theorem Sh.e10 {h : ma_H} (H : Sh h) : h.2.1 10 = .inl (.int, 200, .inl (ai h 10)) := H.2 10 (by decide)
theorem Sh.e11 {h : ma_H} (H : Sh h) : h.2.1 11 = .inl (.array .int, 6, .inr (.inr (.inr (.inr (ar h 11))))) := H.2 11 (by decide)
theorem Sh.e12 {h : ma_H} (H : Sh h) : h.2.1 12 = .inl (.int, 2, .inl (ai h 12)) := H.2 12 (by decide)
theorem Sh.e13 {h : ma_H} (H : Sh h) : h.2.1 13 = .inl (.int, 2, .inl (ai h 13)) := H.2 13 (by decide)
theorem Sh.e14 {h : ma_H} (H : Sh h) : h.2.1 14 = .inl (.int, 2, .inl (ai h 14)) := H.2 14 (by decide)
theorem Sh.e15 {h : ma_H} (H : Sh h) : h.2.1 15 = .inl (.int, 2, .inl (ai h 15)) := H.2 15 (by decide)
theorem Sh.e16 {h : ma_H} (H : Sh h) : h.2.1 16 = .inl (.int, 2, .inl (ai h 16)) := H.2 16 (by decide)
theorem Sh.e17 {h : ma_H} (H : Sh h) : h.2.1 17 = .inl (.int, 2, .inl (ai h 17)) := H.2 17 (by decide)
theorem Sh.e18 {h : ma_H} (H : Sh h) : h.2.1 18 = .inl (.array .int, 4, .inr (.inr (.inr (.inr (ar h 18))))) := H.2 18 (by decide)
theorem Sh.e19 {h : ma_H} (H : Sh h) : h.2.1 19 = .inl (.int, 40, .inl (ai h 19)) := H.2 19 (by decide)
theorem Sh.e20 {h : ma_H} (H : Sh h) : h.2.1 20 = .inl (.int, 40, .inl (ai h 20)) := H.2 20 (by decide)
theorem Sh.e21 {h : ma_H} (H : Sh h) : h.2.1 21 = .inl (.int, 40, .inl (ai h 21)) := H.2 21 (by decide)
theorem Sh.e22 {h : ma_H} (H : Sh h) : h.2.1 22 = .inl (.int, 40, .inl (ai h 22)) := H.2 22 (by decide)
theorem Sh.e23 {h : ma_H} (H : Sh h) : h.2.1 23 = .inl (.int, 4, .inl (ai h 23)) := H.2 23 (by decide)
theorem Sh.e24 {h : ma_H} (H : Sh h) : h.2.1 24 = .inl (.int, 4, .inl (ai h 24)) := H.2 24 (by decide)
theorem Sh.e25 {h : ma_H} (H : Sh h) : h.2.1 25 = .inl (.int, 4, .inl (ai h 25)) := H.2 25 (by decide)
theorem Sh.e26 {h : ma_H} (H : Sh h) : h.2.1 26 = .inl (.int, 4, .inl (ai h 26)) := H.2 26 (by decide)
theorem Sh.e27 {h : ma_H} (H : Sh h) : h.2.1 27 = .inr (9, [.ref 28, .int (fi h 27 1), .int (fi h 27 2)]) := H.2 27 (by decide)
theorem Sh.e28 {h : ma_H} (H : Sh h) : h.2.1 28 = .inl (.int, 30, .inl (ai h 28)) := H.2 28 (by decide)
theorem Sh.e29 {h : ma_H} (H : Sh h) : h.2.1 29 = .inl (.long, 259, .inr (.inl (al h 29))) := H.2 29 (by decide)
theorem Sh.e30 {h : ma_H} (H : Sh h) : h.2.1 30 = .inl (.long, 259, .inr (.inl (al h 30))) := H.2 30 (by decide)
theorem Sh.e31 {h : ma_H} (H : Sh h) : h.2.1 31 = .inr (2, [.int (fi h 31 0), .ref 32, .ref 33]) := H.2 31 (by decide)
theorem Sh.e32 {h : ma_H} (H : Sh h) : h.2.1 32 = .inl (.int, 169, .inl (ai h 32)) := H.2 32 (by decide)
theorem Sh.e33 {h : ma_H} (H : Sh h) : h.2.1 33 = .inl (.byte, 169, .inl (ai h 33)) := H.2 33 (by decide)
theorem Sh.e34 {h : ma_H} (H : Sh h) : h.2.1 34 = .inr (10, [.ref 35, .ref 48, .int (fi h 34 2), .ref 49, .ref 53, .ref 54, .int (fi h 34 6), .int (fi h 34 7), .ref 55, .ref 56]) := H.2 34 (by decide)
theorem Sh.e35 {h : ma_H} (H : Sh h) : h.2.1 35 = .inl (.object "FlakeArms$Flake", 4, .inr (.inr (.inr (.inr (ar h 35))))) := H.2 35 (by decide)
theorem Sh.e36 {h : ma_H} (H : Sh h) : h.2.1 36 = .inr (2, [.int (fi h 36 0), .ref 37, .ref 38]) := H.2 36 (by decide)
theorem Sh.e37 {h : ma_H} (H : Sh h) : h.2.1 37 = .inl (.int, 169, .inl (ai h 37)) := H.2 37 (by decide)
theorem Sh.e38 {h : ma_H} (H : Sh h) : h.2.1 38 = .inl (.byte, 169, .inl (ai h 38)) := H.2 38 (by decide)
theorem Sh.e39 {h : ma_H} (H : Sh h) : h.2.1 39 = .inr (2, [.int (fi h 39 0), .ref 40, .ref 41]) := H.2 39 (by decide)
theorem Sh.e40 {h : ma_H} (H : Sh h) : h.2.1 40 = .inl (.int, 169, .inl (ai h 40)) := H.2 40 (by decide)
theorem Sh.e41 {h : ma_H} (H : Sh h) : h.2.1 41 = .inl (.byte, 169, .inl (ai h 41)) := H.2 41 (by decide)
theorem Sh.e42 {h : ma_H} (H : Sh h) : h.2.1 42 = .inr (2, [.int (fi h 42 0), .ref 43, .ref 44]) := H.2 42 (by decide)
theorem Sh.e43 {h : ma_H} (H : Sh h) : h.2.1 43 = .inl (.int, 169, .inl (ai h 43)) := H.2 43 (by decide)
theorem Sh.e44 {h : ma_H} (H : Sh h) : h.2.1 44 = .inl (.byte, 169, .inl (ai h 44)) := H.2 44 (by decide)
theorem Sh.e45 {h : ma_H} (H : Sh h) : h.2.1 45 = .inr (2, [.int (fi h 45 0), .ref 46, .ref 47]) := H.2 45 (by decide)
theorem Sh.e46 {h : ma_H} (H : Sh h) : h.2.1 46 = .inl (.int, 169, .inl (ai h 46)) := H.2 46 (by decide)
theorem Sh.e47 {h : ma_H} (H : Sh h) : h.2.1 47 = .inl (.byte, 169, .inl (ai h 47)) := H.2 47 (by decide)
theorem Sh.e48 {h : ma_H} (H : Sh h) : h.2.1 48 = .inl (.object "FlakeArms$Growth", 6, .inr (.inr (.inr (.inr (ar h 48))))) := H.2 48 (by decide)
theorem Sh.e49 {h : ma_H} (H : Sh h) : h.2.1 49 = .inr (4, [.int (fi h 49 0), .ref 50, .ref 51, .ref 52, .int (fi h 49 4)]) := H.2 49 (by decide)
theorem Sh.e50 {h : ma_H} (H : Sh h) : h.2.1 50 = .inl (.int, 8, .inl (ai h 50)) := H.2 50 (by decide)
theorem Sh.e51 {h : ma_H} (H : Sh h) : h.2.1 51 = .inl (.int, 8, .inl (ai h 51)) := H.2 51 (by decide)
theorem Sh.e52 {h : ma_H} (H : Sh h) : h.2.1 52 = .inl (.int, 200, .inl (ai h 52)) := H.2 52 (by decide)
theorem Sh.e53 {h : ma_H} (H : Sh h) : h.2.1 53 = .inl (.int, 24, .inl (ai h 53)) := H.2 53 (by decide)
theorem Sh.e54 {h : ma_H} (H : Sh h) : h.2.1 54 = .inl (.int, 24, .inl (ai h 54)) := H.2 54 (by decide)
theorem Sh.e55 {h : ma_H} (H : Sh h) : h.2.1 55 = .inl (.int, 91, .inl (ai h 55)) := H.2 55 (by decide)
theorem Sh.e56 {h : ma_H} (H : Sh h) : h.2.1 56 = .inl (.int, 6, .inl (ai h 56)) := H.2 56 (by decide)
theorem Sh.e57 {h : ma_H} (H : Sh h) : h.2.1 57 = .inr (10, [.ref 58, .ref 71, .int (fi h 57 2), .ref 72, .ref 76, .ref 77, .int (fi h 57 6), .int (fi h 57 7), .ref 78, .ref 79]) := H.2 57 (by decide)
theorem Sh.e58 {h : ma_H} (H : Sh h) : h.2.1 58 = .inl (.object "FlakeArms$Flake", 4, .inr (.inr (.inr (.inr (ar h 58))))) := H.2 58 (by decide)
theorem Sh.e59 {h : ma_H} (H : Sh h) : h.2.1 59 = .inr (2, [.int (fi h 59 0), .ref 60, .ref 61]) := H.2 59 (by decide)
theorem Sh.e60 {h : ma_H} (H : Sh h) : h.2.1 60 = .inl (.int, 169, .inl (ai h 60)) := H.2 60 (by decide)
theorem Sh.e61 {h : ma_H} (H : Sh h) : h.2.1 61 = .inl (.byte, 169, .inl (ai h 61)) := H.2 61 (by decide)
theorem Sh.e62 {h : ma_H} (H : Sh h) : h.2.1 62 = .inr (2, [.int (fi h 62 0), .ref 63, .ref 64]) := H.2 62 (by decide)
theorem Sh.e63 {h : ma_H} (H : Sh h) : h.2.1 63 = .inl (.int, 169, .inl (ai h 63)) := H.2 63 (by decide)
theorem Sh.e64 {h : ma_H} (H : Sh h) : h.2.1 64 = .inl (.byte, 169, .inl (ai h 64)) := H.2 64 (by decide)
theorem Sh.e65 {h : ma_H} (H : Sh h) : h.2.1 65 = .inr (2, [.int (fi h 65 0), .ref 66, .ref 67]) := H.2 65 (by decide)
theorem Sh.e66 {h : ma_H} (H : Sh h) : h.2.1 66 = .inl (.int, 169, .inl (ai h 66)) := H.2 66 (by decide)
theorem Sh.e67 {h : ma_H} (H : Sh h) : h.2.1 67 = .inl (.byte, 169, .inl (ai h 67)) := H.2 67 (by decide)
theorem Sh.e68 {h : ma_H} (H : Sh h) : h.2.1 68 = .inr (2, [.int (fi h 68 0), .ref 69, .ref 70]) := H.2 68 (by decide)
theorem Sh.e69 {h : ma_H} (H : Sh h) : h.2.1 69 = .inl (.int, 169, .inl (ai h 69)) := H.2 69 (by decide)
theorem Sh.e70 {h : ma_H} (H : Sh h) : h.2.1 70 = .inl (.byte, 169, .inl (ai h 70)) := H.2 70 (by decide)
theorem Sh.e71 {h : ma_H} (H : Sh h) : h.2.1 71 = .inl (.object "FlakeArms$Growth", 6, .inr (.inr (.inr (.inr (ar h 71))))) := H.2 71 (by decide)
theorem Sh.e72 {h : ma_H} (H : Sh h) : h.2.1 72 = .inr (4, [.int (fi h 72 0), .ref 73, .ref 74, .ref 75, .int (fi h 72 4)]) := H.2 72 (by decide)
theorem Sh.e73 {h : ma_H} (H : Sh h) : h.2.1 73 = .inl (.int, 8, .inl (ai h 73)) := H.2 73 (by decide)
theorem Sh.e74 {h : ma_H} (H : Sh h) : h.2.1 74 = .inl (.int, 8, .inl (ai h 74)) := H.2 74 (by decide)
theorem Sh.e75 {h : ma_H} (H : Sh h) : h.2.1 75 = .inl (.int, 200, .inl (ai h 75)) := H.2 75 (by decide)
theorem Sh.e76 {h : ma_H} (H : Sh h) : h.2.1 76 = .inl (.int, 24, .inl (ai h 76)) := H.2 76 (by decide)
theorem Sh.e77 {h : ma_H} (H : Sh h) : h.2.1 77 = .inl (.int, 24, .inl (ai h 77)) := H.2 77 (by decide)
theorem Sh.e78 {h : ma_H} (H : Sh h) : h.2.1 78 = .inl (.int, 91, .inl (ai h 78)) := H.2 78 (by decide)
theorem Sh.e79 {h : ma_H} (H : Sh h) : h.2.1 79 = .inl (.int, 6, .inl (ai h 79)) := H.2 79 (by decide)
theorem Sh.e80 {h : ma_H} (H : Sh h) : h.2.1 80 = .inr (12, [.ref 81, .ref 82, .ref 83, .ref 84, .ref 85, .ref 86, .ref 87, .ref 88, .ref 89, .int (fi h 80 9), .ref 90, .int (fi h 80 11), .int (fi h 80 12), .ref 91, .int (fi h 80 14), .ref 92, .ref 93, .ref 94, .int (fi h 80 18), .int (fi h 80 19), .int (fi h 80 20), .int (fi h 80 21), .long (fj h 80 22), .int (fi h 80 23), .int (fi h 80 24), .ref 95, .ref 96, .ref 97, .int (fi h 80 28), .int (fi h 80 29), .int (fi h 80 30), .ref 98, .ref 99, .ref 100, .ref 101, .long (fj h 80 35), .long (fj h 80 36), .ref 102, .ref 103, .ref 104, .ref 105, .int (fi h 80 41), .int (fi h 80 42), .ref 106, .ref 107, .ref 108, .ref 109, .ref 110, .ref 111, .int (fi h 80 49), .int (fi h 80 50), .int (fi h 80 51), .ref 112, .int (fi h 80 53), .int (fi h 80 54), .int (fi h 80 55), .ref 113, .int (fi h 80 57), .ref 114]) := H.2 80 (by decide)
theorem Sh.e81 {h : ma_H} (H : Sh h) : h.2.1 81 = .inl (.int, 91, .inl (ai h 81)) := H.2 81 (by decide)
theorem Sh.e82 {h : ma_H} (H : Sh h) : h.2.1 82 = .inl (.int, 91, .inl (ai h 82)) := H.2 82 (by decide)
theorem Sh.e83 {h : ma_H} (H : Sh h) : h.2.1 83 = .inl (.int, 91, .inl (ai h 83)) := H.2 83 (by decide)
theorem Sh.e84 {h : ma_H} (H : Sh h) : h.2.1 84 = .inl (.int, 91, .inl (ai h 84)) := H.2 84 (by decide)
theorem Sh.e85 {h : ma_H} (H : Sh h) : h.2.1 85 = .inl (.int, 91, .inl (ai h 85)) := H.2 85 (by decide)
theorem Sh.e86 {h : ma_H} (H : Sh h) : h.2.1 86 = .inl (.int, 546, .inl (ai h 86)) := H.2 86 (by decide)
theorem Sh.e87 {h : ma_H} (H : Sh h) : h.2.1 87 = .inl (.int, 12, .inl (ai h 87)) := H.2 87 (by decide)
theorem Sh.e88 {h : ma_H} (H : Sh h) : h.2.1 88 = .inl (.int, 910, .inl (ai h 88)) := H.2 88 (by decide)
theorem Sh.e89 {h : ma_H} (H : Sh h) : h.2.1 89 = .inl (.int, 4, .inl (ai h 89)) := H.2 89 (by decide)
theorem Sh.e90 {h : ma_H} (H : Sh h) : h.2.1 90 = .inl (.int, 12, .inl (ai h 90)) := H.2 90 (by decide)
theorem Sh.e91 {h : ma_H} (H : Sh h) : h.2.1 91 = .inl (.int, 48, .inl (ai h 91)) := H.2 91 (by decide)
theorem Sh.e92 {h : ma_H} (H : Sh h) : h.2.1 92 = .inl (.int, 24, .inl (ai h 92)) := H.2 92 (by decide)
theorem Sh.e93 {h : ma_H} (H : Sh h) : h.2.1 93 = .inl (.int, 200, .inl (ai h 93)) := H.2 93 (by decide)
theorem Sh.e94 {h : ma_H} (H : Sh h) : h.2.1 94 = .inl (.int, 200, .inl (ai h 94)) := H.2 94 (by decide)
theorem Sh.e95 {h : ma_H} (H : Sh h) : h.2.1 95 = .inl (.int, 6, .inl (ai h 95)) := H.2 95 (by decide)
theorem Sh.e96 {h : ma_H} (H : Sh h) : h.2.1 96 = .inl (.int, 200, .inl (ai h 96)) := H.2 96 (by decide)
theorem Sh.e97 {h : ma_H} (H : Sh h) : h.2.1 97 = .inl (.int, 200, .inl (ai h 97)) := H.2 97 (by decide)
theorem Sh.e98 {h : ma_H} (H : Sh h) : h.2.1 98 = .inl (.boolean, 100, .inl (ai h 98)) := H.2 98 (by decide)
theorem Sh.e99 {h : ma_H} (H : Sh h) : h.2.1 99 = .inl (.int, 24, .inl (ai h 99)) := H.2 99 (by decide)
theorem Sh.e100 {h : ma_H} (H : Sh h) : h.2.1 100 = .inl (.boolean, 91, .inl (ai h 100)) := H.2 100 (by decide)
theorem Sh.e101 {h : ma_H} (H : Sh h) : h.2.1 101 = .inl (.boolean, 91, .inl (ai h 101)) := H.2 101 (by decide)
theorem Sh.e102 {h : ma_H} (H : Sh h) : h.2.1 102 = .inl (.long, 216, .inr (.inl (al h 102))) := H.2 102 (by decide)
theorem Sh.e103 {h : ma_H} (H : Sh h) : h.2.1 103 = .inl (.long, 216, .inr (.inl (al h 103))) := H.2 103 (by decide)
theorem Sh.e104 {h : ma_H} (H : Sh h) : h.2.1 104 = .inl (.int, 12, .inl (ai h 104)) := H.2 104 (by decide)
theorem Sh.e105 {h : ma_H} (H : Sh h) : h.2.1 105 = .inl (.int, 12, .inl (ai h 105)) := H.2 105 (by decide)
theorem Sh.e106 {h : ma_H} (H : Sh h) : h.2.1 106 = .inl (.int, 4, .inl (ai h 106)) := H.2 106 (by decide)
theorem Sh.e107 {h : ma_H} (H : Sh h) : h.2.1 107 = .inl (.int, 4, .inl (ai h 107)) := H.2 107 (by decide)
theorem Sh.e108 {h : ma_H} (H : Sh h) : h.2.1 108 = .inl (.long, 160, .inr (.inl (al h 108))) := H.2 108 (by decide)
theorem Sh.e109 {h : ma_H} (H : Sh h) : h.2.1 109 = .inl (.int, 4, .inl (ai h 109)) := H.2 109 (by decide)
theorem Sh.e110 {h : ma_H} (H : Sh h) : h.2.1 110 = .inl (.int, 4, .inl (ai h 110)) := H.2 110 (by decide)
theorem Sh.e111 {h : ma_H} (H : Sh h) : h.2.1 111 = .inl (.int, 4, .inl (ai h 111)) := H.2 111 (by decide)
theorem Sh.e112 {h : ma_H} (H : Sh h) : h.2.1 112 = .inl (.int, 30, .inl (ai h 112)) := H.2 112 (by decide)
theorem Sh.e113 {h : ma_H} (H : Sh h) : h.2.1 113 = .inl (.int, 700, .inl (ai h 113)) := H.2 113 (by decide)
theorem Sh.e114 {h : ma_H} (H : Sh h) : h.2.1 114 = .inl (.int, 4, .inl (ai h 114)) := H.2 114 (by decide)
theorem Sh.top {h : ma_H} (H : Sh h) : @Eq ma_C (h.2.1 0) (.inr (11, [.ref 34, .ref 57, .int (fi h 0 2), .ref 1, .int (fi h 0 4), .ref 2, .ref 7, .ref 11, .int (fi h 0 8), .ref 18, .ref 23, .ref 24, .ref 25, .ref 26, .ref 27, .ref 29, .ref 30, .ref 31])) ∧ @Eq ma_C (h.2.1 1) (.inl (.byte, 200, .inl (ai h 1))) ∧ @Eq ma_C (h.2.1 7) (.inr (4, [.int (fi h 7 0), .ref 8, .ref 9, .ref 10, .int (fi h 7 4)])) ∧ @Eq ma_C (h.2.1 11) (.inl (.array .int, 6, .inr (.inr (.inr (.inr (ar h 11)))))) ∧ @Eq ma_C (h.2.1 18) (.inl (.array .int, 4, .inr (.inr (.inr (.inr (ar h 18)))))) ∧ @Eq ma_C (h.2.1 23) (.inl (.int, 4, .inl (ai h 23))) ∧ @Eq ma_C (h.2.1 24) (.inl (.int, 4, .inl (ai h 24))) ∧ @Eq ma_C (h.2.1 25) (.inl (.int, 4, .inl (ai h 25))) ∧ @Eq ma_C (h.2.1 26) (.inl (.int, 4, .inl (ai h 26))) ∧ @Eq ma_C (h.2.1 27) (.inr (9, [.ref 28, .int (fi h 27 1), .int (fi h 27 2)])) ∧ @Eq ma_C (h.2.1 28) (.inl (.int, 30, .inl (ai h 28))) ∧ @Eq ma_C (h.2.1 29) (.inl (.long, 259, .inr (.inl (al h 29)))) ∧ @Eq ma_C (h.2.1 30) (.inl (.long, 259, .inr (.inl (al h 30)))) ∧ @Eq ma_C (h.2.1 31) (.inr (2, [.int (fi h 31 0), .ref 32, .ref 33])) := ⟨H.e0, H.e1, H.e7, H.e11, H.e18, H.e23, H.e24, H.e25, H.e26, H.e27, H.e28, H.e29, H.e30, H.e31⟩
theorem Sh.now {h : ma_H} (H : Sh h) : @Eq ma_C (h.2.1 34) (.inr (10, [.ref 35, .ref 48, .int (fi h 34 2), .ref 49, .ref 53, .ref 54, .int (fi h 34 6), .int (fi h 34 7), .ref 55, .ref 56])) ∧ @Eq ma_C (h.2.1 35) (.inl (.object "FlakeArms$Flake", 4, .inr (.inr (.inr (.inr (ar h 35)))))) ∧ @Eq ma_C (h.2.1 48) (.inl (.object "FlakeArms$Growth", 6, .inr (.inr (.inr (.inr (ar h 48)))))) ∧ @Eq ma_C (h.2.1 49) (.inr (4, [.int (fi h 49 0), .ref 50, .ref 51, .ref 52, .int (fi h 49 4)])) ∧ @Eq ma_C (h.2.1 53) (.inl (.int, 24, .inl (ai h 53))) ∧ @Eq ma_C (h.2.1 54) (.inl (.int, 24, .inl (ai h 54))) ∧ @Eq ma_C (h.2.1 55) (.inl (.int, 91, .inl (ai h 55))) ∧ @Eq ma_C (h.2.1 56) (.inl (.int, 6, .inl (ai h 56))) := ⟨H.e34, H.e35, H.e48, H.e49, H.e53, H.e54, H.e55, H.e56⟩
theorem Sh.mod {h : ma_H} (H : Sh h) : @Eq ma_C (h.2.1 80) (.inr (12, [.ref 81, .ref 82, .ref 83, .ref 84, .ref 85, .ref 86, .ref 87, .ref 88, .ref 89, .int (fi h 80 9), .ref 90, .int (fi h 80 11), .int (fi h 80 12), .ref 91, .int (fi h 80 14), .ref 92, .ref 93, .ref 94, .int (fi h 80 18), .int (fi h 80 19), .int (fi h 80 20), .int (fi h 80 21), .long (fj h 80 22), .int (fi h 80 23), .int (fi h 80 24), .ref 95, .ref 96, .ref 97, .int (fi h 80 28), .int (fi h 80 29), .int (fi h 80 30), .ref 98, .ref 99, .ref 100, .ref 101, .long (fj h 80 35), .long (fj h 80 36), .ref 102, .ref 103, .ref 104, .ref 105, .int (fi h 80 41), .int (fi h 80 42), .ref 106, .ref 107, .ref 108, .ref 109, .ref 110, .ref 111, .int (fi h 80 49), .int (fi h 80 50), .int (fi h 80 51), .ref 112, .int (fi h 80 53), .int (fi h 80 54), .int (fi h 80 55), .ref 113, .int (fi h 80 57), .ref 114])) ∧ @Eq ma_C (h.2.1 81) (.inl (.int, 91, .inl (ai h 81))) ∧ @Eq ma_C (h.2.1 82) (.inl (.int, 91, .inl (ai h 82))) ∧ @Eq ma_C (h.2.1 83) (.inl (.int, 91, .inl (ai h 83))) ∧ @Eq ma_C (h.2.1 84) (.inl (.int, 91, .inl (ai h 84))) ∧ @Eq ma_C (h.2.1 85) (.inl (.int, 91, .inl (ai h 85))) ∧ @Eq ma_C (h.2.1 86) (.inl (.int, 546, .inl (ai h 86))) ∧ @Eq ma_C (h.2.1 87) (.inl (.int, 12, .inl (ai h 87))) ∧ @Eq ma_C (h.2.1 88) (.inl (.int, 910, .inl (ai h 88))) ∧ @Eq ma_C (h.2.1 89) (.inl (.int, 4, .inl (ai h 89))) ∧ @Eq ma_C (h.2.1 90) (.inl (.int, 12, .inl (ai h 90))) ∧ @Eq ma_C (h.2.1 91) (.inl (.int, 48, .inl (ai h 91))) ∧ @Eq ma_C (h.2.1 92) (.inl (.int, 24, .inl (ai h 92))) ∧ @Eq ma_C (h.2.1 93) (.inl (.int, 200, .inl (ai h 93))) ∧ @Eq ma_C (h.2.1 94) (.inl (.int, 200, .inl (ai h 94))) ∧ @Eq ma_C (h.2.1 95) (.inl (.int, 6, .inl (ai h 95))) ∧ @Eq ma_C (h.2.1 96) (.inl (.int, 200, .inl (ai h 96))) ∧ @Eq ma_C (h.2.1 97) (.inl (.int, 200, .inl (ai h 97))) ∧ @Eq ma_C (h.2.1 98) (.inl (.boolean, 100, .inl (ai h 98))) ∧ @Eq ma_C (h.2.1 99) (.inl (.int, 24, .inl (ai h 99))) ∧ @Eq ma_C (h.2.1 100) (.inl (.boolean, 91, .inl (ai h 100))) ∧ @Eq ma_C (h.2.1 101) (.inl (.boolean, 91, .inl (ai h 101))) ∧ @Eq ma_C (h.2.1 102) (.inl (.long, 216, .inr (.inl (al h 102)))) ∧ @Eq ma_C (h.2.1 103) (.inl (.long, 216, .inr (.inl (al h 103)))) ∧ @Eq ma_C (h.2.1 104) (.inl (.int, 12, .inl (ai h 104))) ∧ @Eq ma_C (h.2.1 105) (.inl (.int, 12, .inl (ai h 105))) ∧ @Eq ma_C (h.2.1 106) (.inl (.int, 4, .inl (ai h 106))) ∧ @Eq ma_C (h.2.1 107) (.inl (.int, 4, .inl (ai h 107))) ∧ @Eq ma_C (h.2.1 108) (.inl (.long, 160, .inr (.inl (al h 108)))) ∧ @Eq ma_C (h.2.1 109) (.inl (.int, 4, .inl (ai h 109))) ∧ @Eq ma_C (h.2.1 110) (.inl (.int, 4, .inl (ai h 110))) ∧ @Eq ma_C (h.2.1 111) (.inl (.int, 4, .inl (ai h 111))) ∧ @Eq ma_C (h.2.1 112) (.inl (.int, 30, .inl (ai h 112))) ∧ @Eq ma_C (h.2.1 113) (.inl (.int, 700, .inl (ai h 113))) ∧ @Eq ma_C (h.2.1 114) (.inl (.int, 4, .inl (ai h 114))) := ⟨H.e80, H.e81, H.e82, H.e83, H.e84, H.e85, H.e86, H.e87, H.e88, H.e89, H.e90, H.e91, H.e92, H.e93, H.e94, H.e95, H.e96, H.e97, H.e98, H.e99, H.e100, H.e101, H.e102, H.e103, H.e104, H.e105, H.e106, H.e107, H.e108, H.e109, H.e110, H.e111, H.e112, H.e113, H.e114⟩
theorem Sh.fn {h : ma_H} (H : Sh h) {f : Nat} (hf : f < 4) : h.2.1 (36 + 3 * f) = .inr (2, [.int (fi h (36 + 3 * f) 0), .ref (37 + 3 * f), .ref (38 + 3 * f)]) ∧ h.2.1 (37 + 3 * f) = .inl (.int, 169, .inl (ai h (37 + 3 * f))) ∧ h.2.1 (38 + 3 * f) = .inl (.byte, 169, .inl (ai h (38 + 3 * f))) := by
  match f, hf with
  | 0, _ => exact ⟨H.e36, H.e37, H.e38⟩
  | 1, _ => exact ⟨H.e39, H.e40, H.e41⟩
  | 2, _ => exact ⟨H.e42, H.e43, H.e44⟩
  | 3, _ => exact ⟨H.e45, H.e46, H.e47⟩
theorem Sh.fk {h : ma_H} (H : Sh h) {f : Nat} (hf : f < 4) : h.2.1 (59 + 3 * f) = .inr (2, [.int (fi h (59 + 3 * f) 0), .ref (60 + 3 * f), .ref (61 + 3 * f)]) ∧ h.2.1 (60 + 3 * f) = .inl (.int, 169, .inl (ai h (60 + 3 * f))) ∧ h.2.1 (61 + 3 * f) = .inl (.byte, 169, .inl (ai h (61 + 3 * f))) := by
  match f, hf with
  | 0, _ => exact ⟨H.e59, H.e60, H.e61⟩
  | 1, _ => exact ⟨H.e62, H.e63, H.e64⟩
  | 2, _ => exact ⟨H.e65, H.e66, H.e67⟩
  | 3, _ => exact ⟨H.e68, H.e69, H.e70⟩
theorem Sh.rw {h : ma_H} (H : Sh h) {f : Nat} (hf : f < 6) : h.2.1 (12 + f) = .inl (.int, 2, .inl (ai h (12 + f))) := by
  match f, hf with
  | 0, _ => exact H.e12
  | 1, _ => exact H.e13
  | 2, _ => exact H.e14
  | 3, _ => exact H.e15
  | 4, _ => exact H.e16
  | 5, _ => exact H.e17
theorem Sh.si {h : ma_H} (H : Sh h) {f : Nat} (hf : f < 4) : h.2.1 (19 + f) = .inl (.int, 40, .inl (ai h (19 + f))) := by
  match f, hf with
  | 0, _ => exact H.e19
  | 1, _ => exact H.e20
  | 2, _ => exact H.e21
  | 3, _ => exact H.e22
