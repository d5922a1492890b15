/-! more equations to walk by: numbers, types-/
theorem kv_nat : ∀ (n : Nat), (Int.ofNat n).toNat = n := fun _ => rfl
theorem kv_t0 : ma_tyl.contains (.int) = true := rfl
theorem kv_t1 : ma_tyl.contains (.long) = true := rfl
theorem kv_t2 : ma_tyl.contains (.byte) = true := rfl
theorem kv_t3 : ma_tyl.contains (.boolean) = true := rfl
theorem kv_t4 : ma_tyl.contains (.object "FlakeArms$Flake") = true := rfl
theorem kv_t5 : ma_tyl.contains (.object "FlakeArms$Growth") = true := rfl
theorem kv_t6 : ma_tyl.contains (.array .int) = true := rfl
theorem kv_n1 : ((1 : Int32) = 0) = False := by decide +kernel
theorem kv_n2 : ((2 : Int32) = 0) = False := by decide +kernel
theorem kv_n3 : ((3 : Int32) = 0) = False := by decide +kernel
theorem kv_n4 : ((4 : Int32) = 0) = False := by decide +kernel
theorem kv_n5 : ((5 : Int32) = 0) = False := by decide +kernel
theorem kv_n6 : ((6 : Int32) = 0) = False := by decide +kernel
theorem kv_n8 : ((8 : Int32) = 0) = False := by decide +kernel
theorem kv_n13 : ((13 : Int32) = 0) = False := by decide +kernel
theorem kv_z : ((0 : Int32) = 1) = False := by decide +kernel
theorem kv_l0 : ((0 : Int32) < 0) = False := by decide +kernel
theorem kv_sl0 : ma_sl 0 = 91 := rfl
theorem kv_sl1 : ma_sl 1 = 6 := rfl
theorem kv_sv0 : ∀ (k : Nat), ma_sv 0 k = nI (ma_cell k) := fun _ => rfl
theorem kv_b0 : ((0 : Nat) < 2) = True := by simp
theorem kv_b1 : ((1 : Nat) < 2) = True := by simp
theorem kv_1000a : ((0 : Nat) = 1000) = False := by simp
theorem kv_1000b : ((1 : Nat) = 1000) = False := by simp
theorem KV : (∀ (n : Nat), (Int.ofNat n).toNat = n) ∧ (ma_tyl.contains (.int) = true) ∧ (ma_tyl.contains (.long) = true) ∧ (ma_tyl.contains (.byte) = true) ∧ (ma_tyl.contains (.boolean) = true) ∧ (ma_tyl.contains (.object "FlakeArms$Flake") = true) ∧ (ma_tyl.contains (.object "FlakeArms$Growth") = true) ∧ (ma_tyl.contains (.array .int) = true) ∧ (((1 : Int32) = 0) = False) ∧ (((2 : Int32) = 0) = False) ∧ (((3 : Int32) = 0) = False) ∧ (((4 : Int32) = 0) = False) ∧ (((5 : Int32) = 0) = False) ∧ (((6 : Int32) = 0) = False) ∧ (((8 : Int32) = 0) = False) ∧ (((13 : Int32) = 0) = False) ∧ (((0 : Int32) = 1) = False) ∧ (((0 : Int32) < 0) = False) ∧ (ma_sl 0 = 91) ∧ (ma_sl 1 = 6) ∧ (∀ (k : Nat), ma_sv 0 k = nI (ma_cell k)) ∧ (((0 : Nat) < 2) = True) ∧ (((1 : Nat) < 2) = True) ∧ (((0 : Nat) = 1000) = False) ∧ (((1 : Nat) = 1000) = False) := ⟨kv_nat, kv_t0, kv_t1, kv_t2, kv_t3, kv_t4, kv_t5, kv_t6, kv_n1, kv_n2, kv_n3, kv_n4, kv_n5, kv_n6, kv_n8, kv_n13, kv_z, kv_l0, kv_sl0, kv_sl1, kv_sv0, kv_b0, kv_b1, kv_1000a, kv_1000b⟩
