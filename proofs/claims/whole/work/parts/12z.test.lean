/-! a test -/
theorem mk_t93 : mk_l 93 60 (me_cd 93) = true := by decide +kernel
theorem mk_t102 : mk_l 102 103 (me_cd 102) = true := by decide +kernel
