/-! length() and charAt() of the texts -/
theorem mr_slength {m pc i : Nat} {b : Nat × Nat} {L : ma_L} {r : List Value} {h : ma_H} {Q : ma_Q} {q : Nat} (h1 : 2 ≤ q) (h2 : q < 14) (hcs : (r.map fun v => v.category).sum ≤ 8) (hv : 2 ≤ mt_v m) (hw : Cond.methodLink (mt_y m).cls i (lm7_y 6) ∈ lw_ok) (d : decode (mt_b m) pc = .ok (.invokevirtual i, 3)) (k : ma_P m (pc + 3) b L (.int (nI (ma_tl.getD (q - 2) 0)) :: r) h Q) : ma_P m pc b L (.retAddr q :: r) h Q := by
  sorry
theorem mr_scharAt {m pc i : Nat} {b : Nat × Nat} {L : ma_L} {r : List Value} {h : ma_H} {Q : ma_Q} {q : Nat} {x : Int32} (h1 : 2 ≤ q) (h2 : q < 14) (hi : vp_in x (ma_tl.getD (q - 2) 0)) (hcs : (r.map fun v => v.category).sum ≤ 8) (hv : 2 ≤ mt_v m) (hw : Cond.methodLink (mt_y m).cls i (lm7_y 7) ∈ lw_ok) (d : decode (mt_b m) pc = .ok (.invokevirtual i, 3)) (k : ma_P m (pc + 3) b L (.int ((ma_tb.getD (q - 2) []).getD x.toNatClampNeg 0) :: r) h Q) : ma_P m pc b L (.int x :: .retAddr q :: r) h Q := by
  sorry
theorem mk_all {m k : Nat} {q : Nat × Bool × Instr} (hm : m < 286) (e : (me_cd m)[k]? = some q) : mk m q.1 (mk_hd ((me_cd m).drop (k + 1))) q.2.2 = true := by
  sorry
