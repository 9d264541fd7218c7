/-! a first contract, to try the rewriting -/
theorem tb_X11_in : mv_tb k_X11_in = t_X11_in := rfl
theorem r_X11_in_0 : mv_in k_X11_in 0 = some (.iload_n 0, 1, 0, 0, 0) := by unfold mv_in; rw [tb_X11_in]; rfl
theorem r_X11_in_1 : mv_in k_X11_in 1 = some (.iload_n 1, 2, 0, 0, 0) := by unfold mv_in; rw [tb_X11_in]; rfl
theorem r_X11_in_2 : mv_in k_X11_in 2 = some (.if_icmp .lt 12, 5, 14, 0, 0) := by unfold mv_in; rw [tb_X11_in]; rfl
theorem r_X11_in_5 : mv_in k_X11_in 5 = some (.iload_n 0, 6, 0, 0, 0) := by unfold mv_in; rw [tb_X11_in]; rfl
theorem r_X11_in_6 : mv_in k_X11_in 6 = some (.iload_n 2, 7, 0, 0, 0) := by unfold mv_in; rw [tb_X11_in]; rfl
theorem r_X11_in_7 : mv_in k_X11_in 7 = some (.if_icmp .gt 7, 10, 14, 0, 0) := by unfold mv_in; rw [tb_X11_in]; rfl
theorem r_X11_in_10 : mv_in k_X11_in 10 = some (.iconst 1, 11, 0, 0, 0) := by unfold mv_in; rw [tb_X11_in]; rfl
theorem r_X11_in_11 : mv_in k_X11_in 11 = some (.goto 4, 14, 15, 0, 0) := by unfold mv_in; rw [tb_X11_in]; rfl
theorem r_X11_in_14 : mv_in k_X11_in 14 = some (.iconst 0, 15, 0, 0, 0) := by unfold mv_in; rw [tb_X11_in]; rfl
theorem r_X11_in_15 : mv_in k_X11_in 15 = some (.ireturn, 16, 1, 0, 0) := by unfold mv_in; rw [tb_X11_in]; rfl
section TRY
variable {L : Nat} {xs : Nat → Int32}
theorem c_X11_in (d : Nat) (v lo hi : Int32) (σ : mv_S) : mv_cl L xs (d + 1) k_X11_in [.int v, .int lo, .int hi] σ = some (.inl (some (.int (if v < lo ∨ hi < v then 0 else 1))), σ) := by
  apply mv_cl_of
  simp only [mv_il, Value.category, Nat.zero_add, Nat.reduceAdd]
  simp only [mv_Ev_row r_X11_in_0, mv_Ev_row r_X11_in_1, mv_Ev_row r_X11_in_2, mv_Ev_row r_X11_in_5, mv_Ev_row r_X11_in_6, mv_Ev_row r_X11_in_7, mv_Ev_row r_X11_in_10, mv_Ev_row r_X11_in_11, mv_Ev_row r_X11_in_14, mv_Ev_row r_X11_in_15, ea_iload_n, ea_icmp, ea_iconst, ea_goto, ea_ireturnZ, ea_2n, ea_2f, ea_if, eb_l0, mv_lk, fv0, fv1, fv2, fv3, mv_cmp, ↓reduceIte, Nat.reduceEqDiff, Nat.zero_ne_one, Nat.one_ne_zero, decide_eq_true_eq]
  done
end TRY
