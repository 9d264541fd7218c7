/-! a first contract, to try the rewriting -/
theorem tb_X11_in : mv_tb k_X11_in = t_X11_in := rfl
