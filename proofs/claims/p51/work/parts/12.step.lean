/-! EACH ROW A STEP OF THE JVM -/
section STEP
variable {z : Nat} {kad : Nat → Nat} {dC : Nat → ClassId} {dI : Nat → Nat → Nat} {cA : Nat → ClassId} {L : Nat} {xs : Nat → Int32}
variable {p : Program} {l : Launch} {e : Env} {R : Room} {s : State} {m : MethodId} {args : Array Value} {below : List Frame} {meth : Method} {c : Code} {Q : State → Prop} {c0 s0 M : Nat}
set_option maxHeartbeats 8000000 in
set_option maxRecDepth 100000 in
theorem mv_step (hF : mv_Fx z kad dC dI cA L xs p R s m args meth c M) {pc : Nat} {r : mv_I} (hin : mv_in M pc = some r) {ls ls' : mv_V} {st st' : List Value} {σ σ' : mv_S} {pc' : Nat} (h : mv_stp L xs r ls st σ = some (.inl (pc', ls', st', σ')))
    (hR : mv_cc σ' ≤ R.cells + c0 ∧ mv_ss σ' ≤ R.slots + s0) (k : mv_W z kad dC dI cA p l e R s m args below meth c Q c0 s0 pc' ls' st' σ') : mv_W z kad dC dI cA p l e R s m args below meth c Q c0 s0 pc ls st σ := by
  obtain ⟨hok, hlen⟩ := mv_row hin
  obtain ⟨hx, hb, hml, -, -, hE, -, hRf, hRl⟩ := id hF
  obtain ⟨i, nx, a, b, w⟩ := r
  have hdec := mv_okd hok
  simp only [mv_stp] at h
  split at h
  · obtain ⟨rfl, rfl, rfl, rfl⟩ := mv_nx_inv h
    obtain ⟨hd, rfl⟩ := mv_dec hdec hlen (Nat.succ_ne_zero _)
    intro H locs cells slots lsA hM hS hl hc hs
    exact lv_iconst hx hb hd rfl (k _ _ _ _ _ hM hS hl hc hs)
  · obtain ⟨rfl, rfl, rfl, rfl⟩ := mv_nx_inv h
    obtain ⟨hd, rfl⟩ := mv_dec hdec hlen (Nat.succ_ne_zero _)
    intro H locs cells slots lsA hM hS hl hc hs
    exact lv_bipush hx hb hd rfl (k _ _ _ _ _ hM hS hl hc hs)
  · obtain ⟨rfl, rfl, rfl, rfl⟩ := mv_nx_inv h
    obtain ⟨hd, rfl⟩ := mv_dec hdec hlen (Nat.succ_ne_zero _)
    intro H locs cells slots lsA hM hS hl hc hs
    exact lv_sipush hx hb hd rfl (k _ _ _ _ _ hM hS hl hc hs)
  · exact mv_s_ldc hF hok hlen h k
  · obtain ⟨rfl, rfl, rfl, rfl⟩ := mv_nx_inv h
    obtain ⟨hd, rfl⟩ := mv_dec hdec hlen (Nat.succ_ne_zero _)
    intro H locs cells slots lsA hM hS hl hc hs
    exact lv_lconst hx hb hd rfl (k _ _ _ _ _ hM hS hl hc hs)
  · split at h
    · next hg =>
      subst hg
      obtain ⟨rfl, rfl, rfl, rfl⟩ := mv_nx_inv h
      obtain ⟨hd, rfl⟩ := mv_dec hdec hlen (Nat.succ_ne_zero _)
      intro H locs cells slots lsA hM hS hl hc hs
      exact lv_dconst0 hx hb hd (k _ _ _ _ _ hM hS hl hc hs)
    · cases h
  · split at h
    · next hg =>
      subst hg
      obtain ⟨rfl, rfl, rfl, rfl⟩ := mv_nx_inv h
      obtain ⟨hd, rfl⟩ := mv_dec hdec hlen (Nat.succ_ne_zero _)
      intro H locs cells slots lsA hM hS hl hc hs
      exact lv_fconst0 hx hb hd (k _ _ _ _ _ hM hS hl hc hs)
    · cases h
  · obtain ⟨rfl, rfl, rfl, rfl⟩ := mv_nx_inv h
    obtain ⟨hd, rfl⟩ := mv_dec hdec hlen (Nat.succ_ne_zero _)
    intro H locs cells slots lsA hM hS hl hc hs
    exact lv_null hx hb hd  (k _ _ _ _ _ hM hS hl hc hs)
  · obtain ⟨x, hv, rfl, rfl, rfl, rfl⟩ := mv_ld_inv0 h
    obtain ⟨hd, rfl⟩ := mv_dec hdec hlen (Nat.succ_ne_zero _)
    intro H locs cells slots lsA hM hS hl hc hs
    exact lv_iload_n hx hb hd rfl (mv_lat hl hv) (k _ _ _ _ _ hM hS hl hc hs)
  · obtain ⟨x, hv, rfl, rfl, rfl, rfl⟩ := mv_ld_inv0 h
    obtain ⟨hd, rfl⟩ := mv_dec hdec hlen (Nat.succ_ne_zero _)
    intro H locs cells slots lsA hM hS hl hc hs
    exact lv_iload hx hb hd (mv_lat hl hv) (k _ _ _ _ _ hM hS hl hc hs)
  · obtain ⟨x, hv, rfl, rfl, rfl, rfl⟩ := mv_ld_inv1 h
    obtain ⟨hd, rfl⟩ := mv_dec hdec hlen (Nat.succ_ne_zero _)
    intro H locs cells slots lsA hM hS hl hc hs
    exact lv_lload_n hx hb hd rfl (mv_lat hl hv) (k _ _ _ _ _ hM hS hl hc hs)
  · obtain ⟨x, hv, rfl, rfl, rfl, rfl⟩ := mv_ld_inv2 h
    obtain ⟨hd, rfl⟩ := mv_dec hdec hlen (Nat.succ_ne_zero _)
    intro H locs cells slots lsA hM hS hl hc hs
    exact lv_fload hx hb hd (mv_lat hl hv) (k _ _ _ _ _ hM hS hl hc hs)
  · obtain ⟨x, hv, rfl, rfl, rfl, rfl⟩ := mv_ld_inv3 h
    obtain ⟨hd, rfl⟩ := mv_dec hdec hlen (Nat.succ_ne_zero _)
    intro H locs cells slots lsA hM hS hl hc hs
    exact lv_dload_n hx hb hd rfl (mv_lat hl hv) (k _ _ _ _ _ hM hS hl hc hs)
  · obtain ⟨x, hv, rfl, rfl, rfl, rfl⟩ := mv_ld_inv3 h
    obtain ⟨hd, rfl⟩ := mv_dec hdec hlen (Nat.succ_ne_zero _)
    intro H locs cells slots lsA hM hS hl hc hs
    exact lv_dload hx hb hd (mv_lat hl hv) (k _ _ _ _ _ hM hS hl hc hs)
  · rcases mv_ld_inv4 h with ⟨x, hv, rfl, rfl, rfl, rfl⟩ | ⟨hv, rfl, rfl, rfl, rfl⟩
    · obtain ⟨hd, rfl⟩ := mv_dec hdec hlen (Nat.succ_ne_zero _)
      intro H locs cells slots lsA hM hS hl hc hs
      exact lv_aload_n hx hb hd rfl (mv_lat hl hv) (k _ _ _ _ _ hM hS hl hc hs)
    · obtain ⟨hd, rfl⟩ := mv_dec hdec hlen (Nat.succ_ne_zero _)
      intro H locs cells slots lsA hM hS hl hc hs
      exact lv_aload_nN hx hb hd rfl (mv_lat hl hv) (k _ _ _ _ _ hM hS hl hc hs)
  · rcases mv_ld_inv4 h with ⟨x, hv, rfl, rfl, rfl, rfl⟩ | ⟨hv, rfl, rfl, rfl, rfl⟩
    · obtain ⟨hd, rfl⟩ := mv_dec hdec hlen (Nat.succ_ne_zero _)
      intro H locs cells slots lsA hM hS hl hc hs
      exact lv_aload hx hb hd (mv_lat hl hv) (k _ _ _ _ _ hM hS hl hc hs)
    · obtain ⟨hd, rfl⟩ := mv_dec hdec hlen (Nat.succ_ne_zero _)
      intro H locs cells slots lsA hM hS hl hc hs
      exact lv_aloadN hx hb hd (mv_lat hl hv) (k _ _ _ _ _ hM hS hl hc hs)
  · obtain ⟨x, st1, rfl, rfl, rfl, rfl, rfl⟩ := mv_so_inv0 h
    obtain ⟨hd, rfl⟩ := mv_dec hdec hlen (Nat.succ_ne_zero _)
    intro H locs cells slots lsA hM hS hl hc hs
    exact lv_istore_n hx hb hd rfl hl (mv_side hin hml) (mv_st1 _ _ (.int x) _) (fun ls1 hl1 => k _ _ _ _ _ hM hS hl1 hc hs)
  · obtain ⟨x, st1, rfl, rfl, rfl, rfl, rfl⟩ := mv_so_inv0 h
    obtain ⟨hd, rfl⟩ := mv_dec hdec hlen (Nat.succ_ne_zero _)
    intro H locs cells slots lsA hM hS hl hc hs
    exact lv_istore hx hb hd hl (mv_side hin hml) (mv_st1 _ _ (.int x) _) (fun ls1 hl1 => k _ _ _ _ _ hM hS hl1 hc hs)
  · obtain ⟨x, st1, rfl, rfl, rfl, rfl, rfl⟩ := mv_so_inv1 h
    obtain ⟨hd, rfl⟩ := mv_dec hdec hlen (Nat.succ_ne_zero _)
    intro H locs cells slots lsA hM hS hl hc hs
    exact lv_lstore_n hx hb hd rfl hl (mv_side hin hml) (mv_st2 _ _ (.long x) _) (fun ls1 hl1 => k _ _ _ _ _ hM hS hl1 hc hs)
  · obtain ⟨x, st1, rfl, rfl, rfl, rfl, rfl⟩ := mv_so_inv2 h
    obtain ⟨hd, rfl⟩ := mv_dec hdec hlen (Nat.succ_ne_zero _)
    intro H locs cells slots lsA hM hS hl hc hs
    exact lv_fstore hx hb hd hl (mv_side hin hml) (mv_st1 _ _ (.float x) _) (fun ls1 hl1 => k _ _ _ _ _ hM hS hl1 hc hs)
  · obtain ⟨x, st1, rfl, rfl, rfl, rfl, rfl⟩ := mv_so_inv3 h
    obtain ⟨hd, rfl⟩ := mv_dec hdec hlen (Nat.succ_ne_zero _)
    intro H locs cells slots lsA hM hS hl hc hs
    exact lv_dstore_n hx hb hd rfl hl (mv_side hin hml) (mv_st2 _ _ (.double x) _) (fun ls1 hl1 => k _ _ _ _ _ hM hS hl1 hc hs)
  · obtain ⟨x, st1, rfl, rfl, rfl, rfl, rfl⟩ := mv_so_inv3 h
    obtain ⟨hd, rfl⟩ := mv_dec hdec hlen (Nat.succ_ne_zero _)
    intro H locs cells slots lsA hM hS hl hc hs
    exact lv_dstore hx hb hd hl (mv_side hin hml) (mv_st2 _ _ (.double x) _) (fun ls1 hl1 => k _ _ _ _ _ hM hS hl1 hc hs)
  · rcases mv_so_inv4 h with ⟨x, st1, rfl, rfl, rfl, rfl, rfl⟩ | ⟨st1, rfl, rfl, rfl, rfl, rfl⟩
    · obtain ⟨hd, rfl⟩ := mv_dec hdec hlen (Nat.succ_ne_zero _)
      intro H locs cells slots lsA hM hS hl hc hs
      exact lv_astore_n hx hb hd rfl hl (mv_side hin hml) (mv_st1 _ _ (.ref x) _) (fun ls1 hl1 => k _ _ _ _ _ hM hS hl1 hc hs)
    · obtain ⟨hd, rfl⟩ := mv_dec hdec hlen (Nat.succ_ne_zero _)
      intro H locs cells slots lsA hM hS hl hc hs
      exact lv_astore_nN hx hb hd rfl hl (mv_side hin hml) (mv_st1 _ _ .null _) (fun ls1 hl1 => k _ _ _ _ _ hM hS hl1 hc hs)
  · rcases mv_so_inv4 h with ⟨x, st1, rfl, rfl, rfl, rfl, rfl⟩ | ⟨st1, rfl, rfl, rfl, rfl, rfl⟩
    · obtain ⟨hd, rfl⟩ := mv_dec hdec hlen (Nat.succ_ne_zero _)
      intro H locs cells slots lsA hM hS hl hc hs
      exact lv_astore hx hb hd hl (mv_side hin hml) (mv_st1 _ _ (.ref x) _) (fun ls1 hl1 => k _ _ _ _ _ hM hS hl1 hc hs)
    · obtain ⟨hd, rfl⟩ := mv_dec hdec hlen (Nat.succ_ne_zero _)
      intro H locs cells slots lsA hM hS hl hc hs
      exact lv_astoreN hx hb hd hl (mv_side hin hml) (mv_st1 _ _ .null _) (fun ls1 hl1 => k _ _ _ _ _ hM hS hl1 hc hs)
  · split at h
    · next x hv =>
      obtain ⟨rfl, rfl, rfl, rfl⟩ := mv_nx_inv h
      obtain ⟨hd, rfl⟩ := mv_dec hdec hlen (Nat.succ_ne_zero _)
      intro H locs cells slots lsA hM hS hl hc hs
      obtain ⟨j, hj⟩ := List.getElem?_of_mem (show (_, mv_cv (mv_ad z kad) (.int x)) ∈ mv_lm (mv_ad z kad) ls from List.mem_map.mpr ⟨(_, .int x), mv_lk_mem hv, rfl⟩)
      exact lv_iinc hx hb hd hl hj rfl (mv_side hin hml) (mv_st1 _ _ (.int _) _) (fun ls1 hl1 => k _ _ _ _ _ hM hS hl1 hc hs)
    · cases h
  · obtain ⟨rfl, rfl, rfl, rfl⟩ := mv_nx_inv h
    obtain ⟨hd, rfl⟩ := mv_dec hdec hlen (Nat.succ_ne_zero _)
    intro H locs cells slots lsA hM hS hl hc hs
    exact lv_iadd hx hb hd  (k _ _ _ _ _ hM hS hl hc hs)
  · obtain ⟨rfl, rfl, rfl, rfl⟩ := mv_nx_inv h
    obtain ⟨hd, rfl⟩ := mv_dec hdec hlen (Nat.succ_ne_zero _)
    intro H locs cells slots lsA hM hS hl hc hs
    exact lv_isub hx hb hd  (k _ _ _ _ _ hM hS hl hc hs)
  · obtain ⟨rfl, rfl, rfl, rfl⟩ := mv_nx_inv h
    obtain ⟨hd, rfl⟩ := mv_dec hdec hlen (Nat.succ_ne_zero _)
    intro H locs cells slots lsA hM hS hl hc hs
    exact lv_imul hx hb hd  (k _ _ _ _ _ hM hS hl hc hs)
  · split at h
    · cases h
    · next hg =>
      obtain ⟨rfl, rfl, rfl, rfl⟩ := mv_nx_inv h
      obtain ⟨hd, rfl⟩ := mv_dec hdec hlen (Nat.succ_ne_zero _)
      intro H locs cells slots lsA hM hS hl hc hs
      exact lv_idiv hx hb hd hg (k _ _ _ _ _ hM hS hl hc hs)
  · split at h
    · cases h
    · next hg =>
      obtain ⟨rfl, rfl, rfl, rfl⟩ := mv_nx_inv h
      obtain ⟨hd, rfl⟩ := mv_dec hdec hlen (Nat.succ_ne_zero _)
      intro H locs cells slots lsA hM hS hl hc hs
      exact lv_irem hx hb hd hg (k _ _ _ _ _ hM hS hl hc hs)
  · obtain ⟨rfl, rfl, rfl, rfl⟩ := mv_nx_inv h
    obtain ⟨hd, rfl⟩ := mv_dec hdec hlen (Nat.succ_ne_zero _)
    intro H locs cells slots lsA hM hS hl hc hs
    exact lv_ineg hx hb hd  (k _ _ _ _ _ hM hS hl hc hs)
  · obtain ⟨rfl, rfl, rfl, rfl⟩ := mv_nx_inv h
    obtain ⟨hd, rfl⟩ := mv_dec hdec hlen (Nat.succ_ne_zero _)
    intro H locs cells slots lsA hM hS hl hc hs
    exact lv_iand hx hb hd  (k _ _ _ _ _ hM hS hl hc hs)
  · obtain ⟨rfl, rfl, rfl, rfl⟩ := mv_nx_inv h
    obtain ⟨hd, rfl⟩ := mv_dec hdec hlen (Nat.succ_ne_zero _)
    intro H locs cells slots lsA hM hS hl hc hs
    exact lv_ishl hx hb hd  (k _ _ _ _ _ hM hS hl hc hs)
  · obtain ⟨rfl, rfl, rfl, rfl⟩ := mv_nx_inv h
    obtain ⟨hd, rfl⟩ := mv_dec hdec hlen (Nat.succ_ne_zero _)
    intro H locs cells slots lsA hM hS hl hc hs
    exact lv_ishr hx hb hd  (k _ _ _ _ _ hM hS hl hc hs)
  · obtain ⟨rfl, rfl, rfl, rfl⟩ := mv_nx_inv h
    obtain ⟨hd, rfl⟩ := mv_dec hdec hlen (Nat.succ_ne_zero _)
    intro H locs cells slots lsA hM hS hl hc hs
    exact lv_iushr hx hb hd rfl (k _ _ _ _ _ hM hS hl hc hs)
  · obtain ⟨rfl, rfl, rfl, rfl⟩ := mv_nx_inv h
    obtain ⟨hd, rfl⟩ := mv_dec hdec hlen (Nat.succ_ne_zero _)
    intro H locs cells slots lsA hM hS hl hc hs
    exact lv_ladd hx hb hd  (k _ _ _ _ _ hM hS hl hc hs)
  · obtain ⟨rfl, rfl, rfl, rfl⟩ := mv_nx_inv h
    obtain ⟨hd, rfl⟩ := mv_dec hdec hlen (Nat.succ_ne_zero _)
    intro H locs cells slots lsA hM hS hl hc hs
    exact lv_lsub hx hb hd  (k _ _ _ _ _ hM hS hl hc hs)
  · obtain ⟨rfl, rfl, rfl, rfl⟩ := mv_nx_inv h
    obtain ⟨hd, rfl⟩ := mv_dec hdec hlen (Nat.succ_ne_zero _)
    intro H locs cells slots lsA hM hS hl hc hs
    exact W.lcmp hx hb hd  (k _ _ _ _ _ hM hS hl hc hs)
  · obtain ⟨rfl, rfl, rfl, rfl⟩ := mv_nx_inv h
    obtain ⟨hd, rfl⟩ := mv_dec hdec hlen (Nat.succ_ne_zero _)
    intro H locs cells slots lsA hM hS hl hc hs
    exact lv_i2l hx hb hd rfl (k _ _ _ _ _ hM hS hl hc hs)
  · obtain ⟨rfl, rfl, rfl, rfl⟩ := mv_nx_inv h
    obtain ⟨hd, rfl⟩ := mv_dec hdec hlen (Nat.succ_ne_zero _)
    intro H locs cells slots lsA hM hS hl hc hs
    exact lv_l2i hx hb hd rfl (k _ _ _ _ _ hM hS hl hc hs)
  · obtain ⟨rfl, rfl, rfl, rfl⟩ := mv_nx_inv h
    obtain ⟨hd, rfl⟩ := mv_dec hdec hlen (Nat.succ_ne_zero _)
    intro H locs cells slots lsA hM hS hl hc hs
    exact lv_i2c hx hb hd rfl (k _ _ _ _ _ hM hS hl hc hs)
  · obtain ⟨rfl, rfl, rfl, rfl⟩ := mv_nx_inv h
    obtain ⟨hd, rfl⟩ := mv_dec hdec hlen (Nat.succ_ne_zero _)
    intro H locs cells slots lsA hM hS hl hc hs
    exact lv_i2d hx hb hd  (k _ _ _ _ _ hM hS hl hc hs)
  · obtain ⟨rfl, rfl, rfl, rfl⟩ := mv_nx_inv h
    obtain ⟨hd, rfl⟩ := mv_dec hdec hlen (Nat.succ_ne_zero _)
    intro H locs cells slots lsA hM hS hl hc hs
    exact lv_i2f hx hb hd  (k _ _ _ _ _ hM hS hl hc hs)
  · split at h
    · next hg =>
      obtain ⟨rfl, rfl, rfl, rfl⟩ := mv_nx_inv h
      obtain ⟨hd, rfl⟩ := mv_dec hdec hlen (Nat.succ_ne_zero _)
      intro H locs cells slots lsA hM hS hl hc hs
      exact lv_f2d hx hb hd (mv_n64k hg) (k _ _ _ _ _ hM hS hl hc hs)
    · cases h
  · split at h
    · next hg =>
      obtain ⟨rfl, rfl, rfl, rfl⟩ := mv_nx_inv h
      obtain ⟨hd, rfl⟩ := mv_dec hdec hlen (Nat.succ_ne_zero _)
      intro H locs cells slots lsA hM hS hl hc hs
      exact lv_dadd hx hb hd (mv_n64k hg) (k _ _ _ _ _ hM hS hl hc hs)
    · cases h
  · split at h
    · next hg =>
      obtain ⟨rfl, rfl, rfl, rfl⟩ := mv_nx_inv h
      obtain ⟨hd, rfl⟩ := mv_dec hdec hlen (Nat.succ_ne_zero _)
      intro H locs cells slots lsA hM hS hl hc hs
      exact lv_ddiv hx hb hd (mv_n64k hg) (k _ _ _ _ _ hM hS hl hc hs)
    · cases h
  · split at h
    · next hg =>
      obtain ⟨rfl, rfl, rfl, rfl⟩ := mv_nx_inv h
      obtain ⟨hd, rfl⟩ := mv_dec hdec hlen (Nat.succ_ne_zero _)
      intro H locs cells slots lsA hM hS hl hc hs
      exact lv_fdiv hx hb hd (mv_n32k hg) (k _ _ _ _ _ hM hS hl hc hs)
    · cases h
  · obtain ⟨rfl, rfl, rfl, rfl⟩ := mv_nx_inv h
    obtain ⟨hd, rfl⟩ := mv_dec hdec hlen (Nat.succ_ne_zero _)
    intro H locs cells slots lsA hM hS hl hc hs
    exact lv_dcmp hx hb hd  (k _ _ _ _ _ hM hS hl hc hs)
  · obtain ⟨rfl, rfl, rfl, rfl⟩ := mv_nx_inv h
    obtain ⟨hd, rfl⟩ := mv_dec hdec hlen (Nat.succ_ne_zero _)
    intro H locs cells slots lsA hM hS hl hc hs
    exact lv_fcmp hx hb hd  (k _ _ _ _ _ hM hS hl hc hs)
  · split at h
    · next hg =>
      obtain ⟨rfl, rfl, rfl, rfl⟩ := mv_nx_inv h
      obtain ⟨hd, rfl⟩ := mv_dec hdec hlen (Nat.succ_ne_zero _)
      intro H locs cells slots lsA hM hS hl hc hs
      exact lv_dup hx hb hd ((mv_cv_cat _ _).trans hg) (k _ _ _ _ _ hM hS hl hc hs)
    · cases h
  · split at h
    · next hg =>
      obtain ⟨rfl, rfl, rfl, rfl⟩ := mv_nx_inv h
      obtain ⟨hd, rfl⟩ := mv_dec hdec hlen (Nat.succ_ne_zero _)
      intro H locs cells slots lsA hM hS hl hc hs
      exact lv_dup2_11 hx hb hd ((mv_cv_cat _ _).trans hg.1) ((mv_cv_cat _ _).trans hg.2) (k _ _ _ _ _ hM hS hl hc hs)
    · cases h
  · split at h
    · next hg =>
      obtain ⟨rfl, rfl, rfl, rfl⟩ := mv_nx_inv h
      obtain ⟨hd, rfl⟩ := mv_dec hdec hlen (Nat.succ_ne_zero _)
      intro H locs cells slots lsA hM hS hl hc hs
      exact lv_pop hx hb hd ((mv_cv_cat _ _).trans hg) (k _ _ _ _ _ hM hS hl hc hs)
    · cases h
  · obtain ⟨rfl, rfl, rfl, rfl⟩ := mv_nx_inv h
    obtain ⟨hd, rfl⟩ := mv_dec hdec hlen (Nat.succ_ne_zero _)
    intro H locs cells slots lsA hM hS hl hc hs
    exact lv_goto hx hb hd (mv_okt hok rfl) (k _ _ _ _ _ hM hS hl hc hs)
  · exact mv_s_icmp hF hok hlen h k
  · exact mv_s_if hF hok hlen h k
  · exact mv_s_acmp hF hin h k
  · obtain ⟨rfl, rfl, rfl, rfl⟩ := mv_nx_inv h
    obtain ⟨hd, rfl⟩ := mv_dec hdec hlen (Nat.succ_ne_zero _)
    intro H locs cells slots lsA hM hS hl hc hs
    exact lv_ifnonnull hx hb hd (mv_okt hok rfl) (k _ _ _ _ _ hM hS hl hc hs)
  · obtain ⟨rfl, rfl, rfl, rfl⟩ := mv_nx_inv h
    obtain ⟨hd, rfl⟩ := mv_dec hdec hlen (Nat.succ_ne_zero _)
    intro H locs cells slots lsA hM hS hl hc hs
    exact lv_ifnonnullN hx hb hd (k _ _ _ _ _ hM hS hl hc hs)
  · exact mv_s_get hF hin h k
  · exact mv_s_put hF hin h k
  · exact mv_s_static hF hin h k
  · exact mv_s_iald hF hin h k
  · exact mv_s_cald hF hin h k
  · exact mv_s_aald hF hin h k
  · exact mv_s_iast hF hin h k
  · exact mv_s_cast hF hin h k
  · exact mv_s_aast hF hin h k
  · exact mv_s_len hF hin h k
  · split at h
    · split at h <;> cases h
    · exact mv_s_new hF hin h hR k
  · exact mv_s_newa hF hin h hR k
  · exact mv_s_anew hF hin h hR k
  · exact mv_s_switch hF hin h k
  · exact mv_s_virt hF hin h hR k
  · exact mv_s_stat hF hin h hR k
  · exact mv_s_spec hF hin h hR k
  · exact (mv_r1_no h).elim
  · cases h
  · cases h
  · cases h
  · cases h
  · cases h
  · cases h
  · cases h
end STEP
