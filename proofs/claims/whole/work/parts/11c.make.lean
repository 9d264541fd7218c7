/-! ROWS THAT MAKE; STORES OF REFERENCES; SWITCHES; THE JDK'S OWN METHODS -/
section MAKE
variable {z : Nat} {kad : Nat → Nat} {dC : Nat → ClassId} {dI : Nat → Nat → Nat} {cA : Nat → ClassId} {L : Nat} {xs : Nat → Int32}
variable {p : Program} {l : Launch} {e : Env} {R : Room} {s : State} {m : MethodId} {args : Array Value} {below : List Frame} {meth : Method} {c : Code} {Q : State → Prop} {c0 s0 M : Nat}
variable {pc pc' nx a b w : Nat} {ls ls' : mv_V} {st st' : List Value} {σ σ' : mv_S}
theorem mv_s_aast (hF : mv_Fx z kad dC dI cA L xs p R s m args meth c M) (hin : mv_in M pc = some (.aastore, nx, a, b, w))
    (h : mv_aas nx ls st σ = some (.inl (pc', ls', st', σ'))) (k : mv_W z kad dC dI cA p l e R s m args below meth c Q c0 s0 pc' ls' st' σ') : mv_W z kad dC dI cA p l e R s m args below meth c Q c0 s0 pc ls st σ := by
  obtain ⟨hok, hlen⟩ := mv_row hin
  obtain ⟨hx, hb, hml, hown, hts, hE, -, hRf, hRl⟩ := id hF
  have hdec := mv_okd hok
  unfold mv_aas at h
  split at h
  · next v i o st1 =>
    obtain ⟨o, rfl⟩ : ∃ q : Nat, q = o := ⟨o, rfl⟩
    obtain ⟨v, rfl⟩ : ∃ q : Nat, q = v := ⟨v, rfl⟩
    split at h
    · next hg =>
      obtain ⟨ho, hv, hix, hk⟩ := hg
      have hix := mv_ixk hix
      obtain ⟨rfl, rfl, rfl, rfl⟩ := mv_nx_inv h
      obtain ⟨hd, rfl⟩ := mv_dec hdec hlen (Nat.succ_ne_zero _)
      intro H locs cells slots lsA hM hS hl hc hs
      have ho : o < σ.2.1 := ho
      have hv : v < σ.2.1 := hv
      have he := mv_wl_get (ad := mv_ad z kad) (cA := cA) (h := σ.2.2) ho
      have hev := mv_wl_get (ad := mv_ad z kad) (cA := cA) (h := σ.2.2) hv
      have hD := mv_wl_D (z := z) (kad := kad) (cA := cA) (h := σ.2.2) hM.2.2
      have hn : v < 149 := Nat.lt_of_lt_of_le hv hM.2.2
      have hk' : ((mv_kd o).1 = 24 ∨ (mv_kd o).1 = 25) ∧ (mv_kd v).1 + 24 = (mv_kd o).1 := by omega
      obtain ⟨hk1, hk2⟩ := hk'
      have hkd : mv_kd o = ((mv_kd o).1, (mv_kd o).2) := rfl
      rw [mv_ce_q hkd hk1] at he
      have hkv : (mv_kd v).1 < 9 := by omega
      rw [mv_ce_o (show mv_kd v = ((mv_kd v).1, (mv_kd v).2) from rfl) hkv] at hev
      have hty : ∃ r : vw_C, mv_cls[(mv_kd v).1]? = some r ∧ (mv_tys cA)[(mv_kd o).1 - 20]? = some (cA (mv_kd o).1, .object r.1) := by
        generalize (mv_kd v).1 = tv at *
        generalize (mv_kd o).1 = t at *
        rcases hk1 with rfl | rfl
        · have : tv = 0 := by omega
          subst this; exact ⟨_, rfl, rfl⟩
        · have : tv = 1 := by omega
          subst this; exact ⟨_, rfl, rfl⟩
      obtain ⟨r, hr, hty⟩ := hty
      have h0 : ¬ i < 0 := fun q => hix (Or.inl q)
      have hlt : i.toNatClampNeg < (mv_kd o).2 := Nat.lt_of_not_le fun q => hix (Or.inr q)
      obtain ⟨r', hr', cellV, g1, g2, g3, -⟩ := hM.1 v _ hev
      have hcls := (hE.1.1 _ r hr).2
      obtain ⟨kA, comp, k1, k2, k3, -⟩ := (hE.1.2 _ _ hty).2
      have hcomp : comp = dC (mv_kd v).1 := Option.some.inj (k3.symm.trans hcls.1)
      subst hcomp
      obtain ⟨kC, hkC, -⟩ := hcls.2
      refine W.aast hx hb (hM.1 o _ he) (fun q h => by cases h) (fun h => by cases h) k1 k2 rfl hkC ⟨h0, by show _ < (arrV _ _ _).slots.size; rw [arrV_size]; exact hlt⟩ g1 (fun q h => by rw [g3] at h; cases h) (by rw [g2]; exact hkC) (by rw [g2]; exact va_assign hcls) rfl rfl hd fun H1 e1 z1 oq => ?_
      refine k _ _ _ _ _ ⟨?_, fun q => z1.trans (hM.2.1 q), hM.2.2⟩ (hS.put z1 oq (hD.2 o _ he)) hl hc hs
      show va_P (dC, dI) mv_cls (mv_wl (mv_ad z kad) cA σ.2.1 (mv_up σ.2.2 o i.toNatClampNeg (.ref v))) H1
      rw [mv_up_o, ← mv_wl_set, mv_ce_q hkd hk1]
      refine hM.1.set hD he ?_ oq
      show H1[mv_ad z kad o]? = some (vp_cell _ _)
      rw [e1, vp_cell_q, vp_cell_q, arrV_store]
      congr 2
      funext q
      by_cases hq : q = i.toNatClampNeg
      · simp [hq, updV, mv_ov, va_rf]
      · simp [hq, updV, mv_ov]
    · cases h
  · cases h
theorem mv_instw : ((List.range 9).all (fun a => match mv_cls[a]? with | some (C, _, N) => decide (lw_tbl[[157, 150, 240, 324, 260, 292, 272, 142, 1261].getD a 0]? = some (.instantiable C N)) | none => false)) = true := by decide +kernel
end MAKE
