/-! RUNNING BY REWRITING, OVER INTS: rows with their side conditions as plain arithmetic -/
def mv_cs : List Value → Nat
  | [] => 0
  | v :: l => v.category + mv_cs l
theorem mv_cs_eq (st : List Value) : mv_cs st = (st.map (fun v => v.category)).sum := by
  induction st with
  | nil => rfl
  | cons v l ih => rw [mv_cs, ih]; rfl
theorem bz_6 : (Int8.ofInt 6).toInt32 = Int32.ofInt 6 := by decide
theorem bz_8 : (Int8.ofInt 8).toInt32 = Int32.ofInt 8 := by decide
theorem bz_9 : (Int8.ofInt 9).toInt32 = Int32.ofInt 9 := by decide
theorem bz_10 : (Int8.ofInt 10).toInt32 = Int32.ofInt 10 := by decide
theorem bz_12 : (Int8.ofInt 12).toInt32 = Int32.ofInt 12 := by decide
theorem bz_14 : (Int8.ofInt 14).toInt32 = Int32.ofInt 14 := by decide
theorem bz_16 : (Int8.ofInt 16).toInt32 = Int32.ofInt 16 := by decide
theorem bz_20 : (Int8.ofInt 20).toInt32 = Int32.ofInt 20 := by decide
theorem bz_21 : (Int8.ofInt 21).toInt32 = Int32.ofInt 21 := by decide
theorem bz_30 : (Int8.ofInt 30).toInt32 = Int32.ofInt 30 := by decide
theorem bz_32 : (Int8.ofInt 32).toInt32 = Int32.ofInt 32 := by decide
theorem bz_40 : (Int8.ofInt 40).toInt32 = Int32.ofInt 40 := by decide
theorem bz_44 : (Int8.ofInt 44).toInt32 = Int32.ofInt 44 := by decide
theorem bz_47 : (Int8.ofInt 47).toInt32 = Int32.ofInt 47 := by decide
theorem bz_48 : (Int8.ofInt 48).toInt32 = Int32.ofInt 48 := by decide
theorem bz_50 : (Int8.ofInt 50).toInt32 = Int32.ofInt 50 := by decide
theorem bz_54 : (Int8.ofInt 54).toInt32 = Int32.ofInt 54 := by decide
theorem bz_58 : (Int8.ofInt 58).toInt32 = Int32.ofInt 58 := by decide
theorem bz_60 : (Int8.ofInt 60).toInt32 = Int32.ofInt 60 := by decide
theorem bz_99 : (Int8.ofInt 99).toInt32 = Int32.ofInt 99 := by decide
theorem bz_100 : (Int8.ofInt 100).toInt32 = Int32.ofInt 100 := by decide
theorem bz_104 : (Int8.ofInt 104).toInt32 = Int32.ofInt 104 := by decide
theorem bz_110 : (Int8.ofInt 110).toInt32 = Int32.ofInt 110 := by decide
theorem bz_124 : (Int8.ofInt 124).toInt32 = Int32.ofInt 124 := by decide
theorem bz_126 : (Int8.ofInt 126).toInt32 = Int32.ofInt 126 := by decide
theorem sz_m30000 : (Int16.ofInt (-30000)).toInt32 = Int32.ofInt (-30000) := by decide
theorem sz_m25000 : (Int16.ofInt (-25000)).toInt32 = Int32.ofInt (-25000) := by decide
theorem sz_m20000 : (Int16.ofInt (-20000)).toInt32 = Int32.ofInt (-20000) := by decide
theorem sz_m10000 : (Int16.ofInt (-10000)).toInt32 = Int32.ofInt (-10000) := by decide
theorem sz_7919 : (Int16.ofInt 7919).toInt32 = Int32.ofInt 7919 := by decide
section RU
variable {L : Nat} {xs : Nat → Int32} {C : Nat → List Value → mv_S → Option mv_R} {M pc nx a b w q t : Nat} {ls : mv_V} {st rest : List Value} {σ σ' : mv_S} {res : mv_R} {h : mv_H} {T : zT}
theorem ez_ret {e : Int} (h : e = 0 ∨ e = 1) : mv_stp L xs (.ireturn, nx, 1, b, w) ls [.int (Int32.ofInt e)] σ = some (.inr (.inl (.inl (some (.int (Int32.ofInt e))), σ))) := by
  rcases h with rfl | rfl <;> rfl
theorem ez_retc {e : Int} (h0 : 0 ≤ e) (h1 : e < 65536) : mv_stp L xs (.ireturn, nx, 2, b, w) ls [.int (Int32.ofInt e)] σ = some (.inr (.inl (.inl (some (.int (Int32.ofInt e))), σ))) := by
  have : mv_ch (Int32.ofInt e) = Int32.ofInt e := by rw [mv_ch_z, Int.emod_eq_of_lt h0 h1]
  simp [mv_stp, mv_r1, this]
theorem ez_thr {i : Nat} : mv_stp L xs (.new i, nx, 99, b, w) ls st (t, 142, h) = if mv_cs st ≤ 8 then some (.inr (.inl (.inr b, (t + 1, 142, h)))) else none := by
  split
  · next hs => exact ea_thr rfl (by rw [← mv_cs_eq]; exact hs)
  · next hs =>
    rw [mv_cs_eq] at hs
    simp only [mv_stp]
    rw [if_pos trivial, if_neg (fun q => hs q.2)]
theorem ez_div {x y : Int} (h0 : 0 ≤ x) (h1 : x < 2147483648) (h2 : 0 < y) (h3 : y < 2147483648) : mv_stp L xs (.idiv, nx, a, b, w) ls (.int (Int32.ofInt y) :: .int (Int32.ofInt x) :: st) σ = some (.inl (nx, ls, .int (Int32.ofInt (x / y)) :: st, σ)) := by
  rw [ea_idiv (oz_b0 h2 h3), oz_d4 (by omega) h1 h2 h3, Int.tdiv_eq_ediv_of_nonneg h0]
theorem ez_rem {x y : Int} (h0 : 0 ≤ x) (h1 : x < 2147483648) (h2 : 0 < y) (h3 : y < 2147483648) : mv_stp L xs (.irem, nx, a, b, w) ls (.int (Int32.ofInt y) :: .int (Int32.ofInt x) :: st) σ = some (.inl (nx, ls, .int (Int32.ofInt (x % y)) :: st, σ)) := by
  rw [ea_irem (oz_b0 h2 h3), oz_d4 (by omega) h1 h2 h3, Int.tdiv_eq_ediv_of_nonneg h0, oz_mul, oz_sub]
  have : x - x / y * y = x % y := by
    have := Int.mul_ediv_add_emod x y
    rw [Int.mul_comm] at this
    omega
  rw [this]
theorem ez_min {x y : Int} (h0 : -2147483648 ≤ x) (h1 : x < 2147483648) (h2 : -2147483648 ≤ y) (h3 : y < 2147483648) : mv_stp L xs (.invokestatic q, nx, 900, b, w) ls (.int (Int32.ofInt y) :: .int (Int32.ofInt x) :: st) σ = if mv_cs st ≤ 8 then some (.inl (nx, ls, .int (Int32.ofInt (min x y)) :: st, σ)) else none := by
  show mv_call 0 900 b nx ls _ σ = _
  have e : (if Int32.ofInt y < Int32.ofInt x then Int32.ofInt y else Int32.ofInt x) = Int32.ofInt (min x y) := by
    have hlt : Int32.ofInt y < Int32.ofInt x ↔ y < x := by rw [Int32.lt_iff_toInt_lt, oz_ti h2 h3, oz_ti h0 h1]
    by_cases hh : y < x
    · rw [if_pos (hlt.mpr hh), Int.min_eq_right (by omega)]
    · rw [if_neg (fun q => hh (hlt.mp q)), Int.min_eq_left (by omega)]
  simp only [mv_call, mv_cs_eq, e, mv_nx]
  rfl
theorem ez_max {x y : Int} (h0 : -2147483648 ≤ x) (h1 : x < 2147483648) (h2 : -2147483648 ≤ y) (h3 : y < 2147483648) : mv_stp L xs (.invokestatic q, nx, 901, b, w) ls (.int (Int32.ofInt y) :: .int (Int32.ofInt x) :: st) σ = if mv_cs st ≤ 8 then some (.inl (nx, ls, .int (Int32.ofInt (max x y)) :: st, σ)) else none := by
  show mv_call 0 901 b nx ls _ σ = _
  have e : (if Int32.ofInt x < Int32.ofInt y then Int32.ofInt y else Int32.ofInt x) = Int32.ofInt (max x y) := by
    have hlt : Int32.ofInt x < Int32.ofInt y ↔ x < y := by rw [Int32.lt_iff_toInt_lt, oz_ti h2 h3, oz_ti h0 h1]
    by_cases hh : x < y
    · rw [if_pos (hlt.mpr hh), Int.max_eq_right (by omega)]
    · rw [if_neg (fun q => hh (hlt.mp q)), Int.max_eq_left (by omega)]
  simp only [mv_call, mv_cs_eq, e, mv_nx]
  rfl
theorem ez_acmp {cd : ClassFile.ACond} {off : Int} {x y : Nat} : mv_stp L xs (.if_acmp cd off, nx, a, b, w) ls (.ref y :: .ref x :: st) σ = if 1000 ≤ x ∧ x < 1014 ∧ 1000 ≤ y ∧ y < 1014 then some (.inl (if mv_ac cd x y = true then a else nx, ls, st, σ)) else none := rfl
theorem ez_ord {o : Nat} (h0 : 1000 ≤ o) (h1 : o < 1008) : mv_stp L xs (.invokevirtual q, nx, 902, b, w) ls (.ref o :: st) σ = if mv_cs st ≤ 8 then some (.inl (nx, ls, .int (Int32.ofInt ((o - 1000 : Nat) : Int)) :: st, σ)) else none := by
  show mv_call 1 902 b nx ls _ σ = _
  simp only [mv_call, mv_cs_eq, mv_nx, h0, h1, true_and]
  rfl
theorem ezs_0 : mv_stp L xs (.iaload, nx, a, b, w) ls (.int (Int32.ofInt 0) :: .ref 1021 :: st) σ = some (.inl (nx, ls, .int (Int32.ofInt 1) :: st, σ)) := rfl
theorem ezo_0 : mv_stp L xs (.invokevirtual q, nx, 902, b, w) ls (.ref 1000 :: st) σ = if mv_cs st ≤ 8 then some (.inl (nx, ls, .int (Int32.ofInt 0) :: st, σ)) else none := by
  rw [ez_ord (by decide) (by decide)]
  rfl
theorem ezs_1 : mv_stp L xs (.iaload, nx, a, b, w) ls (.int (Int32.ofInt 1) :: .ref 1021 :: st) σ = some (.inl (nx, ls, .int (Int32.ofInt 2) :: st, σ)) := rfl
theorem ezo_1 : mv_stp L xs (.invokevirtual q, nx, 902, b, w) ls (.ref 1001 :: st) σ = if mv_cs st ≤ 8 then some (.inl (nx, ls, .int (Int32.ofInt 1) :: st, σ)) else none := by
  rw [ez_ord (by decide) (by decide)]
  rfl
theorem ezs_2 : mv_stp L xs (.iaload, nx, a, b, w) ls (.int (Int32.ofInt 2) :: .ref 1021 :: st) σ = some (.inl (nx, ls, .int (Int32.ofInt 3) :: st, σ)) := rfl
theorem ezo_2 : mv_stp L xs (.invokevirtual q, nx, 902, b, w) ls (.ref 1002 :: st) σ = if mv_cs st ≤ 8 then some (.inl (nx, ls, .int (Int32.ofInt 2) :: st, σ)) else none := by
  rw [ez_ord (by decide) (by decide)]
  rfl
theorem ezs_3 : mv_stp L xs (.iaload, nx, a, b, w) ls (.int (Int32.ofInt 3) :: .ref 1021 :: st) σ = some (.inl (nx, ls, .int (Int32.ofInt 4) :: st, σ)) := rfl
theorem ezo_3 : mv_stp L xs (.invokevirtual q, nx, 902, b, w) ls (.ref 1003 :: st) σ = if mv_cs st ≤ 8 then some (.inl (nx, ls, .int (Int32.ofInt 3) :: st, σ)) else none := by
  rw [ez_ord (by decide) (by decide)]
  rfl
theorem ezs_4 : mv_stp L xs (.iaload, nx, a, b, w) ls (.int (Int32.ofInt 4) :: .ref 1021 :: st) σ = some (.inl (nx, ls, .int (Int32.ofInt 5) :: st, σ)) := rfl
theorem ezo_4 : mv_stp L xs (.invokevirtual q, nx, 902, b, w) ls (.ref 1004 :: st) σ = if mv_cs st ≤ 8 then some (.inl (nx, ls, .int (Int32.ofInt 4) :: st, σ)) else none := by
  rw [ez_ord (by decide) (by decide)]
  rfl
theorem ezs_5 : mv_stp L xs (.iaload, nx, a, b, w) ls (.int (Int32.ofInt 5) :: .ref 1021 :: st) σ = some (.inl (nx, ls, .int (Int32.ofInt 0) :: st, σ)) := rfl
theorem ezo_5 : mv_stp L xs (.invokevirtual q, nx, 902, b, w) ls (.ref 1005 :: st) σ = if mv_cs st ≤ 8 then some (.inl (nx, ls, .int (Int32.ofInt 5) :: st, σ)) else none := by
  rw [ez_ord (by decide) (by decide)]
  rfl
theorem ezs_6 : mv_stp L xs (.iaload, nx, a, b, w) ls (.int (Int32.ofInt 6) :: .ref 1021 :: st) σ = some (.inl (nx, ls, .int (Int32.ofInt 6) :: st, σ)) := rfl
theorem ezo_6 : mv_stp L xs (.invokevirtual q, nx, 902, b, w) ls (.ref 1006 :: st) σ = if mv_cs st ≤ 8 then some (.inl (nx, ls, .int (Int32.ofInt 6) :: st, σ)) else none := by
  rw [ez_ord (by decide) (by decide)]
  rfl
theorem ezs_7 : mv_stp L xs (.iaload, nx, a, b, w) ls (.int (Int32.ofInt 7) :: .ref 1021 :: st) σ = some (.inl (nx, ls, .int (Int32.ofInt 7) :: st, σ)) := rfl
theorem ezo_7 : mv_stp L xs (.invokevirtual q, nx, 902, b, w) ls (.ref 1007 :: st) σ = if mv_cs st ≤ 8 then some (.inl (nx, ls, .int (Int32.ofInt 7) :: st, σ)) else none := by
  rw [ez_ord (by decide) (by decide)]
  rfl
theorem mk_v {v : Value} {σ' : mv_S} : mv_K L xs C M pc nx ls rest res (some (.inl (some v), σ')) ↔ mv_Ev L xs C M nx ls (v :: rest) σ' res := Iff.rfl
theorem mk_n {σ' : mv_S} : mv_K L xs C M pc nx ls rest res (some (.inl none, σ')) ↔ mv_Ev L xs C M nx ls rest σ' res := Iff.rfl
theorem mk_x {E : Nat} {σ' : mv_S} : mv_K L xs C M pc nx ls rest res (some (.inr E, σ')) ↔ if mv_nh M = true then (.inr E, σ') = res else match mv_hd M pc E with
    | some (g, i) => mv_Ev L xs C M g (mv_f1 i ls) [] σ' res
    | none => False := Iff.rfl
theorem mk_i {c : Prop} [Decidable c] {x y : Option mv_R} : mv_K L xs C M pc nx ls rest res (if c then x else y) ↔ if c then mv_K L xs C M pc nx ls rest res x else mv_K L xs C M pc nx ls rest res y := by split <;> rfl
theorem cl_any {kk n : Nat} {as : List Value} (ha : a < 900) (hl : as.length = n) (hc : as.all (fun v => decide (v.category = 1)) = true) (hr : kk = 0 ∨ mv_rcv as 142 a = true) : mv_call kk a n nx ls (as.reverse ++ st) (t, 142, h) = if mv_cs st ≤ 8 then some (.inr (.inr (a, as, st))) else none := by
  subst hl
  have h1 : (as.reverse ++ st).take as.length = as.reverse := by rw [← List.length_reverse, List.take_left']; rfl
  have h2 : (as.reverse ++ st).drop as.length = st := by rw [← List.length_reverse, List.drop_left']; rfl
  have h3 : as.reverse.all (fun v => decide (v.category = 1)) = true := by rw [List.all_reverse]; exact hc
  unfold mv_call
  rw [if_pos ha, h1, h2, List.reverse_reverse, mv_cs_eq]
  by_cases hs : (st.map (fun v => v.category)).sum ≤ 8
  · rw [if_pos hs, if_pos ⟨by rw [List.length_append, List.length_reverse]; omega, hs, h3, hr⟩]
  · rw [if_neg hs, if_neg (fun q => hs q.2.1)]
theorem ar_ld0 {o n w9 : Nat} {i : Int} (h : AI o 20 n w9 0) (h0 : 0 ≤ i) (hn : i < n) : mv_stp L xs (.iaload, nx, a, b, w) ls (.int (Int32.ofInt i) :: .ref o :: st) (t, 142, mz T) = some (.inl (nx, ls, .int (Int32.ofInt (T.1 w9 i)) :: st, (t, 142, mz T))) := by
  rw [ar_ld h h0 hn, Int.zero_add]
theorem ar_ldc0 {o n w9 : Nat} {i : Int} (h : AI o 21 n w9 0) (h0 : 0 ≤ i) (hn : i < n) : mv_stp L xs (.caload, nx, a, b, w) ls (.int (Int32.ofInt i) :: .ref o :: st) (t, 142, mz T) = some (.inl (nx, ls, .int (Int32.ofInt (T.1 w9 i)) :: st, (t, 142, mz T))) := by
  rw [ar_ldc h h0 hn, Int.zero_add]
theorem ar_st0 {o n w9 : Nat} {i v : Int} (h : AI o 20 n w9 0) (h0 : 0 ≤ i) (hn : i < n) : mv_stp L xs (.iastore, nx, a, b, w) ls (.int (Int32.ofInt v) :: .int (Int32.ofInt i) :: .ref o :: st) (t, 142, mz T) = some (.inl (nx, ls, st, (t, 142, mz (sD T w9 (upR (T.1 w9) i v))))) := by
  rw [ar_st h h0 hn, Int.zero_add]
theorem ar_stc0 {o n w9 : Nat} {i v : Int} (h : AI o 21 n w9 0) (h0 : 0 ≤ i) (hn : i < n) : mv_stp L xs (.castore, nx, a, b, w) ls (.int (Int32.ofInt v) :: .int (Int32.ofInt i) :: .ref o :: st) (t, 142, mz T) = some (.inl (nx, ls, st, (t, 142, mz (sD T w9 (upR (T.1 w9) i (v % 65536)))))) := by
  rw [ar_stc h h0 hn, Int.zero_add]
theorem em_id {v : Int} (h0 : 0 ≤ v) (h1 : v < 65536) : v % 65536 = v := Int.emod_eq_of_lt h0 h1
theorem i2l_z {x : Int} (h1 : -2147483648 ≤ x) (h2 : x < 2147483648) : mv_stp L xs (.i2l, nx, a, b, w) ls (.int (Int32.ofInt x) :: st) σ = some (.inl (nx, ls, .long (Int64.ofInt x) :: st, σ)) := by
  rw [ea_i2l, oz_il h1 h2]
theorem l2i_z {x : Int} : mv_stp L xs (.l2i, nx, a, b, w) ls (.long (Int64.ofInt x) :: st) σ = some (.inl (nx, ls, .int (Int32.ofInt x) :: st, σ)) := by
  rw [ea_l2i, oz_li]
theorem mv_Es {pc : Nat} {ls ls' : mv_V} (h : mv_Ev L xs C M pc ls st σ res) (h2 : mv_sb ls ls' := by first | exact trivial | exact ⟨rfl, trivial⟩ | exact ⟨rfl, rfl, trivial⟩ | exact ⟨rfl, rfl, rfl, trivial⟩ | exact ⟨rfl, rfl, rfl, rfl, trivial⟩ | exact ⟨rfl, rfl, rfl, rfl, rfl, trivial⟩ | exact ⟨rfl, rfl, rfl, rfl, rfl, rfl, trivial⟩ | exact ⟨rfl, rfl, rfl, rfl, rfl, rfl, rfl, trivial⟩ | exact ⟨rfl, rfl, rfl, rfl, rfl, rfl, rfl, rfl, trivial⟩ | exact ⟨rfl, rfl, rfl, rfl, rfl, rfl, rfl, rfl, rfl, trivial⟩ | exact ⟨rfl, rfl, rfl, rfl, rfl, rfl, rfl, rfl, rfl, rfl, trivial⟩ | exact ⟨rfl, rfl, rfl, rfl, rfl, rfl, rfl, rfl, rfl, rfl, rfl, trivial⟩) (h1 : mv_ks (ls.map Prod.fst) = true := by rfl) : mv_Ev L xs C M pc ls' st σ res := mv_Ev_sub h2 h1 h
end RU
theorem sD_in {T : zT} {o p : Nat} {A B X : Int → Int} (h : ¬ o = p) : sD (sD (sD T o A) p B) o X = sD (sD T o X) p B := by
  rw [sD_comm (sD T o A) B X (fun q => h q.symm), sD_sD]
theorem sD_in2 {T : zT} {o p q : Nat} {A B Y X : Int → Int} (h : ¬ o = p) (h2 : ¬ o = q) : sD (sD (sD (sD T o A) p B) q Y) o X = sD (sD (sD T o X) p B) q Y := by
  rw [sD_comm _ Y X (fun q => h2 q.symm), sD_in h]
theorem sD_in3 {T : zT} {o p q r : Nat} {A B Y Z X : Int → Int} (h : ¬ o = p) (h2 : ¬ o = q) (h3 : ¬ o = r) : sD (sD (sD (sD (sD T o A) p B) q Y) r Z) o X = sD (sD (sD (sD T o X) p B) q Y) r Z := by
  rw [sD_comm _ Z X (fun q => h3 q.symm), sD_in2 h h2]

