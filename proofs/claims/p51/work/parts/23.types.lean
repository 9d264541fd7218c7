/-! TYPES OF SLOTS, FOR REWRITING -/
theorem ft_0_0 : mv_ty 0 0 = .int := by decide
theorem ft_0_1 : mv_ty 0 1 = .int := by decide
theorem ft_0_2 : mv_ty 0 2 = .int := by decide
theorem ft_0_3 : mv_ty 0 3 = .int := by decide
theorem ft_0_4 : mv_ty 0 4 = .int := by decide
theorem ft_0_5 : mv_ty 0 5 = .boolean := by decide
theorem ft_0_6 : mv_ty 0 6 = .int := by decide
theorem ft_0_7 : mv_ty 0 7 = .int := by decide
theorem ft_0_8 : mv_ty 0 8 = .int := by decide
theorem ft_1_0 : mv_ty 1 0 = .array (.object "SluiceChain$Basin") := by decide
theorem ft_1_1 : mv_ty 1 1 = .int := by decide
theorem ft_1_2 : mv_ty 1 2 = .array .int := by decide
theorem ft_1_3 : mv_ty 1 3 = .int := by decide
theorem ft_1_4 : mv_ty 1 4 = .int := by decide
theorem ft_1_5 : mv_ty 1 5 = .long := by decide
theorem ft_1_6 : mv_ty 1 6 = .long := by decide
theorem ft_1_7 : mv_ty 1 7 = .long := by decide
theorem ft_2_0 : mv_ty 2 0 = .array (.object "SluiceChain$Chain") := by decide
theorem ft_2_1 : mv_ty 2 1 = .int := by decide
theorem ft_2_2 : mv_ty 2 2 = .int := by decide
theorem ft_3_0 : mv_ty 3 0 = .array .char := by decide
theorem ft_3_1 : mv_ty 3 1 = .int := by decide
theorem ft_4_0 : mv_ty 4 0 = .array (.object "SluiceChain$Chain") := by decide
theorem ft_5_0 : mv_ty 5 0 = .array .char := by decide
theorem ft_5_1 : mv_ty 5 1 = .int := by decide
theorem ft_5_2 : mv_ty 5 2 = .int := by decide
theorem ft_5_3 : mv_ty 5 3 = .object "SluiceChain$Command" := by decide
theorem ft_5_4 : mv_ty 5 4 = .array .int := by decide
theorem ft_5_5 : mv_ty 5 5 = .int := by decide
theorem ft_6_0 : mv_ty 6 0 = .array .int := by decide
theorem ft_6_1 : mv_ty 6 1 = .array .int := by decide
theorem ft_6_2 : mv_ty 6 2 = .int := by decide
theorem ft_6_3 : mv_ty 6 3 = .array .int := by decide
theorem ft_7_0 : mv_ty 7 0 = .object "SluiceChain$Chain" := by decide
theorem ft_7_1 : mv_ty 7 1 = .object "SluiceChain$Chain" := by decide
theorem ft_7_2 : mv_ty 7 2 = .object "SluiceChain$Chain" := by decide
theorem ft_7_3 : mv_ty 7 3 = .object "SluiceChain$Chain" := by decide
theorem ft_7_4 : mv_ty 7 4 = .object "SluiceChain$History" := by decide
theorem ft_7_5 : mv_ty 7 5 = .object "SluiceChain$PlanSearch" := by decide
theorem ft_7_6 : mv_ty 7 6 = .object "SluiceChain$Protection" := by decide
theorem ft_7_7 : mv_ty 7 7 = .object "SluiceChain$Program" := by decide
theorem ft_7_8 : mv_ty 7 8 = .object "SluiceChain$Line" := by decide
theorem ft_7_9 : mv_ty 7 9 = .boolean := by decide
theorem ft_7_10 : mv_ty 7 10 = .int := by decide
theorem ft_7_11 : mv_ty 7 11 = .int := by decide
theorem mf_i (x : Int32) : mv_fit .int (.int x) = true := rfl
theorem mf_l (x : Int64) : mv_fit .long (.long x) = true := rfl
theorem mf_r (C : String) (o : Nat) : mv_fit (.object C) (.ref o) = true := rfl
theorem mf_a (t : FieldType) (o : Nat) : mv_fit (.array t) (.ref o) = true := rfl
theorem mf_0 : mv_fit .boolean (.int 0) = true := by decide
theorem mf_1 : mv_fit .boolean (.int 1) = true := by decide
theorem mf_z {x : Int32} (h : x = 0 ∨ x = 1) : mv_fit .boolean (.int x) = true := by rcases h with rfl | rfl; exact mf_0; exact mf_1
theorem i_m1 : Int32.ofInt (-1) = -1 := rfl
theorem i_0 : Int32.ofInt 0 = 0 := rfl
theorem i_1 : Int32.ofInt 1 = 1 := rfl
theorem i_2 : Int32.ofInt 2 = 2 := rfl
theorem i_3 : Int32.ofInt 3 = 3 := rfl
theorem i_4 : Int32.ofInt 4 = 4 := rfl
theorem i_5 : Int32.ofInt 5 = 5 := rfl
