/-! PURE PART 3b: words for programs by simp -/
theorem il_0 : (0 : Int32) = iI 0 := rfl
theorem il_1 : (1 : Int32) = iI 1 := rfl
theorem il_2 : (2 : Int32) = iI 2 := rfl
theorem il_3 : (3 : Int32) = iI 3 := rfl
theorem il_4 : (4 : Int32) = iI 4 := rfl
theorem il_5 : (5 : Int32) = iI 5 := rfl
theorem il_6 : (6 : Int32) = iI 6 := rfl
theorem il_7 : (7 : Int32) = iI 7 := rfl
theorem il_8 : (8 : Int32) = iI 8 := rfl
theorem il_9 : (9 : Int32) = iI 9 := rfl
theorem il_10 : (10 : Int32) = iI 10 := rfl
theorem il_15 : (15 : Int32) = iI 15 := rfl
theorem il_20 : (20 : Int32) = iI 20 := rfl
theorem il_31 : (31 : Int32) = iI 31 := rfl
theorem il_30 : (30 : Int32) = iI 30 := rfl
theorem il_37 : (37 : Int32) = iI 37 := rfl
theorem il_48 : (48 : Int32) = iI 48 := rfl
theorem il_49 : (49 : Int32) = iI 49 := rfl
theorem il_54 : (54 : Int32) = iI 54 := rfl
theorem il_57 : (57 : Int32) = iI 57 := rfl
theorem il_59 : (59 : Int32) = iI 59 := rfl
theorem il_60 : (60 : Int32) = iI 60 := rfl
theorem il_68 : (68 : Int32) = iI 68 := rfl
theorem il_80 : (80 : Int32) = iI 80 := rfl
theorem il_87 : (87 : Int32) = iI 87 := rfl
theorem il_99 : (99 : Int32) = iI 99 := rfl
theorem il_100 : (100 : Int32) = iI 100 := rfl
theorem il_101 : (101 : Int32) = iI 101 := rfl
theorem il_111 : (111 : Int32) = iI 111 := rfl
theorem il_112 : (112 : Int32) = iI 112 := rfl
theorem il_115 : (115 : Int32) = iI 115 := rfl
theorem il_243 : (243 : Int32) = iI 243 := rfl
theorem il_500 : (500 : Int32) = iI 500 := rfl
theorem il_729 : (729 : Int32) = iI 729 := rfl
theorem il_999 : (999 : Int32) = iI 999 := rfl
theorem il_1000 : (1000 : Int32) = iI 1000 := rfl
theorem il_10000 : (10000 : Int32) = iI 10000 := rfl
theorem il_m1 : (-1 : Int32) = iI (-1) := rfl
theorem il_m2 : (-2 : Int32) = iI (-2) := rfl
theorem il_m3 : (-3 : Int32) = iI (-3) := rfl
theorem il_m4 : (-4 : Int32) = iI (-4) := rfl
theorem il_m9 : (-9 : Int32) = iI (-9) := rfl
theorem il_m10 : (-10 : Int32) = iI (-10) := rfl
theorem il_m100 : (-100 : Int32) = iI (-100) := rfl
theorem il_m500 : (-500 : Int32) = iI (-500) := rfl
theorem iI_le' {a b : Int} (h1 : -2147483648 ≤ a) (h2 : a < 2147483648) (h3 : -2147483648 ≤ b) (h4 : b < 2147483648) : (iI a ≤ iI b) = (a ≤ b) := propext (iI_le ⟨h1, h2⟩ ⟨h3, h4⟩)
theorem iI_lt' {a b : Int} (h1 : -2147483648 ≤ a) (h2 : a < 2147483648) (h3 : -2147483648 ≤ b) (h4 : b < 2147483648) : (iI a < iI b) = (a < b) := propext (iI_lt ⟨h1, h2⟩ ⟨h3, h4⟩)
theorem iI_eq' {a b : Int} (h1 : -2147483648 ≤ a) (h2 : a < 2147483648) (h3 : -2147483648 ≤ b) (h4 : b < 2147483648) : (iI a = iI b) = (a = b) := propext (iI_eq ⟨h1, h2⟩ ⟨h3, h4⟩)
theorem jl_0 : (0 : Int64) = Int64.ofInt 0 := rfl
theorem jl_1 : (1 : Int64) = Int64.ofInt 1 := rfl
theorem jl_2 : (2 : Int64) = Int64.ofInt 2 := rfl
theorem jl_3 : (3 : Int64) = Int64.ofInt 3 := rfl
theorem jl_4 : (4 : Int64) = Int64.ofInt 4 := rfl
theorem jl_5 : (5 : Int64) = Int64.ofInt 5 := rfl
theorem jl_6 : (6 : Int64) = Int64.ofInt 6 := rfl
theorem jl_9 : (9 : Int64) = Int64.ofInt 9 := rfl
theorem jl_10 : (10 : Int64) = Int64.ofInt 10 := rfl
theorem jl_15 : (15 : Int64) = Int64.ofInt 15 := rfl
theorem jl_19 : (19 : Int64) = Int64.ofInt 19 := rfl
theorem jl_30 : (30 : Int64) = Int64.ofInt 30 := rfl
theorem jl_500 : (500 : Int64) = Int64.ofInt 500 := rfl
theorem jl_999 : (999 : Int64) = Int64.ofInt 999 := rfl
theorem jl_m1 : (-1 : Int64) = Int64.ofInt (-1) := rfl
theorem jl_m500 : (-500 : Int64) = Int64.ofInt (-500) := rfl
theorem dc_ltT {a b : Int} (h : a < b) : (a < b) = True := eq_true h
theorem dc_ltF {a b : Int} (h : ¬ a < b) : (a < b) = False := eq_false h
theorem dc_leT {a b : Int} (h : a ≤ b) : (a ≤ b) = True := eq_true h
theorem dc_leF {a b : Int} (h : ¬ a ≤ b) : (a ≤ b) = False := eq_false h
theorem dc_eqT {a b : Int} (h : a = b) : (a = b) = True := eq_true h
theorem dc_eqF {a b : Int} (h : ¬ a = b) : (a = b) = False := eq_false h
theorem dc_andT {p q : Prop} (h : p ∧ q) : (p ∧ q) = True := eq_true h
theorem dc_andF {p q : Prop} (h : ¬ (p ∧ q)) : (p ∧ q) = False := eq_false h
