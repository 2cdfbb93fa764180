/-! COUNT: made by wip/whole/math/50.py. -/
section Count3
variable {B : am_A} {i : Nat → Nat → Int32} {σ : Sg} {w : Nat → Int32} {L j d : Nat}
theorem c_within1 {x a c : Int32} {d : Nat} {A : am_A} (h : ¬ x < a ∧ ¬ c < x) : am_fx am_P d 352 0 [some (.int x), some (.int a), some (.int c)] [] A = some (.inl (some (.int 1)), A) := by
  rw [c_within, tf, if_pos h]
theorem c_within0 {x a c : Int32} {d : Nat} {A : am_A} (h : ¬ (¬ x < a ∧ ¬ c < x)) : am_fx am_P d 352 0 [some (.int x), some (.int a), some (.int c)] [] A = some (.inl (some (.int 0)), A) := by
  rw [c_within, tf, if_neg h]
theorem u_0_6 : ((0 : Int32) = 6) = False := eq_false (by decide)
theorem u_0_7 : ((0 : Int32) = 7) = False := eq_false (by decide)
theorem u_0_8 : ((0 : Int32) = 8) = False := eq_false (by decide)
theorem u_0_9 : ((0 : Int32) = 9) = False := eq_false (by decide)
theorem u_0_10 : ((0 : Int32) = 10) = False := eq_false (by decide)
theorem u_0_11 : ((0 : Int32) = 11) = False := eq_false (by decide)
theorem u_0_12 : ((0 : Int32) = 12) = False := eq_false (by decide)
theorem u_0_13 : ((0 : Int32) = 13) = False := eq_false (by decide)
theorem u_0_14 : ((0 : Int32) = 14) = False := eq_false (by decide)
theorem u_0_15 : ((0 : Int32) = 15) = False := eq_false (by decide)
theorem u_0_16 : ((0 : Int32) = 16) = False := eq_false (by decide)
theorem u_0_17 : ((0 : Int32) = 17) = False := eq_false (by decide)
theorem u_0_18 : ((0 : Int32) = 18) = False := eq_false (by decide)
theorem u_w_0 : ¬ (¬ (0 : Int32) < 4 ∧ ¬ 10 < (0 : Int32)) := by decide
theorem u_1_6 : ((1 : Int32) = 6) = False := eq_false (by decide)
theorem u_1_7 : ((1 : Int32) = 7) = False := eq_false (by decide)
theorem u_1_8 : ((1 : Int32) = 8) = False := eq_false (by decide)
theorem u_1_9 : ((1 : Int32) = 9) = False := eq_false (by decide)
theorem u_1_10 : ((1 : Int32) = 10) = False := eq_false (by decide)
theorem u_1_11 : ((1 : Int32) = 11) = False := eq_false (by decide)
theorem u_1_12 : ((1 : Int32) = 12) = False := eq_false (by decide)
theorem u_1_13 : ((1 : Int32) = 13) = False := eq_false (by decide)
theorem u_1_14 : ((1 : Int32) = 14) = False := eq_false (by decide)
theorem u_1_15 : ((1 : Int32) = 15) = False := eq_false (by decide)
theorem u_1_16 : ((1 : Int32) = 16) = False := eq_false (by decide)
theorem u_1_17 : ((1 : Int32) = 17) = False := eq_false (by decide)
theorem u_1_18 : ((1 : Int32) = 18) = False := eq_false (by decide)
theorem u_w_1 : ¬ (¬ (1 : Int32) < 4 ∧ ¬ 10 < (1 : Int32)) := by decide
theorem u_2_6 : ((2 : Int32) = 6) = False := eq_false (by decide)
theorem u_2_7 : ((2 : Int32) = 7) = False := eq_false (by decide)
theorem u_2_8 : ((2 : Int32) = 8) = False := eq_false (by decide)
theorem u_2_9 : ((2 : Int32) = 9) = False := eq_false (by decide)
theorem u_2_10 : ((2 : Int32) = 10) = False := eq_false (by decide)
theorem u_2_11 : ((2 : Int32) = 11) = False := eq_false (by decide)
theorem u_2_12 : ((2 : Int32) = 12) = False := eq_false (by decide)
theorem u_2_13 : ((2 : Int32) = 13) = False := eq_false (by decide)
theorem u_2_14 : ((2 : Int32) = 14) = False := eq_false (by decide)
theorem u_2_15 : ((2 : Int32) = 15) = False := eq_false (by decide)
theorem u_2_16 : ((2 : Int32) = 16) = False := eq_false (by decide)
theorem u_2_17 : ((2 : Int32) = 17) = False := eq_false (by decide)
theorem u_2_18 : ((2 : Int32) = 18) = False := eq_false (by decide)
theorem u_w_2 : ¬ (¬ (2 : Int32) < 4 ∧ ¬ 10 < (2 : Int32)) := by decide
theorem u_3_6 : ((3 : Int32) = 6) = False := eq_false (by decide)
theorem u_3_7 : ((3 : Int32) = 7) = False := eq_false (by decide)
theorem u_3_8 : ((3 : Int32) = 8) = False := eq_false (by decide)
theorem u_3_9 : ((3 : Int32) = 9) = False := eq_false (by decide)
theorem u_3_10 : ((3 : Int32) = 10) = False := eq_false (by decide)
theorem u_3_11 : ((3 : Int32) = 11) = False := eq_false (by decide)
theorem u_3_12 : ((3 : Int32) = 12) = False := eq_false (by decide)
theorem u_3_13 : ((3 : Int32) = 13) = False := eq_false (by decide)
theorem u_3_14 : ((3 : Int32) = 14) = False := eq_false (by decide)
theorem u_3_15 : ((3 : Int32) = 15) = False := eq_false (by decide)
theorem u_3_16 : ((3 : Int32) = 16) = False := eq_false (by decide)
theorem u_3_17 : ((3 : Int32) = 17) = False := eq_false (by decide)
theorem u_3_18 : ((3 : Int32) = 18) = False := eq_false (by decide)
theorem u_w_3 : ¬ (¬ (3 : Int32) < 4 ∧ ¬ 10 < (3 : Int32)) := by decide
theorem u_4_6 : ((4 : Int32) = 6) = False := eq_false (by decide)
theorem u_4_7 : ((4 : Int32) = 7) = False := eq_false (by decide)
theorem u_4_8 : ((4 : Int32) = 8) = False := eq_false (by decide)
theorem u_4_9 : ((4 : Int32) = 9) = False := eq_false (by decide)
theorem u_4_10 : ((4 : Int32) = 10) = False := eq_false (by decide)
theorem u_4_11 : ((4 : Int32) = 11) = False := eq_false (by decide)
theorem u_4_12 : ((4 : Int32) = 12) = False := eq_false (by decide)
theorem u_4_13 : ((4 : Int32) = 13) = False := eq_false (by decide)
theorem u_4_14 : ((4 : Int32) = 14) = False := eq_false (by decide)
theorem u_4_15 : ((4 : Int32) = 15) = False := eq_false (by decide)
theorem u_4_16 : ((4 : Int32) = 16) = False := eq_false (by decide)
theorem u_4_17 : ((4 : Int32) = 17) = False := eq_false (by decide)
theorem u_4_18 : ((4 : Int32) = 18) = False := eq_false (by decide)
theorem u_w_4 : ¬ (4 : Int32) < 4 ∧ ¬ 10 < (4 : Int32) := by decide
theorem u_5_6 : ((5 : Int32) = 6) = False := eq_false (by decide)
theorem u_5_7 : ((5 : Int32) = 7) = False := eq_false (by decide)
theorem u_5_8 : ((5 : Int32) = 8) = False := eq_false (by decide)
theorem u_5_9 : ((5 : Int32) = 9) = False := eq_false (by decide)
theorem u_5_10 : ((5 : Int32) = 10) = False := eq_false (by decide)
theorem u_5_11 : ((5 : Int32) = 11) = False := eq_false (by decide)
theorem u_5_12 : ((5 : Int32) = 12) = False := eq_false (by decide)
theorem u_5_13 : ((5 : Int32) = 13) = False := eq_false (by decide)
theorem u_5_14 : ((5 : Int32) = 14) = False := eq_false (by decide)
theorem u_5_15 : ((5 : Int32) = 15) = False := eq_false (by decide)
theorem u_5_16 : ((5 : Int32) = 16) = False := eq_false (by decide)
theorem u_5_17 : ((5 : Int32) = 17) = False := eq_false (by decide)
theorem u_5_18 : ((5 : Int32) = 18) = False := eq_false (by decide)
theorem u_w_5 : ¬ (5 : Int32) < 4 ∧ ¬ 10 < (5 : Int32) := by decide
theorem u_6_0 : ((6 : Int32) = 0) = False := eq_false (by decide)
theorem u_6_1 : ((6 : Int32) = 1) = False := eq_false (by decide)
theorem u_6_2 : ((6 : Int32) = 2) = False := eq_false (by decide)
theorem u_6_3 : ((6 : Int32) = 3) = False := eq_false (by decide)
theorem u_6_4 : ((6 : Int32) = 4) = False := eq_false (by decide)
theorem u_6_5 : ((6 : Int32) = 5) = False := eq_false (by decide)
theorem u_6_7 : ((6 : Int32) = 7) = False := eq_false (by decide)
theorem u_6_8 : ((6 : Int32) = 8) = False := eq_false (by decide)
theorem u_6_9 : ((6 : Int32) = 9) = False := eq_false (by decide)
theorem u_6_10 : ((6 : Int32) = 10) = False := eq_false (by decide)
theorem u_6_11 : ((6 : Int32) = 11) = False := eq_false (by decide)
theorem u_6_12 : ((6 : Int32) = 12) = False := eq_false (by decide)
theorem u_6_13 : ((6 : Int32) = 13) = False := eq_false (by decide)
theorem u_6_14 : ((6 : Int32) = 14) = False := eq_false (by decide)
theorem u_6_15 : ((6 : Int32) = 15) = False := eq_false (by decide)
theorem u_6_16 : ((6 : Int32) = 16) = False := eq_false (by decide)
theorem u_6_17 : ((6 : Int32) = 17) = False := eq_false (by decide)
theorem u_6_18 : ((6 : Int32) = 18) = False := eq_false (by decide)
theorem u_w_6 : ¬ (6 : Int32) < 4 ∧ ¬ 10 < (6 : Int32) := by decide
theorem u_7_0 : ((7 : Int32) = 0) = False := eq_false (by decide)
theorem u_7_1 : ((7 : Int32) = 1) = False := eq_false (by decide)
theorem u_7_2 : ((7 : Int32) = 2) = False := eq_false (by decide)
theorem u_7_3 : ((7 : Int32) = 3) = False := eq_false (by decide)
theorem u_7_4 : ((7 : Int32) = 4) = False := eq_false (by decide)
theorem u_7_5 : ((7 : Int32) = 5) = False := eq_false (by decide)
theorem u_7_6 : ((7 : Int32) = 6) = False := eq_false (by decide)
theorem u_7_8 : ((7 : Int32) = 8) = False := eq_false (by decide)
theorem u_7_9 : ((7 : Int32) = 9) = False := eq_false (by decide)
theorem u_7_10 : ((7 : Int32) = 10) = False := eq_false (by decide)
theorem u_7_11 : ((7 : Int32) = 11) = False := eq_false (by decide)
theorem u_7_12 : ((7 : Int32) = 12) = False := eq_false (by decide)
theorem u_7_13 : ((7 : Int32) = 13) = False := eq_false (by decide)
theorem u_7_14 : ((7 : Int32) = 14) = False := eq_false (by decide)
theorem u_7_15 : ((7 : Int32) = 15) = False := eq_false (by decide)
theorem u_7_16 : ((7 : Int32) = 16) = False := eq_false (by decide)
theorem u_7_17 : ((7 : Int32) = 17) = False := eq_false (by decide)
theorem u_7_18 : ((7 : Int32) = 18) = False := eq_false (by decide)
theorem u_w_7 : ¬ (7 : Int32) < 4 ∧ ¬ 10 < (7 : Int32) := by decide
theorem u_8_0 : ((8 : Int32) = 0) = False := eq_false (by decide)
theorem u_8_1 : ((8 : Int32) = 1) = False := eq_false (by decide)
theorem u_8_2 : ((8 : Int32) = 2) = False := eq_false (by decide)
theorem u_8_3 : ((8 : Int32) = 3) = False := eq_false (by decide)
theorem u_8_4 : ((8 : Int32) = 4) = False := eq_false (by decide)
theorem u_8_5 : ((8 : Int32) = 5) = False := eq_false (by decide)
theorem u_8_6 : ((8 : Int32) = 6) = False := eq_false (by decide)
theorem u_8_7 : ((8 : Int32) = 7) = False := eq_false (by decide)
theorem u_8_9 : ((8 : Int32) = 9) = False := eq_false (by decide)
theorem u_8_10 : ((8 : Int32) = 10) = False := eq_false (by decide)
theorem u_8_11 : ((8 : Int32) = 11) = False := eq_false (by decide)
theorem u_8_12 : ((8 : Int32) = 12) = False := eq_false (by decide)
theorem u_8_13 : ((8 : Int32) = 13) = False := eq_false (by decide)
theorem u_8_14 : ((8 : Int32) = 14) = False := eq_false (by decide)
theorem u_8_15 : ((8 : Int32) = 15) = False := eq_false (by decide)
theorem u_8_16 : ((8 : Int32) = 16) = False := eq_false (by decide)
theorem u_8_17 : ((8 : Int32) = 17) = False := eq_false (by decide)
theorem u_8_18 : ((8 : Int32) = 18) = False := eq_false (by decide)
theorem u_w_8 : ¬ (8 : Int32) < 4 ∧ ¬ 10 < (8 : Int32) := by decide
theorem u_9_0 : ((9 : Int32) = 0) = False := eq_false (by decide)
theorem u_9_1 : ((9 : Int32) = 1) = False := eq_false (by decide)
theorem u_9_2 : ((9 : Int32) = 2) = False := eq_false (by decide)
theorem u_9_3 : ((9 : Int32) = 3) = False := eq_false (by decide)
theorem u_9_4 : ((9 : Int32) = 4) = False := eq_false (by decide)
theorem u_9_5 : ((9 : Int32) = 5) = False := eq_false (by decide)
theorem u_9_6 : ((9 : Int32) = 6) = False := eq_false (by decide)
theorem u_9_7 : ((9 : Int32) = 7) = False := eq_false (by decide)
theorem u_9_8 : ((9 : Int32) = 8) = False := eq_false (by decide)
theorem u_9_10 : ((9 : Int32) = 10) = False := eq_false (by decide)
theorem u_9_11 : ((9 : Int32) = 11) = False := eq_false (by decide)
theorem u_9_12 : ((9 : Int32) = 12) = False := eq_false (by decide)
theorem u_9_13 : ((9 : Int32) = 13) = False := eq_false (by decide)
theorem u_9_14 : ((9 : Int32) = 14) = False := eq_false (by decide)
theorem u_9_15 : ((9 : Int32) = 15) = False := eq_false (by decide)
theorem u_9_16 : ((9 : Int32) = 16) = False := eq_false (by decide)
theorem u_9_17 : ((9 : Int32) = 17) = False := eq_false (by decide)
theorem u_9_18 : ((9 : Int32) = 18) = False := eq_false (by decide)
theorem u_w_9 : ¬ (9 : Int32) < 4 ∧ ¬ 10 < (9 : Int32) := by decide
theorem u_10_0 : ((10 : Int32) = 0) = False := eq_false (by decide)
theorem u_10_1 : ((10 : Int32) = 1) = False := eq_false (by decide)
theorem u_10_2 : ((10 : Int32) = 2) = False := eq_false (by decide)
theorem u_10_3 : ((10 : Int32) = 3) = False := eq_false (by decide)
theorem u_10_4 : ((10 : Int32) = 4) = False := eq_false (by decide)
theorem u_10_5 : ((10 : Int32) = 5) = False := eq_false (by decide)
theorem u_10_6 : ((10 : Int32) = 6) = False := eq_false (by decide)
theorem u_10_7 : ((10 : Int32) = 7) = False := eq_false (by decide)
theorem u_10_8 : ((10 : Int32) = 8) = False := eq_false (by decide)
theorem u_10_9 : ((10 : Int32) = 9) = False := eq_false (by decide)
theorem u_10_11 : ((10 : Int32) = 11) = False := eq_false (by decide)
theorem u_10_12 : ((10 : Int32) = 12) = False := eq_false (by decide)
theorem u_10_13 : ((10 : Int32) = 13) = False := eq_false (by decide)
theorem u_10_14 : ((10 : Int32) = 14) = False := eq_false (by decide)
theorem u_10_15 : ((10 : Int32) = 15) = False := eq_false (by decide)
theorem u_10_16 : ((10 : Int32) = 16) = False := eq_false (by decide)
theorem u_10_17 : ((10 : Int32) = 17) = False := eq_false (by decide)
theorem u_10_18 : ((10 : Int32) = 18) = False := eq_false (by decide)
theorem u_w_10 : ¬ (10 : Int32) < 4 ∧ ¬ 10 < (10 : Int32) := by decide
theorem u_11_0 : ((11 : Int32) = 0) = False := eq_false (by decide)
theorem u_11_1 : ((11 : Int32) = 1) = False := eq_false (by decide)
theorem u_11_2 : ((11 : Int32) = 2) = False := eq_false (by decide)
theorem u_11_3 : ((11 : Int32) = 3) = False := eq_false (by decide)
theorem u_11_4 : ((11 : Int32) = 4) = False := eq_false (by decide)
theorem u_11_5 : ((11 : Int32) = 5) = False := eq_false (by decide)
theorem u_11_6 : ((11 : Int32) = 6) = False := eq_false (by decide)
theorem u_11_7 : ((11 : Int32) = 7) = False := eq_false (by decide)
theorem u_11_8 : ((11 : Int32) = 8) = False := eq_false (by decide)
theorem u_11_9 : ((11 : Int32) = 9) = False := eq_false (by decide)
theorem u_11_10 : ((11 : Int32) = 10) = False := eq_false (by decide)
theorem u_11_12 : ((11 : Int32) = 12) = False := eq_false (by decide)
theorem u_11_13 : ((11 : Int32) = 13) = False := eq_false (by decide)
theorem u_11_14 : ((11 : Int32) = 14) = False := eq_false (by decide)
theorem u_11_15 : ((11 : Int32) = 15) = False := eq_false (by decide)
theorem u_11_16 : ((11 : Int32) = 16) = False := eq_false (by decide)
theorem u_11_17 : ((11 : Int32) = 17) = False := eq_false (by decide)
theorem u_11_18 : ((11 : Int32) = 18) = False := eq_false (by decide)
theorem u_w_11 : ¬ (¬ (11 : Int32) < 4 ∧ ¬ 10 < (11 : Int32)) := by decide
theorem u_12_0 : ((12 : Int32) = 0) = False := eq_false (by decide)
theorem u_12_1 : ((12 : Int32) = 1) = False := eq_false (by decide)
theorem u_12_2 : ((12 : Int32) = 2) = False := eq_false (by decide)
theorem u_12_3 : ((12 : Int32) = 3) = False := eq_false (by decide)
theorem u_12_4 : ((12 : Int32) = 4) = False := eq_false (by decide)
theorem u_12_5 : ((12 : Int32) = 5) = False := eq_false (by decide)
theorem u_12_6 : ((12 : Int32) = 6) = False := eq_false (by decide)
theorem u_12_7 : ((12 : Int32) = 7) = False := eq_false (by decide)
theorem u_12_8 : ((12 : Int32) = 8) = False := eq_false (by decide)
theorem u_12_9 : ((12 : Int32) = 9) = False := eq_false (by decide)
theorem u_12_10 : ((12 : Int32) = 10) = False := eq_false (by decide)
theorem u_12_11 : ((12 : Int32) = 11) = False := eq_false (by decide)
theorem u_12_13 : ((12 : Int32) = 13) = False := eq_false (by decide)
theorem u_12_14 : ((12 : Int32) = 14) = False := eq_false (by decide)
theorem u_12_15 : ((12 : Int32) = 15) = False := eq_false (by decide)
theorem u_12_16 : ((12 : Int32) = 16) = False := eq_false (by decide)
theorem u_12_17 : ((12 : Int32) = 17) = False := eq_false (by decide)
theorem u_12_18 : ((12 : Int32) = 18) = False := eq_false (by decide)
theorem u_w_12 : ¬ (¬ (12 : Int32) < 4 ∧ ¬ 10 < (12 : Int32)) := by decide
theorem u_13_0 : ((13 : Int32) = 0) = False := eq_false (by decide)
theorem u_13_1 : ((13 : Int32) = 1) = False := eq_false (by decide)
theorem u_13_2 : ((13 : Int32) = 2) = False := eq_false (by decide)
theorem u_13_3 : ((13 : Int32) = 3) = False := eq_false (by decide)
theorem u_13_4 : ((13 : Int32) = 4) = False := eq_false (by decide)
theorem u_13_5 : ((13 : Int32) = 5) = False := eq_false (by decide)
theorem u_13_6 : ((13 : Int32) = 6) = False := eq_false (by decide)
theorem u_13_7 : ((13 : Int32) = 7) = False := eq_false (by decide)
theorem u_13_8 : ((13 : Int32) = 8) = False := eq_false (by decide)
theorem u_13_9 : ((13 : Int32) = 9) = False := eq_false (by decide)
theorem u_13_10 : ((13 : Int32) = 10) = False := eq_false (by decide)
theorem u_13_11 : ((13 : Int32) = 11) = False := eq_false (by decide)
theorem u_13_12 : ((13 : Int32) = 12) = False := eq_false (by decide)
theorem u_13_14 : ((13 : Int32) = 14) = False := eq_false (by decide)
theorem u_13_15 : ((13 : Int32) = 15) = False := eq_false (by decide)
theorem u_13_16 : ((13 : Int32) = 16) = False := eq_false (by decide)
theorem u_13_17 : ((13 : Int32) = 17) = False := eq_false (by decide)
theorem u_13_18 : ((13 : Int32) = 18) = False := eq_false (by decide)
theorem u_w_13 : ¬ (¬ (13 : Int32) < 4 ∧ ¬ 10 < (13 : Int32)) := by decide
theorem u_14_0 : ((14 : Int32) = 0) = False := eq_false (by decide)
theorem u_14_1 : ((14 : Int32) = 1) = False := eq_false (by decide)
theorem u_14_2 : ((14 : Int32) = 2) = False := eq_false (by decide)
theorem u_14_3 : ((14 : Int32) = 3) = False := eq_false (by decide)
theorem u_14_4 : ((14 : Int32) = 4) = False := eq_false (by decide)
theorem u_14_5 : ((14 : Int32) = 5) = False := eq_false (by decide)
theorem u_14_6 : ((14 : Int32) = 6) = False := eq_false (by decide)
theorem u_14_7 : ((14 : Int32) = 7) = False := eq_false (by decide)
theorem u_14_8 : ((14 : Int32) = 8) = False := eq_false (by decide)
theorem u_14_9 : ((14 : Int32) = 9) = False := eq_false (by decide)
theorem u_14_10 : ((14 : Int32) = 10) = False := eq_false (by decide)
theorem u_14_11 : ((14 : Int32) = 11) = False := eq_false (by decide)
theorem u_14_12 : ((14 : Int32) = 12) = False := eq_false (by decide)
theorem u_14_13 : ((14 : Int32) = 13) = False := eq_false (by decide)
theorem u_14_15 : ((14 : Int32) = 15) = False := eq_false (by decide)
theorem u_14_16 : ((14 : Int32) = 16) = False := eq_false (by decide)
theorem u_14_17 : ((14 : Int32) = 17) = False := eq_false (by decide)
theorem u_14_18 : ((14 : Int32) = 18) = False := eq_false (by decide)
theorem u_w_14 : ¬ (¬ (14 : Int32) < 4 ∧ ¬ 10 < (14 : Int32)) := by decide
theorem u_15_0 : ((15 : Int32) = 0) = False := eq_false (by decide)
theorem u_15_1 : ((15 : Int32) = 1) = False := eq_false (by decide)
theorem u_15_2 : ((15 : Int32) = 2) = False := eq_false (by decide)
theorem u_15_3 : ((15 : Int32) = 3) = False := eq_false (by decide)
theorem u_15_4 : ((15 : Int32) = 4) = False := eq_false (by decide)
theorem u_15_5 : ((15 : Int32) = 5) = False := eq_false (by decide)
theorem u_15_6 : ((15 : Int32) = 6) = False := eq_false (by decide)
theorem u_15_7 : ((15 : Int32) = 7) = False := eq_false (by decide)
theorem u_15_8 : ((15 : Int32) = 8) = False := eq_false (by decide)
theorem u_15_9 : ((15 : Int32) = 9) = False := eq_false (by decide)
theorem u_15_10 : ((15 : Int32) = 10) = False := eq_false (by decide)
theorem u_15_11 : ((15 : Int32) = 11) = False := eq_false (by decide)
theorem u_15_12 : ((15 : Int32) = 12) = False := eq_false (by decide)
theorem u_15_13 : ((15 : Int32) = 13) = False := eq_false (by decide)
theorem u_15_14 : ((15 : Int32) = 14) = False := eq_false (by decide)
theorem u_15_16 : ((15 : Int32) = 16) = False := eq_false (by decide)
theorem u_15_17 : ((15 : Int32) = 17) = False := eq_false (by decide)
theorem u_15_18 : ((15 : Int32) = 18) = False := eq_false (by decide)
theorem u_w_15 : ¬ (¬ (15 : Int32) < 4 ∧ ¬ 10 < (15 : Int32)) := by decide
theorem u_16_0 : ((16 : Int32) = 0) = False := eq_false (by decide)
theorem u_16_1 : ((16 : Int32) = 1) = False := eq_false (by decide)
theorem u_16_2 : ((16 : Int32) = 2) = False := eq_false (by decide)
theorem u_16_3 : ((16 : Int32) = 3) = False := eq_false (by decide)
theorem u_16_4 : ((16 : Int32) = 4) = False := eq_false (by decide)
theorem u_16_5 : ((16 : Int32) = 5) = False := eq_false (by decide)
theorem u_16_6 : ((16 : Int32) = 6) = False := eq_false (by decide)
theorem u_16_7 : ((16 : Int32) = 7) = False := eq_false (by decide)
theorem u_16_8 : ((16 : Int32) = 8) = False := eq_false (by decide)
theorem u_16_9 : ((16 : Int32) = 9) = False := eq_false (by decide)
theorem u_16_10 : ((16 : Int32) = 10) = False := eq_false (by decide)
theorem u_16_11 : ((16 : Int32) = 11) = False := eq_false (by decide)
theorem u_16_12 : ((16 : Int32) = 12) = False := eq_false (by decide)
theorem u_16_13 : ((16 : Int32) = 13) = False := eq_false (by decide)
theorem u_16_14 : ((16 : Int32) = 14) = False := eq_false (by decide)
theorem u_16_15 : ((16 : Int32) = 15) = False := eq_false (by decide)
theorem u_16_17 : ((16 : Int32) = 17) = False := eq_false (by decide)
theorem u_16_18 : ((16 : Int32) = 18) = False := eq_false (by decide)
theorem u_w_16 : ¬ (¬ (16 : Int32) < 4 ∧ ¬ 10 < (16 : Int32)) := by decide
theorem u_17_0 : ((17 : Int32) = 0) = False := eq_false (by decide)
theorem u_17_1 : ((17 : Int32) = 1) = False := eq_false (by decide)
theorem u_17_2 : ((17 : Int32) = 2) = False := eq_false (by decide)
theorem u_17_3 : ((17 : Int32) = 3) = False := eq_false (by decide)
theorem u_17_4 : ((17 : Int32) = 4) = False := eq_false (by decide)
theorem u_17_5 : ((17 : Int32) = 5) = False := eq_false (by decide)
theorem u_17_6 : ((17 : Int32) = 6) = False := eq_false (by decide)
theorem u_17_7 : ((17 : Int32) = 7) = False := eq_false (by decide)
theorem u_17_8 : ((17 : Int32) = 8) = False := eq_false (by decide)
theorem u_17_9 : ((17 : Int32) = 9) = False := eq_false (by decide)
theorem u_17_10 : ((17 : Int32) = 10) = False := eq_false (by decide)
theorem u_17_11 : ((17 : Int32) = 11) = False := eq_false (by decide)
theorem u_17_12 : ((17 : Int32) = 12) = False := eq_false (by decide)
theorem u_17_13 : ((17 : Int32) = 13) = False := eq_false (by decide)
theorem u_17_14 : ((17 : Int32) = 14) = False := eq_false (by decide)
theorem u_17_15 : ((17 : Int32) = 15) = False := eq_false (by decide)
theorem u_17_16 : ((17 : Int32) = 16) = False := eq_false (by decide)
theorem u_17_18 : ((17 : Int32) = 18) = False := eq_false (by decide)
theorem u_w_17 : ¬ (¬ (17 : Int32) < 4 ∧ ¬ 10 < (17 : Int32)) := by decide
theorem u_18_0 : ((18 : Int32) = 0) = False := eq_false (by decide)
theorem u_18_1 : ((18 : Int32) = 1) = False := eq_false (by decide)
theorem u_18_2 : ((18 : Int32) = 2) = False := eq_false (by decide)
theorem u_18_3 : ((18 : Int32) = 3) = False := eq_false (by decide)
theorem u_18_4 : ((18 : Int32) = 4) = False := eq_false (by decide)
theorem u_18_5 : ((18 : Int32) = 5) = False := eq_false (by decide)
theorem u_18_6 : ((18 : Int32) = 6) = False := eq_false (by decide)
theorem u_18_7 : ((18 : Int32) = 7) = False := eq_false (by decide)
theorem u_18_8 : ((18 : Int32) = 8) = False := eq_false (by decide)
theorem u_18_9 : ((18 : Int32) = 9) = False := eq_false (by decide)
theorem u_18_10 : ((18 : Int32) = 10) = False := eq_false (by decide)
theorem u_18_11 : ((18 : Int32) = 11) = False := eq_false (by decide)
theorem u_18_12 : ((18 : Int32) = 12) = False := eq_false (by decide)
theorem u_18_13 : ((18 : Int32) = 13) = False := eq_false (by decide)
theorem u_18_14 : ((18 : Int32) = 14) = False := eq_false (by decide)
theorem u_18_15 : ((18 : Int32) = 15) = False := eq_false (by decide)
theorem u_18_16 : ((18 : Int32) = 16) = False := eq_false (by decide)
theorem u_18_17 : ((18 : Int32) = 17) = False := eq_false (by decide)
theorem u_w_18 : ¬ (¬ (18 : Int32) < 4 ∧ ¬ 10 < (18 : Int32)) := by decide
theorem f_cnt_0 (h : CR B i σ) (hW : Wd σ.1) : FRs B i σ (am_fx am_P (d + 150) 344 0 [some (.ref 64), some (.int 0)] [] (am_wI B i)) (.inl (some (.int (σ.1 0)))) := by
  refine FRs_0 h ?_
  have hF : Fc B := h.1.1
  have hY : Yd B 94 := h.1.2.1
  obtain ⟨hb, hT, hP, hS, hG, hE, hM, hC, hX⟩ := h.2.1
  have hc := hW.1
  have e3 := hT.1
  have e5 := hP.1
  have e8 := hS.1
  have e12 := hG.1
  have e15 := hX.1
  rw [bk_344_0]
  simp (disch := omega) only [(fun d x0 x1 B i => bk_267_0 d x0 x1 (am_wI B i)), (fun d x0 B i => bk_267_108 d x0 (am_wI B i)), (fun d x0 B i => bk_267_113 d x0 (am_wI B i)), (fun d x0 B i => bk_267_118 d x0 (am_wI B i)), (fun d x0 B i => bk_267_123 d x0 (am_wI B i)), (fun d x0 B i => bk_267_174 d x0 (am_wI B i)), (fun d x0 B i => bk_267_128 d x0 (am_wI B i)), (fun d x0 B i => bk_267_133 d x0 (am_wI B i)), (fun d x0 B i => bk_267_138 d x0 (am_wI B i)), (fun d x0 B i => bk_267_146 d x0 (am_wI B i)), (fun d x0 B i => bk_267_151 d x0 (am_wI B i)), (fun d x0 B i => bk_267_156 d x0 (am_wI B i)), (fun d x0 B i => bk_267_164 d x0 (am_wI B i)), (fun d x0 B i => bk_267_169 d x0 (am_wI B i)), c_within0 u_w_0, hb.1, hb.2.2.2.1, hb.2.2.2.2.1, hb.2.2.2.2.2.2.2.1, e3, e5, e8, e12, e15, c_stand hY hT hc.2.1, c_countIn hY hP hc.2.2.1, c_onSlips hY hS hc.2.2.2.1, c_lines hY hX hc.2.2.2.2.2.2.2.2.2 hW.2.2.2.2.2.2.2.2.1 hb.1, hF, hY, eq_self, ↓reduceIte, y_ckd, y_ck2d, y_ond, y_onn, y_oI, y_oIx, y_oJ, y_oV, y_oVx, y_oR, y_oRn, y_oRx, y_b0, y_b1, y_bi, y_bid, y_wIK, y_wIL, y_wII, y_wIJ, y_wIR, y_wIN, y_wIw, y_sI, ↓reduceIte, Nat.reduceEqDiff, eq_self, true_or, or_true, false_or, or_false, and_true, true_and, false_and, and_false, not_true, not_false_eq_true, tf_T, tf_F, y_up1, y_up2, y_xx, y_nx, y_sJ, y_sR, Int32.reduceLT, y_nxK, y_nxL, y_nxR, y_sJK, y_sJL, y_sJR, y_sJN, y_sRK, y_sRL, y_sRN, z_nat, z_lit, z_lit0, z_lit1, z_in0, z_in1, z_addl0, z_lt, z_ltl, z_llt, z_inj, z_injl, z_add, z_addl, z_ladd, z_mul, z_mull, z_lmul, z_neg, z_negl, z_in, z_inl, z_ltT, z_ltF, z_eqF, z_10, z_01, z_litne, z_ne0, z_0ne, z_ne1, z_1ne, z_lt64, z_02, z_03, z_04, z_05, z_12, z_13, z_14, z_15, z_20, z_21, z_23, z_24, z_25, z_30, z_31, z_32, z_34, z_35, z_40, z_41, z_42, z_43, z_45, z_50, z_51, z_52, z_53, z_54]
theorem m_cnt_0 (h : MR B i σ) (hW : Wd σ.1) : MRs B i σ (am_fx am_P (d + 150) 142 0 [some (.ref 874), some (.int 0), none, none] [] (am_wI B i)) (some (.int (σ.1 0))) 0 := by
  refine MRs_0 h ?_
  have hM : Md B := h.1.1
  have hw : ∀ s, s < 12042 → am_up2 i 874 0 0 875 s = σ.1 s := fun s hs => by rw [y_up2 (by omega)]; exact h.2.1 s hs
  have hc := hW.1
  have hr := h.2.1
  rw [bk_142_0]
  simp (disch := omega) only [(fun d x0 x1 B i => bk_142_0 d x0 x1 (am_wI B i)), (fun d x0 x1 x2 B i => bk_142_100 d x0 x1 x2 (am_wI B i)), (fun d x0 x1 x2 B i => bk_142_105 d x0 x1 x2 (am_wI B i)), (fun d x0 x1 x2 B i => bk_142_113 d x0 x1 x2 (am_wI B i)), (fun d x0 x1 x2 B i => bk_142_146 d x0 x1 x2 (am_wI B i)), (fun d x0 x1 x2 B i => bk_142_155 d x0 x1 x2 (am_wI B i)), (fun d x0 x1 x2 B i => bk_142_163 d x0 x1 x2 (am_wI B i)), (fun d x0 x1 x2 B i => bk_142_172 d x0 x1 x2 (am_wI B i)), (fun d x0 x1 x2 B i => bk_142_178 d x0 x1 x2 (am_wI B i)), (fun d x0 x1 x2 B i => bk_142_187 d x0 x1 x2 (am_wI B i)), (fun d x0 x1 x2 B i => bk_142_196 d x0 x1 x2 (am_wI B i)), (fun d x0 x1 x2 B i => bk_142_203 d x0 x1 x2 (am_wI B i)), (fun d x0 x1 x2 B i => bk_142_212 d x0 x1 x2 (am_wI B i)), (fun d x0 x1 x2 B i => bk_142_225 d x0 x1 x2 (am_wI B i)), (fun d x0 x1 x2 B i => bk_142_232 d x0 x1 x2 (am_wI B i)), hr, hw, m_stand hM hw hc.2.1 hW.2.2.1, m_inPlace hM hw hc.2.2.1, m_inState hM hw hc.2.2.2.1, m_textOf hM hw hc.2.2.2.2.2.2.2.2.2, m_linesOf hM hw hc.2.2.2.2.2.2.2.2.2, (fun d x0 B i => bk_13_0 d x0 (am_wI B i)), hM, eq_self, ↓reduceIte, y_ckd, y_ck2d, y_ond, y_onn, y_oI, y_oIx, y_oJ, y_oV, y_oVx, y_oR, y_oRn, y_oRx, y_b0, y_b1, y_bi, y_bid, y_wIK, y_wIL, y_wII, y_wIJ, y_wIR, y_wIN, y_wIw, y_sI, ↓reduceIte, Nat.reduceEqDiff, eq_self, true_or, or_true, false_or, or_false, and_true, true_and, false_and, and_false, not_true, not_false_eq_true, tf_T, tf_F, y_up1, y_up2, y_xx, y_nx, y_sJ, y_sR, Int32.reduceLT, y_nxK, y_nxL, y_nxR, y_sJK, y_sJL, y_sJR, y_sJN, y_sRK, y_sRL, y_sRN, z_nat, z_lit, z_lit0, z_lit1, z_in0, z_in1, z_addl0, z_lt, z_ltl, z_llt, z_inj, z_injl, z_add, z_addl, z_ladd, z_mul, z_mull, z_lmul, z_neg, z_negl, z_in, z_inl, z_ltT, z_ltF, z_eqF, z_10, z_01, z_litne, z_ne0, z_0ne, z_ne1, z_1ne, z_lt64, z_02, z_03, z_04, z_05, z_12, z_13, z_14, z_15, z_20, z_21, z_23, z_24, z_25, z_30, z_31, z_32, z_34, z_35, z_40, z_41, z_42, z_43, z_45, z_50, z_51, z_52, z_53, z_54]
theorem f_cnt_1 (h : CR B i σ) (hW : Wd σ.1) : FRs B i σ (am_fx am_P (d + 150) 344 0 [some (.ref 64), some (.int 1)] [] (am_wI B i)) (.inl (some (.int (σ.1 39)))) := by
  refine FRs_0 h ?_
  have hF : Fc B := h.1.1
  have hY : Yd B 94 := h.1.2.1
  obtain ⟨hb, hT, hP, hS, hG, hE, hM, hC, hX⟩ := h.2.1
  have hc := hW.1
  have e3 := hT.1
  have e5 := hP.1
  have e8 := hS.1
  have e12 := hG.1
  have e15 := hX.1
  rw [bk_344_0]
  simp (disch := omega) only [(fun d x0 x1 B i => bk_267_0 d x0 x1 (am_wI B i)), (fun d x0 B i => bk_267_108 d x0 (am_wI B i)), (fun d x0 B i => bk_267_113 d x0 (am_wI B i)), (fun d x0 B i => bk_267_118 d x0 (am_wI B i)), (fun d x0 B i => bk_267_123 d x0 (am_wI B i)), (fun d x0 B i => bk_267_174 d x0 (am_wI B i)), (fun d x0 B i => bk_267_128 d x0 (am_wI B i)), (fun d x0 B i => bk_267_133 d x0 (am_wI B i)), (fun d x0 B i => bk_267_138 d x0 (am_wI B i)), (fun d x0 B i => bk_267_146 d x0 (am_wI B i)), (fun d x0 B i => bk_267_151 d x0 (am_wI B i)), (fun d x0 B i => bk_267_156 d x0 (am_wI B i)), (fun d x0 B i => bk_267_164 d x0 (am_wI B i)), (fun d x0 B i => bk_267_169 d x0 (am_wI B i)), c_within0 u_w_1, z_10, hb.1, hb.2.2.2.1, hb.2.2.2.2.1, hb.2.2.2.2.2.2.2.1, e3, e5, e8, e12, e15, c_stand hY hT hc.2.1, c_countIn hY hP hc.2.2.1, c_onSlips hY hS hc.2.2.2.1, c_lines hY hX hc.2.2.2.2.2.2.2.2.2 hW.2.2.2.2.2.2.2.2.1 hb.1, hF, hY, eq_self, ↓reduceIte, y_ckd, y_ck2d, y_ond, y_onn, y_oI, y_oIx, y_oJ, y_oV, y_oVx, y_oR, y_oRn, y_oRx, y_b0, y_b1, y_bi, y_bid, y_wIK, y_wIL, y_wII, y_wIJ, y_wIR, y_wIN, y_wIw, y_sI, ↓reduceIte, Nat.reduceEqDiff, eq_self, true_or, or_true, false_or, or_false, and_true, true_and, false_and, and_false, not_true, not_false_eq_true, tf_T, tf_F, y_up1, y_up2, y_xx, y_nx, y_sJ, y_sR, Int32.reduceLT, y_nxK, y_nxL, y_nxR, y_sJK, y_sJL, y_sJR, y_sJN, y_sRK, y_sRL, y_sRN, z_nat, z_lit, z_lit0, z_lit1, z_in0, z_in1, z_addl0, z_lt, z_ltl, z_llt, z_inj, z_injl, z_add, z_addl, z_ladd, z_mul, z_mull, z_lmul, z_neg, z_negl, z_in, z_inl, z_ltT, z_ltF, z_eqF, z_10, z_01, z_litne, z_ne0, z_0ne, z_ne1, z_1ne, z_lt64, z_02, z_03, z_04, z_05, z_12, z_13, z_14, z_15, z_20, z_21, z_23, z_24, z_25, z_30, z_31, z_32, z_34, z_35, z_40, z_41, z_42, z_43, z_45, z_50, z_51, z_52, z_53, z_54]
theorem m_cnt_1 (h : MR B i σ) (hW : Wd σ.1) : MRs B i σ (am_fx am_P (d + 150) 142 0 [some (.ref 874), some (.int 1), none, none] [] (am_wI B i)) (some (.int (σ.1 39))) 0 := by
  refine MRs_0 h ?_
  have hM : Md B := h.1.1
  have hw : ∀ s, s < 12042 → am_up2 i 874 0 0 875 s = σ.1 s := fun s hs => by rw [y_up2 (by omega)]; exact h.2.1 s hs
  have hc := hW.1
  have hr := h.2.1
  rw [bk_142_0]
  simp (disch := omega) only [(fun d x0 x1 B i => bk_142_0 d x0 x1 (am_wI B i)), (fun d x0 x1 x2 B i => bk_142_100 d x0 x1 x2 (am_wI B i)), (fun d x0 x1 x2 B i => bk_142_105 d x0 x1 x2 (am_wI B i)), (fun d x0 x1 x2 B i => bk_142_113 d x0 x1 x2 (am_wI B i)), (fun d x0 x1 x2 B i => bk_142_146 d x0 x1 x2 (am_wI B i)), (fun d x0 x1 x2 B i => bk_142_155 d x0 x1 x2 (am_wI B i)), (fun d x0 x1 x2 B i => bk_142_163 d x0 x1 x2 (am_wI B i)), (fun d x0 x1 x2 B i => bk_142_172 d x0 x1 x2 (am_wI B i)), (fun d x0 x1 x2 B i => bk_142_178 d x0 x1 x2 (am_wI B i)), (fun d x0 x1 x2 B i => bk_142_187 d x0 x1 x2 (am_wI B i)), (fun d x0 x1 x2 B i => bk_142_196 d x0 x1 x2 (am_wI B i)), (fun d x0 x1 x2 B i => bk_142_203 d x0 x1 x2 (am_wI B i)), (fun d x0 x1 x2 B i => bk_142_212 d x0 x1 x2 (am_wI B i)), (fun d x0 x1 x2 B i => bk_142_225 d x0 x1 x2 (am_wI B i)), (fun d x0 x1 x2 B i => bk_142_232 d x0 x1 x2 (am_wI B i)), z_10, hr, hw, m_stand hM hw hc.2.1 hW.2.2.1, m_inPlace hM hw hc.2.2.1, m_inState hM hw hc.2.2.2.1, m_textOf hM hw hc.2.2.2.2.2.2.2.2.2, m_linesOf hM hw hc.2.2.2.2.2.2.2.2.2, (fun d x0 B i => bk_13_0 d x0 (am_wI B i)), hM, eq_self, ↓reduceIte, y_ckd, y_ck2d, y_ond, y_onn, y_oI, y_oIx, y_oJ, y_oV, y_oVx, y_oR, y_oRn, y_oRx, y_b0, y_b1, y_bi, y_bid, y_wIK, y_wIL, y_wII, y_wIJ, y_wIR, y_wIN, y_wIw, y_sI, ↓reduceIte, Nat.reduceEqDiff, eq_self, true_or, or_true, false_or, or_false, and_true, true_and, false_and, and_false, not_true, not_false_eq_true, tf_T, tf_F, y_up1, y_up2, y_xx, y_nx, y_sJ, y_sR, Int32.reduceLT, y_nxK, y_nxL, y_nxR, y_sJK, y_sJL, y_sJR, y_sJN, y_sRK, y_sRL, y_sRN, z_nat, z_lit, z_lit0, z_lit1, z_in0, z_in1, z_addl0, z_lt, z_ltl, z_llt, z_inj, z_injl, z_add, z_addl, z_ladd, z_mul, z_mull, z_lmul, z_neg, z_negl, z_in, z_inl, z_ltT, z_ltF, z_eqF, z_10, z_01, z_litne, z_ne0, z_0ne, z_ne1, z_1ne, z_lt64, z_02, z_03, z_04, z_05, z_12, z_13, z_14, z_15, z_20, z_21, z_23, z_24, z_25, z_30, z_31, z_32, z_34, z_35, z_40, z_41, z_42, z_43, z_45, z_50, z_51, z_52, z_53, z_54]
theorem f_cnt_2 (h : CR B i σ) (hW : Wd σ.1) : FRs B i σ (am_fx am_P (d + 150) 344 0 [some (.ref 64), some (.int 2)] [] (am_wI B i)) (.inl (some (.int (ntr σ.1)))) := by
  refine FRs_0 h ?_
  have hF : Fc B := h.1.1
  have hY : Yd B 94 := h.1.2.1
  obtain ⟨hb, hT, hP, hS, hG, hE, hM, hC, hX⟩ := h.2.1
  have hc := hW.1
  have e3 := hT.1
  have e5 := hP.1
  have e8 := hS.1
  have e12 := hG.1
  have e15 := hX.1
  rw [bk_344_0]
  simp (disch := omega) only [(fun d x0 x1 B i => bk_267_0 d x0 x1 (am_wI B i)), (fun d x0 B i => bk_267_108 d x0 (am_wI B i)), (fun d x0 B i => bk_267_113 d x0 (am_wI B i)), (fun d x0 B i => bk_267_118 d x0 (am_wI B i)), (fun d x0 B i => bk_267_123 d x0 (am_wI B i)), (fun d x0 B i => bk_267_174 d x0 (am_wI B i)), (fun d x0 B i => bk_267_128 d x0 (am_wI B i)), (fun d x0 B i => bk_267_133 d x0 (am_wI B i)), (fun d x0 B i => bk_267_138 d x0 (am_wI B i)), (fun d x0 B i => bk_267_146 d x0 (am_wI B i)), (fun d x0 B i => bk_267_151 d x0 (am_wI B i)), (fun d x0 B i => bk_267_156 d x0 (am_wI B i)), (fun d x0 B i => bk_267_164 d x0 (am_wI B i)), (fun d x0 B i => bk_267_169 d x0 (am_wI B i)), c_within0 u_w_2, z_20, z_21, hb.1, hb.2.2.2.1, hb.2.2.2.2.1, hb.2.2.2.2.2.2.2.1, e3, e5, e8, e12, e15, c_stand hY hT hc.2.1, c_countIn hY hP hc.2.2.1, c_onSlips hY hS hc.2.2.2.1, c_lines hY hX hc.2.2.2.2.2.2.2.2.2 hW.2.2.2.2.2.2.2.2.1 hb.1, hF, hY, eq_self, ↓reduceIte, y_ckd, y_ck2d, y_ond, y_onn, y_oI, y_oIx, y_oJ, y_oV, y_oVx, y_oR, y_oRn, y_oRx, y_b0, y_b1, y_bi, y_bid, y_wIK, y_wIL, y_wII, y_wIJ, y_wIR, y_wIN, y_wIw, y_sI, ↓reduceIte, Nat.reduceEqDiff, eq_self, true_or, or_true, false_or, or_false, and_true, true_and, false_and, and_false, not_true, not_false_eq_true, tf_T, tf_F, y_up1, y_up2, y_xx, y_nx, y_sJ, y_sR, Int32.reduceLT, y_nxK, y_nxL, y_nxR, y_sJK, y_sJL, y_sJR, y_sJN, y_sRK, y_sRL, y_sRN, z_nat, z_lit, z_lit0, z_lit1, z_in0, z_in1, z_addl0, z_lt, z_ltl, z_llt, z_inj, z_injl, z_add, z_addl, z_ladd, z_mul, z_mull, z_lmul, z_neg, z_negl, z_in, z_inl, z_ltT, z_ltF, z_eqF, z_10, z_01, z_litne, z_ne0, z_0ne, z_ne1, z_1ne, z_lt64, z_02, z_03, z_04, z_05, z_12, z_13, z_14, z_15, z_20, z_21, z_23, z_24, z_25, z_30, z_31, z_32, z_34, z_35, z_40, z_41, z_42, z_43, z_45, z_50, z_51, z_52, z_53, z_54]
theorem m_cnt_2 (h : MR B i σ) (hW : Wd σ.1) : MRs B i σ (am_fx am_P (d + 150) 142 0 [some (.ref 874), some (.int 2), none, none] [] (am_wI B i)) (some (.int (ntr σ.1))) 0 := by
  refine MRs_0 h ?_
  have hM : Md B := h.1.1
  have hw : ∀ s, s < 12042 → am_up2 i 874 0 0 875 s = σ.1 s := fun s hs => by rw [y_up2 (by omega)]; exact h.2.1 s hs
  have hc := hW.1
  have hr := h.2.1
  rw [bk_142_0]
  simp (disch := omega) only [(fun d x0 x1 B i => bk_142_0 d x0 x1 (am_wI B i)), (fun d x0 x1 x2 B i => bk_142_100 d x0 x1 x2 (am_wI B i)), (fun d x0 x1 x2 B i => bk_142_105 d x0 x1 x2 (am_wI B i)), (fun d x0 x1 x2 B i => bk_142_113 d x0 x1 x2 (am_wI B i)), (fun d x0 x1 x2 B i => bk_142_146 d x0 x1 x2 (am_wI B i)), (fun d x0 x1 x2 B i => bk_142_155 d x0 x1 x2 (am_wI B i)), (fun d x0 x1 x2 B i => bk_142_163 d x0 x1 x2 (am_wI B i)), (fun d x0 x1 x2 B i => bk_142_172 d x0 x1 x2 (am_wI B i)), (fun d x0 x1 x2 B i => bk_142_178 d x0 x1 x2 (am_wI B i)), (fun d x0 x1 x2 B i => bk_142_187 d x0 x1 x2 (am_wI B i)), (fun d x0 x1 x2 B i => bk_142_196 d x0 x1 x2 (am_wI B i)), (fun d x0 x1 x2 B i => bk_142_203 d x0 x1 x2 (am_wI B i)), (fun d x0 x1 x2 B i => bk_142_212 d x0 x1 x2 (am_wI B i)), (fun d x0 x1 x2 B i => bk_142_225 d x0 x1 x2 (am_wI B i)), (fun d x0 x1 x2 B i => bk_142_232 d x0 x1 x2 (am_wI B i)), z_20, z_21, hr, hw, m_stand hM hw hc.2.1 hW.2.2.1, m_inPlace hM hw hc.2.2.1, m_inState hM hw hc.2.2.2.1, m_textOf hM hw hc.2.2.2.2.2.2.2.2.2, m_linesOf hM hw hc.2.2.2.2.2.2.2.2.2, (fun d x0 B i => bk_13_0 d x0 (am_wI B i)), hM, eq_self, ↓reduceIte, y_ckd, y_ck2d, y_ond, y_onn, y_oI, y_oIx, y_oJ, y_oV, y_oVx, y_oR, y_oRn, y_oRx, y_b0, y_b1, y_bi, y_bid, y_wIK, y_wIL, y_wII, y_wIJ, y_wIR, y_wIN, y_wIw, y_sI, ↓reduceIte, Nat.reduceEqDiff, eq_self, true_or, or_true, false_or, or_false, and_true, true_and, false_and, and_false, not_true, not_false_eq_true, tf_T, tf_F, y_up1, y_up2, y_xx, y_nx, y_sJ, y_sR, Int32.reduceLT, y_nxK, y_nxL, y_nxR, y_sJK, y_sJL, y_sJR, y_sJN, y_sRK, y_sRL, y_sRN, z_nat, z_lit, z_lit0, z_lit1, z_in0, z_in1, z_addl0, z_lt, z_ltl, z_llt, z_inj, z_injl, z_add, z_addl, z_ladd, z_mul, z_mull, z_lmul, z_neg, z_negl, z_in, z_inl, z_ltT, z_ltF, z_eqF, z_10, z_01, z_litne, z_ne0, z_0ne, z_ne1, z_1ne, z_lt64, z_02, z_03, z_04, z_05, z_12, z_13, z_14, z_15, z_20, z_21, z_23, z_24, z_25, z_30, z_31, z_32, z_34, z_35, z_40, z_41, z_42, z_43, z_45, z_50, z_51, z_52, z_53, z_54]
theorem f_cnt_3 (h : CR B i σ) (hW : Wd σ.1) : FRs B i σ (am_fx am_P (d + 150) 344 0 [some (.ref 64), some (.int 3)] [] (am_wI B i)) (.inl (some (.int (σ.1 460)))) := by
  refine FRs_0 h ?_
  have hF : Fc B := h.1.1
  have hY : Yd B 94 := h.1.2.1
  obtain ⟨hb, hT, hP, hS, hG, hE, hM, hC, hX⟩ := h.2.1
  have hc := hW.1
  have e3 := hT.1
  have e5 := hP.1
  have e8 := hS.1
  have e12 := hG.1
  have e15 := hX.1
  rw [bk_344_0]
  simp (disch := omega) only [(fun d x0 x1 B i => bk_267_0 d x0 x1 (am_wI B i)), (fun d x0 B i => bk_267_108 d x0 (am_wI B i)), (fun d x0 B i => bk_267_113 d x0 (am_wI B i)), (fun d x0 B i => bk_267_118 d x0 (am_wI B i)), (fun d x0 B i => bk_267_123 d x0 (am_wI B i)), (fun d x0 B i => bk_267_174 d x0 (am_wI B i)), (fun d x0 B i => bk_267_128 d x0 (am_wI B i)), (fun d x0 B i => bk_267_133 d x0 (am_wI B i)), (fun d x0 B i => bk_267_138 d x0 (am_wI B i)), (fun d x0 B i => bk_267_146 d x0 (am_wI B i)), (fun d x0 B i => bk_267_151 d x0 (am_wI B i)), (fun d x0 B i => bk_267_156 d x0 (am_wI B i)), (fun d x0 B i => bk_267_164 d x0 (am_wI B i)), (fun d x0 B i => bk_267_169 d x0 (am_wI B i)), c_within0 u_w_3, z_30, z_31, z_32, hb.1, hb.2.2.2.1, hb.2.2.2.2.1, hb.2.2.2.2.2.2.2.1, e3, e5, e8, e12, e15, c_stand hY hT hc.2.1, c_countIn hY hP hc.2.2.1, c_onSlips hY hS hc.2.2.2.1, c_lines hY hX hc.2.2.2.2.2.2.2.2.2 hW.2.2.2.2.2.2.2.2.1 hb.1, hF, hY, eq_self, ↓reduceIte, y_ckd, y_ck2d, y_ond, y_onn, y_oI, y_oIx, y_oJ, y_oV, y_oVx, y_oR, y_oRn, y_oRx, y_b0, y_b1, y_bi, y_bid, y_wIK, y_wIL, y_wII, y_wIJ, y_wIR, y_wIN, y_wIw, y_sI, ↓reduceIte, Nat.reduceEqDiff, eq_self, true_or, or_true, false_or, or_false, and_true, true_and, false_and, and_false, not_true, not_false_eq_true, tf_T, tf_F, y_up1, y_up2, y_xx, y_nx, y_sJ, y_sR, Int32.reduceLT, y_nxK, y_nxL, y_nxR, y_sJK, y_sJL, y_sJR, y_sJN, y_sRK, y_sRL, y_sRN, z_nat, z_lit, z_lit0, z_lit1, z_in0, z_in1, z_addl0, z_lt, z_ltl, z_llt, z_inj, z_injl, z_add, z_addl, z_ladd, z_mul, z_mull, z_lmul, z_neg, z_negl, z_in, z_inl, z_ltT, z_ltF, z_eqF, z_10, z_01, z_litne, z_ne0, z_0ne, z_ne1, z_1ne, z_lt64, z_02, z_03, z_04, z_05, z_12, z_13, z_14, z_15, z_20, z_21, z_23, z_24, z_25, z_30, z_31, z_32, z_34, z_35, z_40, z_41, z_42, z_43, z_45, z_50, z_51, z_52, z_53, z_54]
theorem m_cnt_3 (h : MR B i σ) (hW : Wd σ.1) : MRs B i σ (am_fx am_P (d + 150) 142 0 [some (.ref 874), some (.int 3), none, none] [] (am_wI B i)) (some (.int (σ.1 460))) 0 := by
  refine MRs_0 h ?_
  have hM : Md B := h.1.1
  have hw : ∀ s, s < 12042 → am_up2 i 874 0 0 875 s = σ.1 s := fun s hs => by rw [y_up2 (by omega)]; exact h.2.1 s hs
  have hc := hW.1
  have hr := h.2.1
  rw [bk_142_0]
  simp (disch := omega) only [(fun d x0 x1 B i => bk_142_0 d x0 x1 (am_wI B i)), (fun d x0 x1 x2 B i => bk_142_100 d x0 x1 x2 (am_wI B i)), (fun d x0 x1 x2 B i => bk_142_105 d x0 x1 x2 (am_wI B i)), (fun d x0 x1 x2 B i => bk_142_113 d x0 x1 x2 (am_wI B i)), (fun d x0 x1 x2 B i => bk_142_146 d x0 x1 x2 (am_wI B i)), (fun d x0 x1 x2 B i => bk_142_155 d x0 x1 x2 (am_wI B i)), (fun d x0 x1 x2 B i => bk_142_163 d x0 x1 x2 (am_wI B i)), (fun d x0 x1 x2 B i => bk_142_172 d x0 x1 x2 (am_wI B i)), (fun d x0 x1 x2 B i => bk_142_178 d x0 x1 x2 (am_wI B i)), (fun d x0 x1 x2 B i => bk_142_187 d x0 x1 x2 (am_wI B i)), (fun d x0 x1 x2 B i => bk_142_196 d x0 x1 x2 (am_wI B i)), (fun d x0 x1 x2 B i => bk_142_203 d x0 x1 x2 (am_wI B i)), (fun d x0 x1 x2 B i => bk_142_212 d x0 x1 x2 (am_wI B i)), (fun d x0 x1 x2 B i => bk_142_225 d x0 x1 x2 (am_wI B i)), (fun d x0 x1 x2 B i => bk_142_232 d x0 x1 x2 (am_wI B i)), z_30, z_31, z_32, hr, hw, m_stand hM hw hc.2.1 hW.2.2.1, m_inPlace hM hw hc.2.2.1, m_inState hM hw hc.2.2.2.1, m_textOf hM hw hc.2.2.2.2.2.2.2.2.2, m_linesOf hM hw hc.2.2.2.2.2.2.2.2.2, (fun d x0 B i => bk_13_0 d x0 (am_wI B i)), hM, eq_self, ↓reduceIte, y_ckd, y_ck2d, y_ond, y_onn, y_oI, y_oIx, y_oJ, y_oV, y_oVx, y_oR, y_oRn, y_oRx, y_b0, y_b1, y_bi, y_bid, y_wIK, y_wIL, y_wII, y_wIJ, y_wIR, y_wIN, y_wIw, y_sI, ↓reduceIte, Nat.reduceEqDiff, eq_self, true_or, or_true, false_or, or_false, and_true, true_and, false_and, and_false, not_true, not_false_eq_true, tf_T, tf_F, y_up1, y_up2, y_xx, y_nx, y_sJ, y_sR, Int32.reduceLT, y_nxK, y_nxL, y_nxR, y_sJK, y_sJL, y_sJR, y_sJN, y_sRK, y_sRL, y_sRN, z_nat, z_lit, z_lit0, z_lit1, z_in0, z_in1, z_addl0, z_lt, z_ltl, z_llt, z_inj, z_injl, z_add, z_addl, z_ladd, z_mul, z_mull, z_lmul, z_neg, z_negl, z_in, z_inl, z_ltT, z_ltF, z_eqF, z_10, z_01, z_litne, z_ne0, z_0ne, z_ne1, z_1ne, z_lt64, z_02, z_03, z_04, z_05, z_12, z_13, z_14, z_15, z_20, z_21, z_23, z_24, z_25, z_30, z_31, z_32, z_34, z_35, z_40, z_41, z_42, z_43, z_45, z_50, z_51, z_52, z_53, z_54]
theorem f_cnt_4 (h : CR B i σ) (hW : Wd σ.1) : FRs B i σ (am_fx am_P (d + 150) 344 0 [some (.ref 64), some (.int 4)] [] (am_wI B i)) (.inl (some (.int (npl σ.1 (4 - 4))))) := by
  refine FRs_0 h ?_
  have hF : Fc B := h.1.1
  have hY : Yd B 94 := h.1.2.1
  obtain ⟨hb, hT, hP, hS, hG, hE, hM, hC, hX⟩ := h.2.1
  have hc := hW.1
  have e3 := hT.1
  have e5 := hP.1
  have e8 := hS.1
  have e12 := hG.1
  have e15 := hX.1
  rw [bk_344_0]
  simp (disch := omega) only [(fun d x0 x1 B i => bk_267_0 d x0 x1 (am_wI B i)), (fun d x0 B i => bk_267_108 d x0 (am_wI B i)), (fun d x0 B i => bk_267_113 d x0 (am_wI B i)), (fun d x0 B i => bk_267_118 d x0 (am_wI B i)), (fun d x0 B i => bk_267_123 d x0 (am_wI B i)), (fun d x0 B i => bk_267_174 d x0 (am_wI B i)), (fun d x0 B i => bk_267_128 d x0 (am_wI B i)), (fun d x0 B i => bk_267_133 d x0 (am_wI B i)), (fun d x0 B i => bk_267_138 d x0 (am_wI B i)), (fun d x0 B i => bk_267_146 d x0 (am_wI B i)), (fun d x0 B i => bk_267_151 d x0 (am_wI B i)), (fun d x0 B i => bk_267_156 d x0 (am_wI B i)), (fun d x0 B i => bk_267_164 d x0 (am_wI B i)), (fun d x0 B i => bk_267_169 d x0 (am_wI B i)), c_within1 u_w_4, z_40, z_41, z_42, z_43, hb.1, hb.2.2.2.1, hb.2.2.2.2.1, hb.2.2.2.2.2.2.2.1, e3, e5, e8, e12, e15, c_stand hY hT hc.2.1, c_countIn hY hP hc.2.2.1, c_onSlips hY hS hc.2.2.2.1, c_lines hY hX hc.2.2.2.2.2.2.2.2.2 hW.2.2.2.2.2.2.2.2.1 hb.1, hF, hY, eq_self, ↓reduceIte, y_ckd, y_ck2d, y_ond, y_onn, y_oI, y_oIx, y_oJ, y_oV, y_oVx, y_oR, y_oRn, y_oRx, y_b0, y_b1, y_bi, y_bid, y_wIK, y_wIL, y_wII, y_wIJ, y_wIR, y_wIN, y_wIw, y_sI, ↓reduceIte, Nat.reduceEqDiff, eq_self, true_or, or_true, false_or, or_false, and_true, true_and, false_and, and_false, not_true, not_false_eq_true, tf_T, tf_F, y_up1, y_up2, y_xx, y_nx, y_sJ, y_sR, Int32.reduceLT, y_nxK, y_nxL, y_nxR, y_sJK, y_sJL, y_sJR, y_sJN, y_sRK, y_sRL, y_sRN, z_nat, z_lit, z_lit0, z_lit1, z_in0, z_in1, z_addl0, z_lt, z_ltl, z_llt, z_inj, z_injl, z_add, z_addl, z_ladd, z_mul, z_mull, z_lmul, z_neg, z_negl, z_in, z_inl, z_ltT, z_ltF, z_eqF, z_10, z_01, z_litne, z_ne0, z_0ne, z_ne1, z_1ne, z_lt64, z_02, z_03, z_04, z_05, z_12, z_13, z_14, z_15, z_20, z_21, z_23, z_24, z_25, z_30, z_31, z_32, z_34, z_35, z_40, z_41, z_42, z_43, z_45, z_50, z_51, z_52, z_53, z_54]
theorem m_cnt_4 (h : MR B i σ) (hW : Wd σ.1) : MRs B i σ (am_fx am_P (d + 150) 142 0 [some (.ref 874), some (.int 4), none, none] [] (am_wI B i)) (some (.int (npl σ.1 (4 - 4)))) 0 := by
  refine MRs_0 h ?_
  have hM : Md B := h.1.1
  have hw : ∀ s, s < 12042 → am_up2 i 874 0 0 875 s = σ.1 s := fun s hs => by rw [y_up2 (by omega)]; exact h.2.1 s hs
  have hc := hW.1
  have hr := h.2.1
  rw [bk_142_0]
  simp (disch := omega) only [(fun d x0 x1 B i => bk_142_0 d x0 x1 (am_wI B i)), (fun d x0 x1 x2 B i => bk_142_100 d x0 x1 x2 (am_wI B i)), (fun d x0 x1 x2 B i => bk_142_105 d x0 x1 x2 (am_wI B i)), (fun d x0 x1 x2 B i => bk_142_113 d x0 x1 x2 (am_wI B i)), (fun d x0 x1 x2 B i => bk_142_146 d x0 x1 x2 (am_wI B i)), (fun d x0 x1 x2 B i => bk_142_155 d x0 x1 x2 (am_wI B i)), (fun d x0 x1 x2 B i => bk_142_163 d x0 x1 x2 (am_wI B i)), (fun d x0 x1 x2 B i => bk_142_172 d x0 x1 x2 (am_wI B i)), (fun d x0 x1 x2 B i => bk_142_178 d x0 x1 x2 (am_wI B i)), (fun d x0 x1 x2 B i => bk_142_187 d x0 x1 x2 (am_wI B i)), (fun d x0 x1 x2 B i => bk_142_196 d x0 x1 x2 (am_wI B i)), (fun d x0 x1 x2 B i => bk_142_203 d x0 x1 x2 (am_wI B i)), (fun d x0 x1 x2 B i => bk_142_212 d x0 x1 x2 (am_wI B i)), (fun d x0 x1 x2 B i => bk_142_225 d x0 x1 x2 (am_wI B i)), (fun d x0 x1 x2 B i => bk_142_232 d x0 x1 x2 (am_wI B i)), z_40, z_41, z_42, z_43, hr, hw, m_stand hM hw hc.2.1 hW.2.2.1, m_inPlace hM hw hc.2.2.1, m_inState hM hw hc.2.2.2.1, m_textOf hM hw hc.2.2.2.2.2.2.2.2.2, m_linesOf hM hw hc.2.2.2.2.2.2.2.2.2, (fun d x0 B i => bk_13_0 d x0 (am_wI B i)), hM, eq_self, ↓reduceIte, y_ckd, y_ck2d, y_ond, y_onn, y_oI, y_oIx, y_oJ, y_oV, y_oVx, y_oR, y_oRn, y_oRx, y_b0, y_b1, y_bi, y_bid, y_wIK, y_wIL, y_wII, y_wIJ, y_wIR, y_wIN, y_wIw, y_sI, ↓reduceIte, Nat.reduceEqDiff, eq_self, true_or, or_true, false_or, or_false, and_true, true_and, false_and, and_false, not_true, not_false_eq_true, tf_T, tf_F, y_up1, y_up2, y_xx, y_nx, y_sJ, y_sR, Int32.reduceLT, y_nxK, y_nxL, y_nxR, y_sJK, y_sJL, y_sJR, y_sJN, y_sRK, y_sRL, y_sRN, z_nat, z_lit, z_lit0, z_lit1, z_in0, z_in1, z_addl0, z_lt, z_ltl, z_llt, z_inj, z_injl, z_add, z_addl, z_ladd, z_mul, z_mull, z_lmul, z_neg, z_negl, z_in, z_inl, z_ltT, z_ltF, z_eqF, z_10, z_01, z_litne, z_ne0, z_0ne, z_ne1, z_1ne, z_lt64, z_02, z_03, z_04, z_05, z_12, z_13, z_14, z_15, z_20, z_21, z_23, z_24, z_25, z_30, z_31, z_32, z_34, z_35, z_40, z_41, z_42, z_43, z_45, z_50, z_51, z_52, z_53, z_54]
theorem f_cnt_5 (h : CR B i σ) (hW : Wd σ.1) : FRs B i σ (am_fx am_P (d + 150) 344 0 [some (.ref 64), some (.int 5)] [] (am_wI B i)) (.inl (some (.int (npl σ.1 (5 - 4))))) := by
  refine FRs_0 h ?_
  have hF : Fc B := h.1.1
  have hY : Yd B 94 := h.1.2.1
  obtain ⟨hb, hT, hP, hS, hG, hE, hM, hC, hX⟩ := h.2.1
  have hc := hW.1
  have e3 := hT.1
  have e5 := hP.1
  have e8 := hS.1
  have e12 := hG.1
  have e15 := hX.1
  rw [bk_344_0]
  simp (disch := omega) only [(fun d x0 x1 B i => bk_267_0 d x0 x1 (am_wI B i)), (fun d x0 B i => bk_267_108 d x0 (am_wI B i)), (fun d x0 B i => bk_267_113 d x0 (am_wI B i)), (fun d x0 B i => bk_267_118 d x0 (am_wI B i)), (fun d x0 B i => bk_267_123 d x0 (am_wI B i)), (fun d x0 B i => bk_267_174 d x0 (am_wI B i)), (fun d x0 B i => bk_267_128 d x0 (am_wI B i)), (fun d x0 B i => bk_267_133 d x0 (am_wI B i)), (fun d x0 B i => bk_267_138 d x0 (am_wI B i)), (fun d x0 B i => bk_267_146 d x0 (am_wI B i)), (fun d x0 B i => bk_267_151 d x0 (am_wI B i)), (fun d x0 B i => bk_267_156 d x0 (am_wI B i)), (fun d x0 B i => bk_267_164 d x0 (am_wI B i)), (fun d x0 B i => bk_267_169 d x0 (am_wI B i)), c_within1 u_w_5, z_50, z_51, z_52, z_53, z_54, hb.1, hb.2.2.2.1, hb.2.2.2.2.1, hb.2.2.2.2.2.2.2.1, e3, e5, e8, e12, e15, c_stand hY hT hc.2.1, c_countIn hY hP hc.2.2.1, c_onSlips hY hS hc.2.2.2.1, c_lines hY hX hc.2.2.2.2.2.2.2.2.2 hW.2.2.2.2.2.2.2.2.1 hb.1, hF, hY, eq_self, ↓reduceIte, y_ckd, y_ck2d, y_ond, y_onn, y_oI, y_oIx, y_oJ, y_oV, y_oVx, y_oR, y_oRn, y_oRx, y_b0, y_b1, y_bi, y_bid, y_wIK, y_wIL, y_wII, y_wIJ, y_wIR, y_wIN, y_wIw, y_sI, ↓reduceIte, Nat.reduceEqDiff, eq_self, true_or, or_true, false_or, or_false, and_true, true_and, false_and, and_false, not_true, not_false_eq_true, tf_T, tf_F, y_up1, y_up2, y_xx, y_nx, y_sJ, y_sR, Int32.reduceLT, y_nxK, y_nxL, y_nxR, y_sJK, y_sJL, y_sJR, y_sJN, y_sRK, y_sRL, y_sRN, z_nat, z_lit, z_lit0, z_lit1, z_in0, z_in1, z_addl0, z_lt, z_ltl, z_llt, z_inj, z_injl, z_add, z_addl, z_ladd, z_mul, z_mull, z_lmul, z_neg, z_negl, z_in, z_inl, z_ltT, z_ltF, z_eqF, z_10, z_01, z_litne, z_ne0, z_0ne, z_ne1, z_1ne, z_lt64, z_02, z_03, z_04, z_05, z_12, z_13, z_14, z_15, z_20, z_21, z_23, z_24, z_25, z_30, z_31, z_32, z_34, z_35, z_40, z_41, z_42, z_43, z_45, z_50, z_51, z_52, z_53, z_54]
theorem m_cnt_5 (h : MR B i σ) (hW : Wd σ.1) : MRs B i σ (am_fx am_P (d + 150) 142 0 [some (.ref 874), some (.int 5), none, none] [] (am_wI B i)) (some (.int (npl σ.1 (5 - 4)))) 0 := by
  refine MRs_0 h ?_
  have hM : Md B := h.1.1
  have hw : ∀ s, s < 12042 → am_up2 i 874 0 0 875 s = σ.1 s := fun s hs => by rw [y_up2 (by omega)]; exact h.2.1 s hs
  have hc := hW.1
  have hr := h.2.1
  rw [bk_142_0]
  simp (disch := omega) only [(fun d x0 x1 B i => bk_142_0 d x0 x1 (am_wI B i)), (fun d x0 x1 x2 B i => bk_142_100 d x0 x1 x2 (am_wI B i)), (fun d x0 x1 x2 B i => bk_142_105 d x0 x1 x2 (am_wI B i)), (fun d x0 x1 x2 B i => bk_142_113 d x0 x1 x2 (am_wI B i)), (fun d x0 x1 x2 B i => bk_142_146 d x0 x1 x2 (am_wI B i)), (fun d x0 x1 x2 B i => bk_142_155 d x0 x1 x2 (am_wI B i)), (fun d x0 x1 x2 B i => bk_142_163 d x0 x1 x2 (am_wI B i)), (fun d x0 x1 x2 B i => bk_142_172 d x0 x1 x2 (am_wI B i)), (fun d x0 x1 x2 B i => bk_142_178 d x0 x1 x2 (am_wI B i)), (fun d x0 x1 x2 B i => bk_142_187 d x0 x1 x2 (am_wI B i)), (fun d x0 x1 x2 B i => bk_142_196 d x0 x1 x2 (am_wI B i)), (fun d x0 x1 x2 B i => bk_142_203 d x0 x1 x2 (am_wI B i)), (fun d x0 x1 x2 B i => bk_142_212 d x0 x1 x2 (am_wI B i)), (fun d x0 x1 x2 B i => bk_142_225 d x0 x1 x2 (am_wI B i)), (fun d x0 x1 x2 B i => bk_142_232 d x0 x1 x2 (am_wI B i)), z_50, z_51, z_52, z_53, z_54, hr, hw, m_stand hM hw hc.2.1 hW.2.2.1, m_inPlace hM hw hc.2.2.1, m_inState hM hw hc.2.2.2.1, m_textOf hM hw hc.2.2.2.2.2.2.2.2.2, m_linesOf hM hw hc.2.2.2.2.2.2.2.2.2, (fun d x0 B i => bk_13_0 d x0 (am_wI B i)), hM, eq_self, ↓reduceIte, y_ckd, y_ck2d, y_ond, y_onn, y_oI, y_oIx, y_oJ, y_oV, y_oVx, y_oR, y_oRn, y_oRx, y_b0, y_b1, y_bi, y_bid, y_wIK, y_wIL, y_wII, y_wIJ, y_wIR, y_wIN, y_wIw, y_sI, ↓reduceIte, Nat.reduceEqDiff, eq_self, true_or, or_true, false_or, or_false, and_true, true_and, false_and, and_false, not_true, not_false_eq_true, tf_T, tf_F, y_up1, y_up2, y_xx, y_nx, y_sJ, y_sR, Int32.reduceLT, y_nxK, y_nxL, y_nxR, y_sJK, y_sJL, y_sJR, y_sJN, y_sRK, y_sRL, y_sRN, z_nat, z_lit, z_lit0, z_lit1, z_in0, z_in1, z_addl0, z_lt, z_ltl, z_llt, z_inj, z_injl, z_add, z_addl, z_ladd, z_mul, z_mull, z_lmul, z_neg, z_negl, z_in, z_inl, z_ltT, z_ltF, z_eqF, z_10, z_01, z_litne, z_ne0, z_0ne, z_ne1, z_1ne, z_lt64, z_02, z_03, z_04, z_05, z_12, z_13, z_14, z_15, z_20, z_21, z_23, z_24, z_25, z_30, z_31, z_32, z_34, z_35, z_40, z_41, z_42, z_43, z_45, z_50, z_51, z_52, z_53, z_54]
theorem f_cnt_6 (h : CR B i σ) (hW : Wd σ.1) : FRs B i σ (am_fx am_P (d + 150) 344 0 [some (.ref 64), some (.int 6)] [] (am_wI B i)) (.inl (some (.int (npl σ.1 (6 - 4))))) := by
  refine FRs_0 h ?_
  have hF : Fc B := h.1.1
  have hY : Yd B 94 := h.1.2.1
  obtain ⟨hb, hT, hP, hS, hG, hE, hM, hC, hX⟩ := h.2.1
  have hc := hW.1
  have e3 := hT.1
  have e5 := hP.1
  have e8 := hS.1
  have e12 := hG.1
  have e15 := hX.1
  rw [bk_344_0]
  simp (disch := omega) only [(fun d x0 x1 B i => bk_267_0 d x0 x1 (am_wI B i)), (fun d x0 B i => bk_267_108 d x0 (am_wI B i)), (fun d x0 B i => bk_267_113 d x0 (am_wI B i)), (fun d x0 B i => bk_267_118 d x0 (am_wI B i)), (fun d x0 B i => bk_267_123 d x0 (am_wI B i)), (fun d x0 B i => bk_267_174 d x0 (am_wI B i)), (fun d x0 B i => bk_267_128 d x0 (am_wI B i)), (fun d x0 B i => bk_267_133 d x0 (am_wI B i)), (fun d x0 B i => bk_267_138 d x0 (am_wI B i)), (fun d x0 B i => bk_267_146 d x0 (am_wI B i)), (fun d x0 B i => bk_267_151 d x0 (am_wI B i)), (fun d x0 B i => bk_267_156 d x0 (am_wI B i)), (fun d x0 B i => bk_267_164 d x0 (am_wI B i)), (fun d x0 B i => bk_267_169 d x0 (am_wI B i)), c_within1 u_w_6, u_6_0, u_6_1, u_6_2, u_6_3, u_6_4, u_6_5, hb.1, hb.2.2.2.1, hb.2.2.2.2.1, hb.2.2.2.2.2.2.2.1, e3, e5, e8, e12, e15, c_stand hY hT hc.2.1, c_countIn hY hP hc.2.2.1, c_onSlips hY hS hc.2.2.2.1, c_lines hY hX hc.2.2.2.2.2.2.2.2.2 hW.2.2.2.2.2.2.2.2.1 hb.1, hF, hY, eq_self, ↓reduceIte, y_ckd, y_ck2d, y_ond, y_onn, y_oI, y_oIx, y_oJ, y_oV, y_oVx, y_oR, y_oRn, y_oRx, y_b0, y_b1, y_bi, y_bid, y_wIK, y_wIL, y_wII, y_wIJ, y_wIR, y_wIN, y_wIw, y_sI, ↓reduceIte, Nat.reduceEqDiff, eq_self, true_or, or_true, false_or, or_false, and_true, true_and, false_and, and_false, not_true, not_false_eq_true, tf_T, tf_F, y_up1, y_up2, y_xx, y_nx, y_sJ, y_sR, Int32.reduceLT, y_nxK, y_nxL, y_nxR, y_sJK, y_sJL, y_sJR, y_sJN, y_sRK, y_sRL, y_sRN, z_nat, z_lit, z_lit0, z_lit1, z_in0, z_in1, z_addl0, z_lt, z_ltl, z_llt, z_inj, z_injl, z_add, z_addl, z_ladd, z_mul, z_mull, z_lmul, z_neg, z_negl, z_in, z_inl, z_ltT, z_ltF, z_eqF, z_10, z_01, z_litne, z_ne0, z_0ne, z_ne1, z_1ne, z_lt64, z_02, z_03, z_04, z_05, z_12, z_13, z_14, z_15, z_20, z_21, z_23, z_24, z_25, z_30, z_31, z_32, z_34, z_35, z_40, z_41, z_42, z_43, z_45, z_50, z_51, z_52, z_53, z_54]
theorem m_cnt_6 (h : MR B i σ) (hW : Wd σ.1) : MRs B i σ (am_fx am_P (d + 150) 142 0 [some (.ref 874), some (.int 6), none, none] [] (am_wI B i)) (some (.int (npl σ.1 (6 - 4)))) 0 := by
  refine MRs_0 h ?_
  have hM : Md B := h.1.1
  have hw : ∀ s, s < 12042 → am_up2 i 874 0 0 875 s = σ.1 s := fun s hs => by rw [y_up2 (by omega)]; exact h.2.1 s hs
  have hc := hW.1
  have hr := h.2.1
  rw [bk_142_0]
  simp (disch := omega) only [(fun d x0 x1 B i => bk_142_0 d x0 x1 (am_wI B i)), (fun d x0 x1 x2 B i => bk_142_100 d x0 x1 x2 (am_wI B i)), (fun d x0 x1 x2 B i => bk_142_105 d x0 x1 x2 (am_wI B i)), (fun d x0 x1 x2 B i => bk_142_113 d x0 x1 x2 (am_wI B i)), (fun d x0 x1 x2 B i => bk_142_146 d x0 x1 x2 (am_wI B i)), (fun d x0 x1 x2 B i => bk_142_155 d x0 x1 x2 (am_wI B i)), (fun d x0 x1 x2 B i => bk_142_163 d x0 x1 x2 (am_wI B i)), (fun d x0 x1 x2 B i => bk_142_172 d x0 x1 x2 (am_wI B i)), (fun d x0 x1 x2 B i => bk_142_178 d x0 x1 x2 (am_wI B i)), (fun d x0 x1 x2 B i => bk_142_187 d x0 x1 x2 (am_wI B i)), (fun d x0 x1 x2 B i => bk_142_196 d x0 x1 x2 (am_wI B i)), (fun d x0 x1 x2 B i => bk_142_203 d x0 x1 x2 (am_wI B i)), (fun d x0 x1 x2 B i => bk_142_212 d x0 x1 x2 (am_wI B i)), (fun d x0 x1 x2 B i => bk_142_225 d x0 x1 x2 (am_wI B i)), (fun d x0 x1 x2 B i => bk_142_232 d x0 x1 x2 (am_wI B i)), u_6_0, u_6_1, u_6_2, u_6_3, u_6_4, u_6_5, hr, hw, m_stand hM hw hc.2.1 hW.2.2.1, m_inPlace hM hw hc.2.2.1, m_inState hM hw hc.2.2.2.1, m_textOf hM hw hc.2.2.2.2.2.2.2.2.2, m_linesOf hM hw hc.2.2.2.2.2.2.2.2.2, (fun d x0 B i => bk_13_0 d x0 (am_wI B i)), hM, eq_self, ↓reduceIte, y_ckd, y_ck2d, y_ond, y_onn, y_oI, y_oIx, y_oJ, y_oV, y_oVx, y_oR, y_oRn, y_oRx, y_b0, y_b1, y_bi, y_bid, y_wIK, y_wIL, y_wII, y_wIJ, y_wIR, y_wIN, y_wIw, y_sI, ↓reduceIte, Nat.reduceEqDiff, eq_self, true_or, or_true, false_or, or_false, and_true, true_and, false_and, and_false, not_true, not_false_eq_true, tf_T, tf_F, y_up1, y_up2, y_xx, y_nx, y_sJ, y_sR, Int32.reduceLT, y_nxK, y_nxL, y_nxR, y_sJK, y_sJL, y_sJR, y_sJN, y_sRK, y_sRL, y_sRN, z_nat, z_lit, z_lit0, z_lit1, z_in0, z_in1, z_addl0, z_lt, z_ltl, z_llt, z_inj, z_injl, z_add, z_addl, z_ladd, z_mul, z_mull, z_lmul, z_neg, z_negl, z_in, z_inl, z_ltT, z_ltF, z_eqF, z_10, z_01, z_litne, z_ne0, z_0ne, z_ne1, z_1ne, z_lt64, z_02, z_03, z_04, z_05, z_12, z_13, z_14, z_15, z_20, z_21, z_23, z_24, z_25, z_30, z_31, z_32, z_34, z_35, z_40, z_41, z_42, z_43, z_45, z_50, z_51, z_52, z_53, z_54]
theorem f_cnt_7 (h : CR B i σ) (hW : Wd σ.1) : FRs B i σ (am_fx am_P (d + 150) 344 0 [some (.ref 64), some (.int 7)] [] (am_wI B i)) (.inl (some (.int (npl σ.1 (7 - 4))))) := by
  refine FRs_0 h ?_
  have hF : Fc B := h.1.1
  have hY : Yd B 94 := h.1.2.1
  obtain ⟨hb, hT, hP, hS, hG, hE, hM, hC, hX⟩ := h.2.1
  have hc := hW.1
  have e3 := hT.1
  have e5 := hP.1
  have e8 := hS.1
  have e12 := hG.1
  have e15 := hX.1
  rw [bk_344_0]
  simp (disch := omega) only [(fun d x0 x1 B i => bk_267_0 d x0 x1 (am_wI B i)), (fun d x0 B i => bk_267_108 d x0 (am_wI B i)), (fun d x0 B i => bk_267_113 d x0 (am_wI B i)), (fun d x0 B i => bk_267_118 d x0 (am_wI B i)), (fun d x0 B i => bk_267_123 d x0 (am_wI B i)), (fun d x0 B i => bk_267_174 d x0 (am_wI B i)), (fun d x0 B i => bk_267_128 d x0 (am_wI B i)), (fun d x0 B i => bk_267_133 d x0 (am_wI B i)), (fun d x0 B i => bk_267_138 d x0 (am_wI B i)), (fun d x0 B i => bk_267_146 d x0 (am_wI B i)), (fun d x0 B i => bk_267_151 d x0 (am_wI B i)), (fun d x0 B i => bk_267_156 d x0 (am_wI B i)), (fun d x0 B i => bk_267_164 d x0 (am_wI B i)), (fun d x0 B i => bk_267_169 d x0 (am_wI B i)), c_within1 u_w_7, u_7_0, u_7_1, u_7_2, u_7_3, u_7_4, u_7_5, u_7_6, hb.1, hb.2.2.2.1, hb.2.2.2.2.1, hb.2.2.2.2.2.2.2.1, e3, e5, e8, e12, e15, c_stand hY hT hc.2.1, c_countIn hY hP hc.2.2.1, c_onSlips hY hS hc.2.2.2.1, c_lines hY hX hc.2.2.2.2.2.2.2.2.2 hW.2.2.2.2.2.2.2.2.1 hb.1, hF, hY, eq_self, ↓reduceIte, y_ckd, y_ck2d, y_ond, y_onn, y_oI, y_oIx, y_oJ, y_oV, y_oVx, y_oR, y_oRn, y_oRx, y_b0, y_b1, y_bi, y_bid, y_wIK, y_wIL, y_wII, y_wIJ, y_wIR, y_wIN, y_wIw, y_sI, ↓reduceIte, Nat.reduceEqDiff, eq_self, true_or, or_true, false_or, or_false, and_true, true_and, false_and, and_false, not_true, not_false_eq_true, tf_T, tf_F, y_up1, y_up2, y_xx, y_nx, y_sJ, y_sR, Int32.reduceLT, y_nxK, y_nxL, y_nxR, y_sJK, y_sJL, y_sJR, y_sJN, y_sRK, y_sRL, y_sRN, z_nat, z_lit, z_lit0, z_lit1, z_in0, z_in1, z_addl0, z_lt, z_ltl, z_llt, z_inj, z_injl, z_add, z_addl, z_ladd, z_mul, z_mull, z_lmul, z_neg, z_negl, z_in, z_inl, z_ltT, z_ltF, z_eqF, z_10, z_01, z_litne, z_ne0, z_0ne, z_ne1, z_1ne, z_lt64, z_02, z_03, z_04, z_05, z_12, z_13, z_14, z_15, z_20, z_21, z_23, z_24, z_25, z_30, z_31, z_32, z_34, z_35, z_40, z_41, z_42, z_43, z_45, z_50, z_51, z_52, z_53, z_54]
theorem m_cnt_7 (h : MR B i σ) (hW : Wd σ.1) : MRs B i σ (am_fx am_P (d + 150) 142 0 [some (.ref 874), some (.int 7), none, none] [] (am_wI B i)) (some (.int (npl σ.1 (7 - 4)))) 0 := by
  refine MRs_0 h ?_
  have hM : Md B := h.1.1
  have hw : ∀ s, s < 12042 → am_up2 i 874 0 0 875 s = σ.1 s := fun s hs => by rw [y_up2 (by omega)]; exact h.2.1 s hs
  have hc := hW.1
  have hr := h.2.1
  rw [bk_142_0]
  simp (disch := omega) only [(fun d x0 x1 B i => bk_142_0 d x0 x1 (am_wI B i)), (fun d x0 x1 x2 B i => bk_142_100 d x0 x1 x2 (am_wI B i)), (fun d x0 x1 x2 B i => bk_142_105 d x0 x1 x2 (am_wI B i)), (fun d x0 x1 x2 B i => bk_142_113 d x0 x1 x2 (am_wI B i)), (fun d x0 x1 x2 B i => bk_142_146 d x0 x1 x2 (am_wI B i)), (fun d x0 x1 x2 B i => bk_142_155 d x0 x1 x2 (am_wI B i)), (fun d x0 x1 x2 B i => bk_142_163 d x0 x1 x2 (am_wI B i)), (fun d x0 x1 x2 B i => bk_142_172 d x0 x1 x2 (am_wI B i)), (fun d x0 x1 x2 B i => bk_142_178 d x0 x1 x2 (am_wI B i)), (fun d x0 x1 x2 B i => bk_142_187 d x0 x1 x2 (am_wI B i)), (fun d x0 x1 x2 B i => bk_142_196 d x0 x1 x2 (am_wI B i)), (fun d x0 x1 x2 B i => bk_142_203 d x0 x1 x2 (am_wI B i)), (fun d x0 x1 x2 B i => bk_142_212 d x0 x1 x2 (am_wI B i)), (fun d x0 x1 x2 B i => bk_142_225 d x0 x1 x2 (am_wI B i)), (fun d x0 x1 x2 B i => bk_142_232 d x0 x1 x2 (am_wI B i)), u_7_0, u_7_1, u_7_2, u_7_3, u_7_4, u_7_5, u_7_6, hr, hw, m_stand hM hw hc.2.1 hW.2.2.1, m_inPlace hM hw hc.2.2.1, m_inState hM hw hc.2.2.2.1, m_textOf hM hw hc.2.2.2.2.2.2.2.2.2, m_linesOf hM hw hc.2.2.2.2.2.2.2.2.2, (fun d x0 B i => bk_13_0 d x0 (am_wI B i)), hM, eq_self, ↓reduceIte, y_ckd, y_ck2d, y_ond, y_onn, y_oI, y_oIx, y_oJ, y_oV, y_oVx, y_oR, y_oRn, y_oRx, y_b0, y_b1, y_bi, y_bid, y_wIK, y_wIL, y_wII, y_wIJ, y_wIR, y_wIN, y_wIw, y_sI, ↓reduceIte, Nat.reduceEqDiff, eq_self, true_or, or_true, false_or, or_false, and_true, true_and, false_and, and_false, not_true, not_false_eq_true, tf_T, tf_F, y_up1, y_up2, y_xx, y_nx, y_sJ, y_sR, Int32.reduceLT, y_nxK, y_nxL, y_nxR, y_sJK, y_sJL, y_sJR, y_sJN, y_sRK, y_sRL, y_sRN, z_nat, z_lit, z_lit0, z_lit1, z_in0, z_in1, z_addl0, z_lt, z_ltl, z_llt, z_inj, z_injl, z_add, z_addl, z_ladd, z_mul, z_mull, z_lmul, z_neg, z_negl, z_in, z_inl, z_ltT, z_ltF, z_eqF, z_10, z_01, z_litne, z_ne0, z_0ne, z_ne1, z_1ne, z_lt64, z_02, z_03, z_04, z_05, z_12, z_13, z_14, z_15, z_20, z_21, z_23, z_24, z_25, z_30, z_31, z_32, z_34, z_35, z_40, z_41, z_42, z_43, z_45, z_50, z_51, z_52, z_53, z_54]
theorem f_cnt_8 (h : CR B i σ) (hW : Wd σ.1) : FRs B i σ (am_fx am_P (d + 150) 344 0 [some (.ref 64), some (.int 8)] [] (am_wI B i)) (.inl (some (.int (npl σ.1 (8 - 4))))) := by
  refine FRs_0 h ?_
  have hF : Fc B := h.1.1
  have hY : Yd B 94 := h.1.2.1
  obtain ⟨hb, hT, hP, hS, hG, hE, hM, hC, hX⟩ := h.2.1
  have hc := hW.1
  have e3 := hT.1
  have e5 := hP.1
  have e8 := hS.1
  have e12 := hG.1
  have e15 := hX.1
  rw [bk_344_0]
  simp (disch := omega) only [(fun d x0 x1 B i => bk_267_0 d x0 x1 (am_wI B i)), (fun d x0 B i => bk_267_108 d x0 (am_wI B i)), (fun d x0 B i => bk_267_113 d x0 (am_wI B i)), (fun d x0 B i => bk_267_118 d x0 (am_wI B i)), (fun d x0 B i => bk_267_123 d x0 (am_wI B i)), (fun d x0 B i => bk_267_174 d x0 (am_wI B i)), (fun d x0 B i => bk_267_128 d x0 (am_wI B i)), (fun d x0 B i => bk_267_133 d x0 (am_wI B i)), (fun d x0 B i => bk_267_138 d x0 (am_wI B i)), (fun d x0 B i => bk_267_146 d x0 (am_wI B i)), (fun d x0 B i => bk_267_151 d x0 (am_wI B i)), (fun d x0 B i => bk_267_156 d x0 (am_wI B i)), (fun d x0 B i => bk_267_164 d x0 (am_wI B i)), (fun d x0 B i => bk_267_169 d x0 (am_wI B i)), c_within1 u_w_8, u_8_0, u_8_1, u_8_2, u_8_3, u_8_4, u_8_5, u_8_6, u_8_7, hb.1, hb.2.2.2.1, hb.2.2.2.2.1, hb.2.2.2.2.2.2.2.1, e3, e5, e8, e12, e15, c_stand hY hT hc.2.1, c_countIn hY hP hc.2.2.1, c_onSlips hY hS hc.2.2.2.1, c_lines hY hX hc.2.2.2.2.2.2.2.2.2 hW.2.2.2.2.2.2.2.2.1 hb.1, hF, hY, eq_self, ↓reduceIte, y_ckd, y_ck2d, y_ond, y_onn, y_oI, y_oIx, y_oJ, y_oV, y_oVx, y_oR, y_oRn, y_oRx, y_b0, y_b1, y_bi, y_bid, y_wIK, y_wIL, y_wII, y_wIJ, y_wIR, y_wIN, y_wIw, y_sI, ↓reduceIte, Nat.reduceEqDiff, eq_self, true_or, or_true, false_or, or_false, and_true, true_and, false_and, and_false, not_true, not_false_eq_true, tf_T, tf_F, y_up1, y_up2, y_xx, y_nx, y_sJ, y_sR, Int32.reduceLT, y_nxK, y_nxL, y_nxR, y_sJK, y_sJL, y_sJR, y_sJN, y_sRK, y_sRL, y_sRN, z_nat, z_lit, z_lit0, z_lit1, z_in0, z_in1, z_addl0, z_lt, z_ltl, z_llt, z_inj, z_injl, z_add, z_addl, z_ladd, z_mul, z_mull, z_lmul, z_neg, z_negl, z_in, z_inl, z_ltT, z_ltF, z_eqF, z_10, z_01, z_litne, z_ne0, z_0ne, z_ne1, z_1ne, z_lt64, z_02, z_03, z_04, z_05, z_12, z_13, z_14, z_15, z_20, z_21, z_23, z_24, z_25, z_30, z_31, z_32, z_34, z_35, z_40, z_41, z_42, z_43, z_45, z_50, z_51, z_52, z_53, z_54]
theorem m_cnt_8 (h : MR B i σ) (hW : Wd σ.1) : MRs B i σ (am_fx am_P (d + 150) 142 0 [some (.ref 874), some (.int 8), none, none] [] (am_wI B i)) (some (.int (npl σ.1 (8 - 4)))) 0 := by
  refine MRs_0 h ?_
  have hM : Md B := h.1.1
  have hw : ∀ s, s < 12042 → am_up2 i 874 0 0 875 s = σ.1 s := fun s hs => by rw [y_up2 (by omega)]; exact h.2.1 s hs
  have hc := hW.1
  have hr := h.2.1
  rw [bk_142_0]
  simp (disch := omega) only [(fun d x0 x1 B i => bk_142_0 d x0 x1 (am_wI B i)), (fun d x0 x1 x2 B i => bk_142_100 d x0 x1 x2 (am_wI B i)), (fun d x0 x1 x2 B i => bk_142_105 d x0 x1 x2 (am_wI B i)), (fun d x0 x1 x2 B i => bk_142_113 d x0 x1 x2 (am_wI B i)), (fun d x0 x1 x2 B i => bk_142_146 d x0 x1 x2 (am_wI B i)), (fun d x0 x1 x2 B i => bk_142_155 d x0 x1 x2 (am_wI B i)), (fun d x0 x1 x2 B i => bk_142_163 d x0 x1 x2 (am_wI B i)), (fun d x0 x1 x2 B i => bk_142_172 d x0 x1 x2 (am_wI B i)), (fun d x0 x1 x2 B i => bk_142_178 d x0 x1 x2 (am_wI B i)), (fun d x0 x1 x2 B i => bk_142_187 d x0 x1 x2 (am_wI B i)), (fun d x0 x1 x2 B i => bk_142_196 d x0 x1 x2 (am_wI B i)), (fun d x0 x1 x2 B i => bk_142_203 d x0 x1 x2 (am_wI B i)), (fun d x0 x1 x2 B i => bk_142_212 d x0 x1 x2 (am_wI B i)), (fun d x0 x1 x2 B i => bk_142_225 d x0 x1 x2 (am_wI B i)), (fun d x0 x1 x2 B i => bk_142_232 d x0 x1 x2 (am_wI B i)), u_8_0, u_8_1, u_8_2, u_8_3, u_8_4, u_8_5, u_8_6, u_8_7, hr, hw, m_stand hM hw hc.2.1 hW.2.2.1, m_inPlace hM hw hc.2.2.1, m_inState hM hw hc.2.2.2.1, m_textOf hM hw hc.2.2.2.2.2.2.2.2.2, m_linesOf hM hw hc.2.2.2.2.2.2.2.2.2, (fun d x0 B i => bk_13_0 d x0 (am_wI B i)), hM, eq_self, ↓reduceIte, y_ckd, y_ck2d, y_ond, y_onn, y_oI, y_oIx, y_oJ, y_oV, y_oVx, y_oR, y_oRn, y_oRx, y_b0, y_b1, y_bi, y_bid, y_wIK, y_wIL, y_wII, y_wIJ, y_wIR, y_wIN, y_wIw, y_sI, ↓reduceIte, Nat.reduceEqDiff, eq_self, true_or, or_true, false_or, or_false, and_true, true_and, false_and, and_false, not_true, not_false_eq_true, tf_T, tf_F, y_up1, y_up2, y_xx, y_nx, y_sJ, y_sR, Int32.reduceLT, y_nxK, y_nxL, y_nxR, y_sJK, y_sJL, y_sJR, y_sJN, y_sRK, y_sRL, y_sRN, z_nat, z_lit, z_lit0, z_lit1, z_in0, z_in1, z_addl0, z_lt, z_ltl, z_llt, z_inj, z_injl, z_add, z_addl, z_ladd, z_mul, z_mull, z_lmul, z_neg, z_negl, z_in, z_inl, z_ltT, z_ltF, z_eqF, z_10, z_01, z_litne, z_ne0, z_0ne, z_ne1, z_1ne, z_lt64, z_02, z_03, z_04, z_05, z_12, z_13, z_14, z_15, z_20, z_21, z_23, z_24, z_25, z_30, z_31, z_32, z_34, z_35, z_40, z_41, z_42, z_43, z_45, z_50, z_51, z_52, z_53, z_54]
theorem f_cnt_9 (h : CR B i σ) (hW : Wd σ.1) : FRs B i σ (am_fx am_P (d + 150) 344 0 [some (.ref 64), some (.int 9)] [] (am_wI B i)) (.inl (some (.int (npl σ.1 (9 - 4))))) := by
  refine FRs_0 h ?_
  have hF : Fc B := h.1.1
  have hY : Yd B 94 := h.1.2.1
  obtain ⟨hb, hT, hP, hS, hG, hE, hM, hC, hX⟩ := h.2.1
  have hc := hW.1
  have e3 := hT.1
  have e5 := hP.1
  have e8 := hS.1
  have e12 := hG.1
  have e15 := hX.1
  rw [bk_344_0]
  simp (disch := omega) only [(fun d x0 x1 B i => bk_267_0 d x0 x1 (am_wI B i)), (fun d x0 B i => bk_267_108 d x0 (am_wI B i)), (fun d x0 B i => bk_267_113 d x0 (am_wI B i)), (fun d x0 B i => bk_267_118 d x0 (am_wI B i)), (fun d x0 B i => bk_267_123 d x0 (am_wI B i)), (fun d x0 B i => bk_267_174 d x0 (am_wI B i)), (fun d x0 B i => bk_267_128 d x0 (am_wI B i)), (fun d x0 B i => bk_267_133 d x0 (am_wI B i)), (fun d x0 B i => bk_267_138 d x0 (am_wI B i)), (fun d x0 B i => bk_267_146 d x0 (am_wI B i)), (fun d x0 B i => bk_267_151 d x0 (am_wI B i)), (fun d x0 B i => bk_267_156 d x0 (am_wI B i)), (fun d x0 B i => bk_267_164 d x0 (am_wI B i)), (fun d x0 B i => bk_267_169 d x0 (am_wI B i)), c_within1 u_w_9, u_9_0, u_9_1, u_9_2, u_9_3, u_9_4, u_9_5, u_9_6, u_9_7, u_9_8, hb.1, hb.2.2.2.1, hb.2.2.2.2.1, hb.2.2.2.2.2.2.2.1, e3, e5, e8, e12, e15, c_stand hY hT hc.2.1, c_countIn hY hP hc.2.2.1, c_onSlips hY hS hc.2.2.2.1, c_lines hY hX hc.2.2.2.2.2.2.2.2.2 hW.2.2.2.2.2.2.2.2.1 hb.1, hF, hY, eq_self, ↓reduceIte, y_ckd, y_ck2d, y_ond, y_onn, y_oI, y_oIx, y_oJ, y_oV, y_oVx, y_oR, y_oRn, y_oRx, y_b0, y_b1, y_bi, y_bid, y_wIK, y_wIL, y_wII, y_wIJ, y_wIR, y_wIN, y_wIw, y_sI, ↓reduceIte, Nat.reduceEqDiff, eq_self, true_or, or_true, false_or, or_false, and_true, true_and, false_and, and_false, not_true, not_false_eq_true, tf_T, tf_F, y_up1, y_up2, y_xx, y_nx, y_sJ, y_sR, Int32.reduceLT, y_nxK, y_nxL, y_nxR, y_sJK, y_sJL, y_sJR, y_sJN, y_sRK, y_sRL, y_sRN, z_nat, z_lit, z_lit0, z_lit1, z_in0, z_in1, z_addl0, z_lt, z_ltl, z_llt, z_inj, z_injl, z_add, z_addl, z_ladd, z_mul, z_mull, z_lmul, z_neg, z_negl, z_in, z_inl, z_ltT, z_ltF, z_eqF, z_10, z_01, z_litne, z_ne0, z_0ne, z_ne1, z_1ne, z_lt64, z_02, z_03, z_04, z_05, z_12, z_13, z_14, z_15, z_20, z_21, z_23, z_24, z_25, z_30, z_31, z_32, z_34, z_35, z_40, z_41, z_42, z_43, z_45, z_50, z_51, z_52, z_53, z_54]
theorem m_cnt_9 (h : MR B i σ) (hW : Wd σ.1) : MRs B i σ (am_fx am_P (d + 150) 142 0 [some (.ref 874), some (.int 9), none, none] [] (am_wI B i)) (some (.int (npl σ.1 (9 - 4)))) 0 := by
  refine MRs_0 h ?_
  have hM : Md B := h.1.1
  have hw : ∀ s, s < 12042 → am_up2 i 874 0 0 875 s = σ.1 s := fun s hs => by rw [y_up2 (by omega)]; exact h.2.1 s hs
  have hc := hW.1
  have hr := h.2.1
  rw [bk_142_0]
  simp (disch := omega) only [(fun d x0 x1 B i => bk_142_0 d x0 x1 (am_wI B i)), (fun d x0 x1 x2 B i => bk_142_100 d x0 x1 x2 (am_wI B i)), (fun d x0 x1 x2 B i => bk_142_105 d x0 x1 x2 (am_wI B i)), (fun d x0 x1 x2 B i => bk_142_113 d x0 x1 x2 (am_wI B i)), (fun d x0 x1 x2 B i => bk_142_146 d x0 x1 x2 (am_wI B i)), (fun d x0 x1 x2 B i => bk_142_155 d x0 x1 x2 (am_wI B i)), (fun d x0 x1 x2 B i => bk_142_163 d x0 x1 x2 (am_wI B i)), (fun d x0 x1 x2 B i => bk_142_172 d x0 x1 x2 (am_wI B i)), (fun d x0 x1 x2 B i => bk_142_178 d x0 x1 x2 (am_wI B i)), (fun d x0 x1 x2 B i => bk_142_187 d x0 x1 x2 (am_wI B i)), (fun d x0 x1 x2 B i => bk_142_196 d x0 x1 x2 (am_wI B i)), (fun d x0 x1 x2 B i => bk_142_203 d x0 x1 x2 (am_wI B i)), (fun d x0 x1 x2 B i => bk_142_212 d x0 x1 x2 (am_wI B i)), (fun d x0 x1 x2 B i => bk_142_225 d x0 x1 x2 (am_wI B i)), (fun d x0 x1 x2 B i => bk_142_232 d x0 x1 x2 (am_wI B i)), u_9_0, u_9_1, u_9_2, u_9_3, u_9_4, u_9_5, u_9_6, u_9_7, u_9_8, hr, hw, m_stand hM hw hc.2.1 hW.2.2.1, m_inPlace hM hw hc.2.2.1, m_inState hM hw hc.2.2.2.1, m_textOf hM hw hc.2.2.2.2.2.2.2.2.2, m_linesOf hM hw hc.2.2.2.2.2.2.2.2.2, (fun d x0 B i => bk_13_0 d x0 (am_wI B i)), hM, eq_self, ↓reduceIte, y_ckd, y_ck2d, y_ond, y_onn, y_oI, y_oIx, y_oJ, y_oV, y_oVx, y_oR, y_oRn, y_oRx, y_b0, y_b1, y_bi, y_bid, y_wIK, y_wIL, y_wII, y_wIJ, y_wIR, y_wIN, y_wIw, y_sI, ↓reduceIte, Nat.reduceEqDiff, eq_self, true_or, or_true, false_or, or_false, and_true, true_and, false_and, and_false, not_true, not_false_eq_true, tf_T, tf_F, y_up1, y_up2, y_xx, y_nx, y_sJ, y_sR, Int32.reduceLT, y_nxK, y_nxL, y_nxR, y_sJK, y_sJL, y_sJR, y_sJN, y_sRK, y_sRL, y_sRN, z_nat, z_lit, z_lit0, z_lit1, z_in0, z_in1, z_addl0, z_lt, z_ltl, z_llt, z_inj, z_injl, z_add, z_addl, z_ladd, z_mul, z_mull, z_lmul, z_neg, z_negl, z_in, z_inl, z_ltT, z_ltF, z_eqF, z_10, z_01, z_litne, z_ne0, z_0ne, z_ne1, z_1ne, z_lt64, z_02, z_03, z_04, z_05, z_12, z_13, z_14, z_15, z_20, z_21, z_23, z_24, z_25, z_30, z_31, z_32, z_34, z_35, z_40, z_41, z_42, z_43, z_45, z_50, z_51, z_52, z_53, z_54]
theorem f_cnt_10 (h : CR B i σ) (hW : Wd σ.1) : FRs B i σ (am_fx am_P (d + 150) 344 0 [some (.ref 64), some (.int 10)] [] (am_wI B i)) (.inl (some (.int (npl σ.1 (10 - 4))))) := by
  refine FRs_0 h ?_
  have hF : Fc B := h.1.1
  have hY : Yd B 94 := h.1.2.1
  obtain ⟨hb, hT, hP, hS, hG, hE, hM, hC, hX⟩ := h.2.1
  have hc := hW.1
  have e3 := hT.1
  have e5 := hP.1
  have e8 := hS.1
  have e12 := hG.1
  have e15 := hX.1
  rw [bk_344_0]
  simp (disch := omega) only [(fun d x0 x1 B i => bk_267_0 d x0 x1 (am_wI B i)), (fun d x0 B i => bk_267_108 d x0 (am_wI B i)), (fun d x0 B i => bk_267_113 d x0 (am_wI B i)), (fun d x0 B i => bk_267_118 d x0 (am_wI B i)), (fun d x0 B i => bk_267_123 d x0 (am_wI B i)), (fun d x0 B i => bk_267_174 d x0 (am_wI B i)), (fun d x0 B i => bk_267_128 d x0 (am_wI B i)), (fun d x0 B i => bk_267_133 d x0 (am_wI B i)), (fun d x0 B i => bk_267_138 d x0 (am_wI B i)), (fun d x0 B i => bk_267_146 d x0 (am_wI B i)), (fun d x0 B i => bk_267_151 d x0 (am_wI B i)), (fun d x0 B i => bk_267_156 d x0 (am_wI B i)), (fun d x0 B i => bk_267_164 d x0 (am_wI B i)), (fun d x0 B i => bk_267_169 d x0 (am_wI B i)), c_within1 u_w_10, u_10_0, u_10_1, u_10_2, u_10_3, u_10_4, u_10_5, u_10_6, u_10_7, u_10_8, u_10_9, hb.1, hb.2.2.2.1, hb.2.2.2.2.1, hb.2.2.2.2.2.2.2.1, e3, e5, e8, e12, e15, c_stand hY hT hc.2.1, c_countIn hY hP hc.2.2.1, c_onSlips hY hS hc.2.2.2.1, c_lines hY hX hc.2.2.2.2.2.2.2.2.2 hW.2.2.2.2.2.2.2.2.1 hb.1, hF, hY, eq_self, ↓reduceIte, y_ckd, y_ck2d, y_ond, y_onn, y_oI, y_oIx, y_oJ, y_oV, y_oVx, y_oR, y_oRn, y_oRx, y_b0, y_b1, y_bi, y_bid, y_wIK, y_wIL, y_wII, y_wIJ, y_wIR, y_wIN, y_wIw, y_sI, ↓reduceIte, Nat.reduceEqDiff, eq_self, true_or, or_true, false_or, or_false, and_true, true_and, false_and, and_false, not_true, not_false_eq_true, tf_T, tf_F, y_up1, y_up2, y_xx, y_nx, y_sJ, y_sR, Int32.reduceLT, y_nxK, y_nxL, y_nxR, y_sJK, y_sJL, y_sJR, y_sJN, y_sRK, y_sRL, y_sRN, z_nat, z_lit, z_lit0, z_lit1, z_in0, z_in1, z_addl0, z_lt, z_ltl, z_llt, z_inj, z_injl, z_add, z_addl, z_ladd, z_mul, z_mull, z_lmul, z_neg, z_negl, z_in, z_inl, z_ltT, z_ltF, z_eqF, z_10, z_01, z_litne, z_ne0, z_0ne, z_ne1, z_1ne, z_lt64, z_02, z_03, z_04, z_05, z_12, z_13, z_14, z_15, z_20, z_21, z_23, z_24, z_25, z_30, z_31, z_32, z_34, z_35, z_40, z_41, z_42, z_43, z_45, z_50, z_51, z_52, z_53, z_54]
theorem m_cnt_10 (h : MR B i σ) (hW : Wd σ.1) : MRs B i σ (am_fx am_P (d + 150) 142 0 [some (.ref 874), some (.int 10), none, none] [] (am_wI B i)) (some (.int (npl σ.1 (10 - 4)))) 0 := by
  refine MRs_0 h ?_
  have hM : Md B := h.1.1
  have hw : ∀ s, s < 12042 → am_up2 i 874 0 0 875 s = σ.1 s := fun s hs => by rw [y_up2 (by omega)]; exact h.2.1 s hs
  have hc := hW.1
  have hr := h.2.1
  rw [bk_142_0]
  simp (disch := omega) only [(fun d x0 x1 B i => bk_142_0 d x0 x1 (am_wI B i)), (fun d x0 x1 x2 B i => bk_142_100 d x0 x1 x2 (am_wI B i)), (fun d x0 x1 x2 B i => bk_142_105 d x0 x1 x2 (am_wI B i)), (fun d x0 x1 x2 B i => bk_142_113 d x0 x1 x2 (am_wI B i)), (fun d x0 x1 x2 B i => bk_142_146 d x0 x1 x2 (am_wI B i)), (fun d x0 x1 x2 B i => bk_142_155 d x0 x1 x2 (am_wI B i)), (fun d x0 x1 x2 B i => bk_142_163 d x0 x1 x2 (am_wI B i)), (fun d x0 x1 x2 B i => bk_142_172 d x0 x1 x2 (am_wI B i)), (fun d x0 x1 x2 B i => bk_142_178 d x0 x1 x2 (am_wI B i)), (fun d x0 x1 x2 B i => bk_142_187 d x0 x1 x2 (am_wI B i)), (fun d x0 x1 x2 B i => bk_142_196 d x0 x1 x2 (am_wI B i)), (fun d x0 x1 x2 B i => bk_142_203 d x0 x1 x2 (am_wI B i)), (fun d x0 x1 x2 B i => bk_142_212 d x0 x1 x2 (am_wI B i)), (fun d x0 x1 x2 B i => bk_142_225 d x0 x1 x2 (am_wI B i)), (fun d x0 x1 x2 B i => bk_142_232 d x0 x1 x2 (am_wI B i)), u_10_0, u_10_1, u_10_2, u_10_3, u_10_4, u_10_5, u_10_6, u_10_7, u_10_8, u_10_9, hr, hw, m_stand hM hw hc.2.1 hW.2.2.1, m_inPlace hM hw hc.2.2.1, m_inState hM hw hc.2.2.2.1, m_textOf hM hw hc.2.2.2.2.2.2.2.2.2, m_linesOf hM hw hc.2.2.2.2.2.2.2.2.2, (fun d x0 B i => bk_13_0 d x0 (am_wI B i)), hM, eq_self, ↓reduceIte, y_ckd, y_ck2d, y_ond, y_onn, y_oI, y_oIx, y_oJ, y_oV, y_oVx, y_oR, y_oRn, y_oRx, y_b0, y_b1, y_bi, y_bid, y_wIK, y_wIL, y_wII, y_wIJ, y_wIR, y_wIN, y_wIw, y_sI, ↓reduceIte, Nat.reduceEqDiff, eq_self, true_or, or_true, false_or, or_false, and_true, true_and, false_and, and_false, not_true, not_false_eq_true, tf_T, tf_F, y_up1, y_up2, y_xx, y_nx, y_sJ, y_sR, Int32.reduceLT, y_nxK, y_nxL, y_nxR, y_sJK, y_sJL, y_sJR, y_sJN, y_sRK, y_sRL, y_sRN, z_nat, z_lit, z_lit0, z_lit1, z_in0, z_in1, z_addl0, z_lt, z_ltl, z_llt, z_inj, z_injl, z_add, z_addl, z_ladd, z_mul, z_mull, z_lmul, z_neg, z_negl, z_in, z_inl, z_ltT, z_ltF, z_eqF, z_10, z_01, z_litne, z_ne0, z_0ne, z_ne1, z_1ne, z_lt64, z_02, z_03, z_04, z_05, z_12, z_13, z_14, z_15, z_20, z_21, z_23, z_24, z_25, z_30, z_31, z_32, z_34, z_35, z_40, z_41, z_42, z_43, z_45, z_50, z_51, z_52, z_53, z_54]
theorem f_cnt_11 (h : CR B i σ) (hW : Wd σ.1) : FRs B i σ (am_fx am_P (d + 150) 344 0 [some (.ref 64), some (.int 11)] [] (am_wI B i)) (.inl (some (.int (σ.1 2621)))) := by
  refine FRs_0 h ?_
  have hF : Fc B := h.1.1
  have hY : Yd B 94 := h.1.2.1
  obtain ⟨hb, hT, hP, hS, hG, hE, hM, hC, hX⟩ := h.2.1
  have hc := hW.1
  have e3 := hT.1
  have e5 := hP.1
  have e8 := hS.1
  have e12 := hG.1
  have e15 := hX.1
  rw [bk_344_0]
  simp (disch := omega) only [(fun d x0 x1 B i => bk_267_0 d x0 x1 (am_wI B i)), (fun d x0 B i => bk_267_108 d x0 (am_wI B i)), (fun d x0 B i => bk_267_113 d x0 (am_wI B i)), (fun d x0 B i => bk_267_118 d x0 (am_wI B i)), (fun d x0 B i => bk_267_123 d x0 (am_wI B i)), (fun d x0 B i => bk_267_174 d x0 (am_wI B i)), (fun d x0 B i => bk_267_128 d x0 (am_wI B i)), (fun d x0 B i => bk_267_133 d x0 (am_wI B i)), (fun d x0 B i => bk_267_138 d x0 (am_wI B i)), (fun d x0 B i => bk_267_146 d x0 (am_wI B i)), (fun d x0 B i => bk_267_151 d x0 (am_wI B i)), (fun d x0 B i => bk_267_156 d x0 (am_wI B i)), (fun d x0 B i => bk_267_164 d x0 (am_wI B i)), (fun d x0 B i => bk_267_169 d x0 (am_wI B i)), c_within0 u_w_11, u_11_0, u_11_1, u_11_2, u_11_3, u_11_4, u_11_5, u_11_6, u_11_7, u_11_8, u_11_9, u_11_10, hb.1, hb.2.2.2.1, hb.2.2.2.2.1, hb.2.2.2.2.2.2.2.1, e3, e5, e8, e12, e15, c_stand hY hT hc.2.1, c_countIn hY hP hc.2.2.1, c_onSlips hY hS hc.2.2.2.1, c_lines hY hX hc.2.2.2.2.2.2.2.2.2 hW.2.2.2.2.2.2.2.2.1 hb.1, hF, hY, eq_self, ↓reduceIte, y_ckd, y_ck2d, y_ond, y_onn, y_oI, y_oIx, y_oJ, y_oV, y_oVx, y_oR, y_oRn, y_oRx, y_b0, y_b1, y_bi, y_bid, y_wIK, y_wIL, y_wII, y_wIJ, y_wIR, y_wIN, y_wIw, y_sI, ↓reduceIte, Nat.reduceEqDiff, eq_self, true_or, or_true, false_or, or_false, and_true, true_and, false_and, and_false, not_true, not_false_eq_true, tf_T, tf_F, y_up1, y_up2, y_xx, y_nx, y_sJ, y_sR, Int32.reduceLT, y_nxK, y_nxL, y_nxR, y_sJK, y_sJL, y_sJR, y_sJN, y_sRK, y_sRL, y_sRN, z_nat, z_lit, z_lit0, z_lit1, z_in0, z_in1, z_addl0, z_lt, z_ltl, z_llt, z_inj, z_injl, z_add, z_addl, z_ladd, z_mul, z_mull, z_lmul, z_neg, z_negl, z_in, z_inl, z_ltT, z_ltF, z_eqF, z_10, z_01, z_litne, z_ne0, z_0ne, z_ne1, z_1ne, z_lt64, z_02, z_03, z_04, z_05, z_12, z_13, z_14, z_15, z_20, z_21, z_23, z_24, z_25, z_30, z_31, z_32, z_34, z_35, z_40, z_41, z_42, z_43, z_45, z_50, z_51, z_52, z_53, z_54]
theorem m_cnt_11 (h : MR B i σ) (hW : Wd σ.1) : MRs B i σ (am_fx am_P (d + 150) 142 0 [some (.ref 874), some (.int 11), none, none] [] (am_wI B i)) (some (.int (σ.1 2621))) 0 := by
  refine MRs_0 h ?_
  have hM : Md B := h.1.1
  have hw : ∀ s, s < 12042 → am_up2 i 874 0 0 875 s = σ.1 s := fun s hs => by rw [y_up2 (by omega)]; exact h.2.1 s hs
  have hc := hW.1
  have hr := h.2.1
  rw [bk_142_0]
  simp (disch := omega) only [(fun d x0 x1 B i => bk_142_0 d x0 x1 (am_wI B i)), (fun d x0 x1 x2 B i => bk_142_100 d x0 x1 x2 (am_wI B i)), (fun d x0 x1 x2 B i => bk_142_105 d x0 x1 x2 (am_wI B i)), (fun d x0 x1 x2 B i => bk_142_113 d x0 x1 x2 (am_wI B i)), (fun d x0 x1 x2 B i => bk_142_146 d x0 x1 x2 (am_wI B i)), (fun d x0 x1 x2 B i => bk_142_155 d x0 x1 x2 (am_wI B i)), (fun d x0 x1 x2 B i => bk_142_163 d x0 x1 x2 (am_wI B i)), (fun d x0 x1 x2 B i => bk_142_172 d x0 x1 x2 (am_wI B i)), (fun d x0 x1 x2 B i => bk_142_178 d x0 x1 x2 (am_wI B i)), (fun d x0 x1 x2 B i => bk_142_187 d x0 x1 x2 (am_wI B i)), (fun d x0 x1 x2 B i => bk_142_196 d x0 x1 x2 (am_wI B i)), (fun d x0 x1 x2 B i => bk_142_203 d x0 x1 x2 (am_wI B i)), (fun d x0 x1 x2 B i => bk_142_212 d x0 x1 x2 (am_wI B i)), (fun d x0 x1 x2 B i => bk_142_225 d x0 x1 x2 (am_wI B i)), (fun d x0 x1 x2 B i => bk_142_232 d x0 x1 x2 (am_wI B i)), u_11_0, u_11_1, u_11_2, u_11_3, u_11_4, u_11_5, u_11_6, u_11_7, u_11_8, u_11_9, u_11_10, hr, hw, m_stand hM hw hc.2.1 hW.2.2.1, m_inPlace hM hw hc.2.2.1, m_inState hM hw hc.2.2.2.1, m_textOf hM hw hc.2.2.2.2.2.2.2.2.2, m_linesOf hM hw hc.2.2.2.2.2.2.2.2.2, (fun d x0 B i => bk_13_0 d x0 (am_wI B i)), hM, eq_self, ↓reduceIte, y_ckd, y_ck2d, y_ond, y_onn, y_oI, y_oIx, y_oJ, y_oV, y_oVx, y_oR, y_oRn, y_oRx, y_b0, y_b1, y_bi, y_bid, y_wIK, y_wIL, y_wII, y_wIJ, y_wIR, y_wIN, y_wIw, y_sI, ↓reduceIte, Nat.reduceEqDiff, eq_self, true_or, or_true, false_or, or_false, and_true, true_and, false_and, and_false, not_true, not_false_eq_true, tf_T, tf_F, y_up1, y_up2, y_xx, y_nx, y_sJ, y_sR, Int32.reduceLT, y_nxK, y_nxL, y_nxR, y_sJK, y_sJL, y_sJR, y_sJN, y_sRK, y_sRL, y_sRN, z_nat, z_lit, z_lit0, z_lit1, z_in0, z_in1, z_addl0, z_lt, z_ltl, z_llt, z_inj, z_injl, z_add, z_addl, z_ladd, z_mul, z_mull, z_lmul, z_neg, z_negl, z_in, z_inl, z_ltT, z_ltF, z_eqF, z_10, z_01, z_litne, z_ne0, z_0ne, z_ne1, z_1ne, z_lt64, z_02, z_03, z_04, z_05, z_12, z_13, z_14, z_15, z_20, z_21, z_23, z_24, z_25, z_30, z_31, z_32, z_34, z_35, z_40, z_41, z_42, z_43, z_45, z_50, z_51, z_52, z_53, z_54]
theorem f_cnt_12 (h : CR B i σ) (hW : Wd σ.1) : FRs B i σ (am_fx am_P (d + 150) 344 0 [some (.ref 64), some (.int 12)] [] (am_wI B i)) (.inl (some (.int (nst σ.1 1)))) := by
  refine FRs_0 h ?_
  have hF : Fc B := h.1.1
  have hY : Yd B 94 := h.1.2.1
  obtain ⟨hb, hT, hP, hS, hG, hE, hM, hC, hX⟩ := h.2.1
  have hc := hW.1
  have e3 := hT.1
  have e5 := hP.1
  have e8 := hS.1
  have e12 := hG.1
  have e15 := hX.1
  rw [bk_344_0]
  simp (disch := omega) only [(fun d x0 x1 B i => bk_267_0 d x0 x1 (am_wI B i)), (fun d x0 B i => bk_267_108 d x0 (am_wI B i)), (fun d x0 B i => bk_267_113 d x0 (am_wI B i)), (fun d x0 B i => bk_267_118 d x0 (am_wI B i)), (fun d x0 B i => bk_267_123 d x0 (am_wI B i)), (fun d x0 B i => bk_267_174 d x0 (am_wI B i)), (fun d x0 B i => bk_267_128 d x0 (am_wI B i)), (fun d x0 B i => bk_267_133 d x0 (am_wI B i)), (fun d x0 B i => bk_267_138 d x0 (am_wI B i)), (fun d x0 B i => bk_267_146 d x0 (am_wI B i)), (fun d x0 B i => bk_267_151 d x0 (am_wI B i)), (fun d x0 B i => bk_267_156 d x0 (am_wI B i)), (fun d x0 B i => bk_267_164 d x0 (am_wI B i)), (fun d x0 B i => bk_267_169 d x0 (am_wI B i)), c_within0 u_w_12, u_12_0, u_12_1, u_12_2, u_12_3, u_12_4, u_12_5, u_12_6, u_12_7, u_12_8, u_12_9, u_12_10, u_12_11, hb.1, hb.2.2.2.1, hb.2.2.2.2.1, hb.2.2.2.2.2.2.2.1, e3, e5, e8, e12, e15, c_stand hY hT hc.2.1, c_countIn hY hP hc.2.2.1, c_onSlips hY hS hc.2.2.2.1, c_lines hY hX hc.2.2.2.2.2.2.2.2.2 hW.2.2.2.2.2.2.2.2.1 hb.1, hF, hY, eq_self, ↓reduceIte, y_ckd, y_ck2d, y_ond, y_onn, y_oI, y_oIx, y_oJ, y_oV, y_oVx, y_oR, y_oRn, y_oRx, y_b0, y_b1, y_bi, y_bid, y_wIK, y_wIL, y_wII, y_wIJ, y_wIR, y_wIN, y_wIw, y_sI, ↓reduceIte, Nat.reduceEqDiff, eq_self, true_or, or_true, false_or, or_false, and_true, true_and, false_and, and_false, not_true, not_false_eq_true, tf_T, tf_F, y_up1, y_up2, y_xx, y_nx, y_sJ, y_sR, Int32.reduceLT, y_nxK, y_nxL, y_nxR, y_sJK, y_sJL, y_sJR, y_sJN, y_sRK, y_sRL, y_sRN, z_nat, z_lit, z_lit0, z_lit1, z_in0, z_in1, z_addl0, z_lt, z_ltl, z_llt, z_inj, z_injl, z_add, z_addl, z_ladd, z_mul, z_mull, z_lmul, z_neg, z_negl, z_in, z_inl, z_ltT, z_ltF, z_eqF, z_10, z_01, z_litne, z_ne0, z_0ne, z_ne1, z_1ne, z_lt64, z_02, z_03, z_04, z_05, z_12, z_13, z_14, z_15, z_20, z_21, z_23, z_24, z_25, z_30, z_31, z_32, z_34, z_35, z_40, z_41, z_42, z_43, z_45, z_50, z_51, z_52, z_53, z_54]
theorem m_cnt_12 (h : MR B i σ) (hW : Wd σ.1) : MRs B i σ (am_fx am_P (d + 150) 142 0 [some (.ref 874), some (.int 12), none, none] [] (am_wI B i)) (some (.int (nst σ.1 1))) 0 := by
  refine MRs_0 h ?_
  have hM : Md B := h.1.1
  have hw : ∀ s, s < 12042 → am_up2 i 874 0 0 875 s = σ.1 s := fun s hs => by rw [y_up2 (by omega)]; exact h.2.1 s hs
  have hc := hW.1
  have hr := h.2.1
  rw [bk_142_0]
  simp (disch := omega) only [(fun d x0 x1 B i => bk_142_0 d x0 x1 (am_wI B i)), (fun d x0 x1 x2 B i => bk_142_100 d x0 x1 x2 (am_wI B i)), (fun d x0 x1 x2 B i => bk_142_105 d x0 x1 x2 (am_wI B i)), (fun d x0 x1 x2 B i => bk_142_113 d x0 x1 x2 (am_wI B i)), (fun d x0 x1 x2 B i => bk_142_146 d x0 x1 x2 (am_wI B i)), (fun d x0 x1 x2 B i => bk_142_155 d x0 x1 x2 (am_wI B i)), (fun d x0 x1 x2 B i => bk_142_163 d x0 x1 x2 (am_wI B i)), (fun d x0 x1 x2 B i => bk_142_172 d x0 x1 x2 (am_wI B i)), (fun d x0 x1 x2 B i => bk_142_178 d x0 x1 x2 (am_wI B i)), (fun d x0 x1 x2 B i => bk_142_187 d x0 x1 x2 (am_wI B i)), (fun d x0 x1 x2 B i => bk_142_196 d x0 x1 x2 (am_wI B i)), (fun d x0 x1 x2 B i => bk_142_203 d x0 x1 x2 (am_wI B i)), (fun d x0 x1 x2 B i => bk_142_212 d x0 x1 x2 (am_wI B i)), (fun d x0 x1 x2 B i => bk_142_225 d x0 x1 x2 (am_wI B i)), (fun d x0 x1 x2 B i => bk_142_232 d x0 x1 x2 (am_wI B i)), u_12_0, u_12_1, u_12_2, u_12_3, u_12_4, u_12_5, u_12_6, u_12_7, u_12_8, u_12_9, u_12_10, u_12_11, hr, hw, m_stand hM hw hc.2.1 hW.2.2.1, m_inPlace hM hw hc.2.2.1, m_inState hM hw hc.2.2.2.1, m_textOf hM hw hc.2.2.2.2.2.2.2.2.2, m_linesOf hM hw hc.2.2.2.2.2.2.2.2.2, (fun d x0 B i => bk_13_0 d x0 (am_wI B i)), hM, eq_self, ↓reduceIte, y_ckd, y_ck2d, y_ond, y_onn, y_oI, y_oIx, y_oJ, y_oV, y_oVx, y_oR, y_oRn, y_oRx, y_b0, y_b1, y_bi, y_bid, y_wIK, y_wIL, y_wII, y_wIJ, y_wIR, y_wIN, y_wIw, y_sI, ↓reduceIte, Nat.reduceEqDiff, eq_self, true_or, or_true, false_or, or_false, and_true, true_and, false_and, and_false, not_true, not_false_eq_true, tf_T, tf_F, y_up1, y_up2, y_xx, y_nx, y_sJ, y_sR, Int32.reduceLT, y_nxK, y_nxL, y_nxR, y_sJK, y_sJL, y_sJR, y_sJN, y_sRK, y_sRL, y_sRN, z_nat, z_lit, z_lit0, z_lit1, z_in0, z_in1, z_addl0, z_lt, z_ltl, z_llt, z_inj, z_injl, z_add, z_addl, z_ladd, z_mul, z_mull, z_lmul, z_neg, z_negl, z_in, z_inl, z_ltT, z_ltF, z_eqF, z_10, z_01, z_litne, z_ne0, z_0ne, z_ne1, z_1ne, z_lt64, z_02, z_03, z_04, z_05, z_12, z_13, z_14, z_15, z_20, z_21, z_23, z_24, z_25, z_30, z_31, z_32, z_34, z_35, z_40, z_41, z_42, z_43, z_45, z_50, z_51, z_52, z_53, z_54]
theorem f_cnt_13 (h : CR B i σ) (hW : Wd σ.1) : FRs B i σ (am_fx am_P (d + 150) 344 0 [some (.ref 64), some (.int 13)] [] (am_wI B i)) (.inl (some (.int (σ.1 3014)))) := by
  refine FRs_0 h ?_
  have hF : Fc B := h.1.1
  have hY : Yd B 94 := h.1.2.1
  obtain ⟨hb, hT, hP, hS, hG, hE, hM, hC, hX⟩ := h.2.1
  have hc := hW.1
  have e3 := hT.1
  have e5 := hP.1
  have e8 := hS.1
  have e12 := hG.1
  have e15 := hX.1
  rw [bk_344_0]
  simp (disch := omega) only [(fun d x0 x1 B i => bk_267_0 d x0 x1 (am_wI B i)), (fun d x0 B i => bk_267_108 d x0 (am_wI B i)), (fun d x0 B i => bk_267_113 d x0 (am_wI B i)), (fun d x0 B i => bk_267_118 d x0 (am_wI B i)), (fun d x0 B i => bk_267_123 d x0 (am_wI B i)), (fun d x0 B i => bk_267_174 d x0 (am_wI B i)), (fun d x0 B i => bk_267_128 d x0 (am_wI B i)), (fun d x0 B i => bk_267_133 d x0 (am_wI B i)), (fun d x0 B i => bk_267_138 d x0 (am_wI B i)), (fun d x0 B i => bk_267_146 d x0 (am_wI B i)), (fun d x0 B i => bk_267_151 d x0 (am_wI B i)), (fun d x0 B i => bk_267_156 d x0 (am_wI B i)), (fun d x0 B i => bk_267_164 d x0 (am_wI B i)), (fun d x0 B i => bk_267_169 d x0 (am_wI B i)), c_within0 u_w_13, u_13_0, u_13_1, u_13_2, u_13_3, u_13_4, u_13_5, u_13_6, u_13_7, u_13_8, u_13_9, u_13_10, u_13_11, u_13_12, hb.1, hb.2.2.2.1, hb.2.2.2.2.1, hb.2.2.2.2.2.2.2.1, e3, e5, e8, e12, e15, c_stand hY hT hc.2.1, c_countIn hY hP hc.2.2.1, c_onSlips hY hS hc.2.2.2.1, c_lines hY hX hc.2.2.2.2.2.2.2.2.2 hW.2.2.2.2.2.2.2.2.1 hb.1, hF, hY, eq_self, ↓reduceIte, y_ckd, y_ck2d, y_ond, y_onn, y_oI, y_oIx, y_oJ, y_oV, y_oVx, y_oR, y_oRn, y_oRx, y_b0, y_b1, y_bi, y_bid, y_wIK, y_wIL, y_wII, y_wIJ, y_wIR, y_wIN, y_wIw, y_sI, ↓reduceIte, Nat.reduceEqDiff, eq_self, true_or, or_true, false_or, or_false, and_true, true_and, false_and, and_false, not_true, not_false_eq_true, tf_T, tf_F, y_up1, y_up2, y_xx, y_nx, y_sJ, y_sR, Int32.reduceLT, y_nxK, y_nxL, y_nxR, y_sJK, y_sJL, y_sJR, y_sJN, y_sRK, y_sRL, y_sRN, z_nat, z_lit, z_lit0, z_lit1, z_in0, z_in1, z_addl0, z_lt, z_ltl, z_llt, z_inj, z_injl, z_add, z_addl, z_ladd, z_mul, z_mull, z_lmul, z_neg, z_negl, z_in, z_inl, z_ltT, z_ltF, z_eqF, z_10, z_01, z_litne, z_ne0, z_0ne, z_ne1, z_1ne, z_lt64, z_02, z_03, z_04, z_05, z_12, z_13, z_14, z_15, z_20, z_21, z_23, z_24, z_25, z_30, z_31, z_32, z_34, z_35, z_40, z_41, z_42, z_43, z_45, z_50, z_51, z_52, z_53, z_54]
theorem m_cnt_13 (h : MR B i σ) (hW : Wd σ.1) : MRs B i σ (am_fx am_P (d + 150) 142 0 [some (.ref 874), some (.int 13), none, none] [] (am_wI B i)) (some (.int (σ.1 3014))) 0 := by
  refine MRs_0 h ?_
  have hM : Md B := h.1.1
  have hw : ∀ s, s < 12042 → am_up2 i 874 0 0 875 s = σ.1 s := fun s hs => by rw [y_up2 (by omega)]; exact h.2.1 s hs
  have hc := hW.1
  have hr := h.2.1
  rw [bk_142_0]
  simp (disch := omega) only [(fun d x0 x1 B i => bk_142_0 d x0 x1 (am_wI B i)), (fun d x0 x1 x2 B i => bk_142_100 d x0 x1 x2 (am_wI B i)), (fun d x0 x1 x2 B i => bk_142_105 d x0 x1 x2 (am_wI B i)), (fun d x0 x1 x2 B i => bk_142_113 d x0 x1 x2 (am_wI B i)), (fun d x0 x1 x2 B i => bk_142_146 d x0 x1 x2 (am_wI B i)), (fun d x0 x1 x2 B i => bk_142_155 d x0 x1 x2 (am_wI B i)), (fun d x0 x1 x2 B i => bk_142_163 d x0 x1 x2 (am_wI B i)), (fun d x0 x1 x2 B i => bk_142_172 d x0 x1 x2 (am_wI B i)), (fun d x0 x1 x2 B i => bk_142_178 d x0 x1 x2 (am_wI B i)), (fun d x0 x1 x2 B i => bk_142_187 d x0 x1 x2 (am_wI B i)), (fun d x0 x1 x2 B i => bk_142_196 d x0 x1 x2 (am_wI B i)), (fun d x0 x1 x2 B i => bk_142_203 d x0 x1 x2 (am_wI B i)), (fun d x0 x1 x2 B i => bk_142_212 d x0 x1 x2 (am_wI B i)), (fun d x0 x1 x2 B i => bk_142_225 d x0 x1 x2 (am_wI B i)), (fun d x0 x1 x2 B i => bk_142_232 d x0 x1 x2 (am_wI B i)), u_13_0, u_13_1, u_13_2, u_13_3, u_13_4, u_13_5, u_13_6, u_13_7, u_13_8, u_13_9, u_13_10, u_13_11, u_13_12, hr, hw, m_stand hM hw hc.2.1 hW.2.2.1, m_inPlace hM hw hc.2.2.1, m_inState hM hw hc.2.2.2.1, m_textOf hM hw hc.2.2.2.2.2.2.2.2.2, m_linesOf hM hw hc.2.2.2.2.2.2.2.2.2, (fun d x0 B i => bk_13_0 d x0 (am_wI B i)), hM, eq_self, ↓reduceIte, y_ckd, y_ck2d, y_ond, y_onn, y_oI, y_oIx, y_oJ, y_oV, y_oVx, y_oR, y_oRn, y_oRx, y_b0, y_b1, y_bi, y_bid, y_wIK, y_wIL, y_wII, y_wIJ, y_wIR, y_wIN, y_wIw, y_sI, ↓reduceIte, Nat.reduceEqDiff, eq_self, true_or, or_true, false_or, or_false, and_true, true_and, false_and, and_false, not_true, not_false_eq_true, tf_T, tf_F, y_up1, y_up2, y_xx, y_nx, y_sJ, y_sR, Int32.reduceLT, y_nxK, y_nxL, y_nxR, y_sJK, y_sJL, y_sJR, y_sJN, y_sRK, y_sRL, y_sRN, z_nat, z_lit, z_lit0, z_lit1, z_in0, z_in1, z_addl0, z_lt, z_ltl, z_llt, z_inj, z_injl, z_add, z_addl, z_ladd, z_mul, z_mull, z_lmul, z_neg, z_negl, z_in, z_inl, z_ltT, z_ltF, z_eqF, z_10, z_01, z_litne, z_ne0, z_0ne, z_ne1, z_1ne, z_lt64, z_02, z_03, z_04, z_05, z_12, z_13, z_14, z_15, z_20, z_21, z_23, z_24, z_25, z_30, z_31, z_32, z_34, z_35, z_40, z_41, z_42, z_43, z_45, z_50, z_51, z_52, z_53, z_54]
theorem f_cnt_14 (h : CR B i σ) (hW : Wd σ.1) : FRs B i σ (am_fx am_P (d + 150) 344 0 [some (.ref 64), some (.int 14)] [] (am_wI B i)) (.inl (some (.int (σ.1 3019)))) := by
  refine FRs_0 h ?_
  have hF : Fc B := h.1.1
  have hY : Yd B 94 := h.1.2.1
  obtain ⟨hb, hT, hP, hS, hG, hE, hM, hC, hX⟩ := h.2.1
  have hc := hW.1
  have e3 := hT.1
  have e5 := hP.1
  have e8 := hS.1
  have e12 := hG.1
  have e15 := hX.1
  rw [bk_344_0]
  simp (disch := omega) only [(fun d x0 x1 B i => bk_267_0 d x0 x1 (am_wI B i)), (fun d x0 B i => bk_267_108 d x0 (am_wI B i)), (fun d x0 B i => bk_267_113 d x0 (am_wI B i)), (fun d x0 B i => bk_267_118 d x0 (am_wI B i)), (fun d x0 B i => bk_267_123 d x0 (am_wI B i)), (fun d x0 B i => bk_267_174 d x0 (am_wI B i)), (fun d x0 B i => bk_267_128 d x0 (am_wI B i)), (fun d x0 B i => bk_267_133 d x0 (am_wI B i)), (fun d x0 B i => bk_267_138 d x0 (am_wI B i)), (fun d x0 B i => bk_267_146 d x0 (am_wI B i)), (fun d x0 B i => bk_267_151 d x0 (am_wI B i)), (fun d x0 B i => bk_267_156 d x0 (am_wI B i)), (fun d x0 B i => bk_267_164 d x0 (am_wI B i)), (fun d x0 B i => bk_267_169 d x0 (am_wI B i)), c_within0 u_w_14, u_14_0, u_14_1, u_14_2, u_14_3, u_14_4, u_14_5, u_14_6, u_14_7, u_14_8, u_14_9, u_14_10, u_14_11, u_14_12, u_14_13, hb.1, hb.2.2.2.1, hb.2.2.2.2.1, hb.2.2.2.2.2.2.2.1, e3, e5, e8, e12, e15, c_stand hY hT hc.2.1, c_countIn hY hP hc.2.2.1, c_onSlips hY hS hc.2.2.2.1, c_lines hY hX hc.2.2.2.2.2.2.2.2.2 hW.2.2.2.2.2.2.2.2.1 hb.1, hF, hY, eq_self, ↓reduceIte, y_ckd, y_ck2d, y_ond, y_onn, y_oI, y_oIx, y_oJ, y_oV, y_oVx, y_oR, y_oRn, y_oRx, y_b0, y_b1, y_bi, y_bid, y_wIK, y_wIL, y_wII, y_wIJ, y_wIR, y_wIN, y_wIw, y_sI, ↓reduceIte, Nat.reduceEqDiff, eq_self, true_or, or_true, false_or, or_false, and_true, true_and, false_and, and_false, not_true, not_false_eq_true, tf_T, tf_F, y_up1, y_up2, y_xx, y_nx, y_sJ, y_sR, Int32.reduceLT, y_nxK, y_nxL, y_nxR, y_sJK, y_sJL, y_sJR, y_sJN, y_sRK, y_sRL, y_sRN, z_nat, z_lit, z_lit0, z_lit1, z_in0, z_in1, z_addl0, z_lt, z_ltl, z_llt, z_inj, z_injl, z_add, z_addl, z_ladd, z_mul, z_mull, z_lmul, z_neg, z_negl, z_in, z_inl, z_ltT, z_ltF, z_eqF, z_10, z_01, z_litne, z_ne0, z_0ne, z_ne1, z_1ne, z_lt64, z_02, z_03, z_04, z_05, z_12, z_13, z_14, z_15, z_20, z_21, z_23, z_24, z_25, z_30, z_31, z_32, z_34, z_35, z_40, z_41, z_42, z_43, z_45, z_50, z_51, z_52, z_53, z_54]
theorem m_cnt_14 (h : MR B i σ) (hW : Wd σ.1) : MRs B i σ (am_fx am_P (d + 150) 142 0 [some (.ref 874), some (.int 14), none, none] [] (am_wI B i)) (some (.int (σ.1 3019))) 0 := by
  refine MRs_0 h ?_
  have hM : Md B := h.1.1
  have hw : ∀ s, s < 12042 → am_up2 i 874 0 0 875 s = σ.1 s := fun s hs => by rw [y_up2 (by omega)]; exact h.2.1 s hs
  have hc := hW.1
  have hr := h.2.1
  rw [bk_142_0]
  simp (disch := omega) only [(fun d x0 x1 B i => bk_142_0 d x0 x1 (am_wI B i)), (fun d x0 x1 x2 B i => bk_142_100 d x0 x1 x2 (am_wI B i)), (fun d x0 x1 x2 B i => bk_142_105 d x0 x1 x2 (am_wI B i)), (fun d x0 x1 x2 B i => bk_142_113 d x0 x1 x2 (am_wI B i)), (fun d x0 x1 x2 B i => bk_142_146 d x0 x1 x2 (am_wI B i)), (fun d x0 x1 x2 B i => bk_142_155 d x0 x1 x2 (am_wI B i)), (fun d x0 x1 x2 B i => bk_142_163 d x0 x1 x2 (am_wI B i)), (fun d x0 x1 x2 B i => bk_142_172 d x0 x1 x2 (am_wI B i)), (fun d x0 x1 x2 B i => bk_142_178 d x0 x1 x2 (am_wI B i)), (fun d x0 x1 x2 B i => bk_142_187 d x0 x1 x2 (am_wI B i)), (fun d x0 x1 x2 B i => bk_142_196 d x0 x1 x2 (am_wI B i)), (fun d x0 x1 x2 B i => bk_142_203 d x0 x1 x2 (am_wI B i)), (fun d x0 x1 x2 B i => bk_142_212 d x0 x1 x2 (am_wI B i)), (fun d x0 x1 x2 B i => bk_142_225 d x0 x1 x2 (am_wI B i)), (fun d x0 x1 x2 B i => bk_142_232 d x0 x1 x2 (am_wI B i)), u_14_0, u_14_1, u_14_2, u_14_3, u_14_4, u_14_5, u_14_6, u_14_7, u_14_8, u_14_9, u_14_10, u_14_11, u_14_12, u_14_13, hr, hw, m_stand hM hw hc.2.1 hW.2.2.1, m_inPlace hM hw hc.2.2.1, m_inState hM hw hc.2.2.2.1, m_textOf hM hw hc.2.2.2.2.2.2.2.2.2, m_linesOf hM hw hc.2.2.2.2.2.2.2.2.2, (fun d x0 B i => bk_13_0 d x0 (am_wI B i)), hM, eq_self, ↓reduceIte, y_ckd, y_ck2d, y_ond, y_onn, y_oI, y_oIx, y_oJ, y_oV, y_oVx, y_oR, y_oRn, y_oRx, y_b0, y_b1, y_bi, y_bid, y_wIK, y_wIL, y_wII, y_wIJ, y_wIR, y_wIN, y_wIw, y_sI, ↓reduceIte, Nat.reduceEqDiff, eq_self, true_or, or_true, false_or, or_false, and_true, true_and, false_and, and_false, not_true, not_false_eq_true, tf_T, tf_F, y_up1, y_up2, y_xx, y_nx, y_sJ, y_sR, Int32.reduceLT, y_nxK, y_nxL, y_nxR, y_sJK, y_sJL, y_sJR, y_sJN, y_sRK, y_sRL, y_sRN, z_nat, z_lit, z_lit0, z_lit1, z_in0, z_in1, z_addl0, z_lt, z_ltl, z_llt, z_inj, z_injl, z_add, z_addl, z_ladd, z_mul, z_mull, z_lmul, z_neg, z_negl, z_in, z_inl, z_ltT, z_ltF, z_eqF, z_10, z_01, z_litne, z_ne0, z_0ne, z_ne1, z_1ne, z_lt64, z_02, z_03, z_04, z_05, z_12, z_13, z_14, z_15, z_20, z_21, z_23, z_24, z_25, z_30, z_31, z_32, z_34, z_35, z_40, z_41, z_42, z_43, z_45, z_50, z_51, z_52, z_53, z_54]
theorem f_cnt_15 (h : CR B i σ) (hW : Wd σ.1) : FRs B i σ (am_fx am_P (d + 150) 344 0 [some (.ref 64), some (.int 15)] [] (am_wI B i)) (.inl (some (.int (σ.1 3)))) := by
  refine FRs_0 h ?_
  have hF : Fc B := h.1.1
  have hY : Yd B 94 := h.1.2.1
  obtain ⟨hb, hT, hP, hS, hG, hE, hM, hC, hX⟩ := h.2.1
  have hc := hW.1
  have e3 := hT.1
  have e5 := hP.1
  have e8 := hS.1
  have e12 := hG.1
  have e15 := hX.1
  rw [bk_344_0]
  simp (disch := omega) only [(fun d x0 x1 B i => bk_267_0 d x0 x1 (am_wI B i)), (fun d x0 B i => bk_267_108 d x0 (am_wI B i)), (fun d x0 B i => bk_267_113 d x0 (am_wI B i)), (fun d x0 B i => bk_267_118 d x0 (am_wI B i)), (fun d x0 B i => bk_267_123 d x0 (am_wI B i)), (fun d x0 B i => bk_267_174 d x0 (am_wI B i)), (fun d x0 B i => bk_267_128 d x0 (am_wI B i)), (fun d x0 B i => bk_267_133 d x0 (am_wI B i)), (fun d x0 B i => bk_267_138 d x0 (am_wI B i)), (fun d x0 B i => bk_267_146 d x0 (am_wI B i)), (fun d x0 B i => bk_267_151 d x0 (am_wI B i)), (fun d x0 B i => bk_267_156 d x0 (am_wI B i)), (fun d x0 B i => bk_267_164 d x0 (am_wI B i)), (fun d x0 B i => bk_267_169 d x0 (am_wI B i)), c_within0 u_w_15, u_15_0, u_15_1, u_15_2, u_15_3, u_15_4, u_15_5, u_15_6, u_15_7, u_15_8, u_15_9, u_15_10, u_15_11, u_15_12, u_15_13, u_15_14, hb.1, hb.2.2.2.1, hb.2.2.2.2.1, hb.2.2.2.2.2.2.2.1, e3, e5, e8, e12, e15, c_stand hY hT hc.2.1, c_countIn hY hP hc.2.2.1, c_onSlips hY hS hc.2.2.2.1, c_lines hY hX hc.2.2.2.2.2.2.2.2.2 hW.2.2.2.2.2.2.2.2.1 hb.1, hF, hY, eq_self, ↓reduceIte, y_ckd, y_ck2d, y_ond, y_onn, y_oI, y_oIx, y_oJ, y_oV, y_oVx, y_oR, y_oRn, y_oRx, y_b0, y_b1, y_bi, y_bid, y_wIK, y_wIL, y_wII, y_wIJ, y_wIR, y_wIN, y_wIw, y_sI, ↓reduceIte, Nat.reduceEqDiff, eq_self, true_or, or_true, false_or, or_false, and_true, true_and, false_and, and_false, not_true, not_false_eq_true, tf_T, tf_F, y_up1, y_up2, y_xx, y_nx, y_sJ, y_sR, Int32.reduceLT, y_nxK, y_nxL, y_nxR, y_sJK, y_sJL, y_sJR, y_sJN, y_sRK, y_sRL, y_sRN, z_nat, z_lit, z_lit0, z_lit1, z_in0, z_in1, z_addl0, z_lt, z_ltl, z_llt, z_inj, z_injl, z_add, z_addl, z_ladd, z_mul, z_mull, z_lmul, z_neg, z_negl, z_in, z_inl, z_ltT, z_ltF, z_eqF, z_10, z_01, z_litne, z_ne0, z_0ne, z_ne1, z_1ne, z_lt64, z_02, z_03, z_04, z_05, z_12, z_13, z_14, z_15, z_20, z_21, z_23, z_24, z_25, z_30, z_31, z_32, z_34, z_35, z_40, z_41, z_42, z_43, z_45, z_50, z_51, z_52, z_53, z_54]
theorem m_cnt_15 (h : MR B i σ) (hW : Wd σ.1) : MRs B i σ (am_fx am_P (d + 150) 142 0 [some (.ref 874), some (.int 15), none, none] [] (am_wI B i)) (some (.int (σ.1 3))) 0 := by
  refine MRs_0 h ?_
  have hM : Md B := h.1.1
  have hw : ∀ s, s < 12042 → am_up2 i 874 0 0 875 s = σ.1 s := fun s hs => by rw [y_up2 (by omega)]; exact h.2.1 s hs
  have hc := hW.1
  have hr := h.2.1
  rw [bk_142_0]
  simp (disch := omega) only [(fun d x0 x1 B i => bk_142_0 d x0 x1 (am_wI B i)), (fun d x0 x1 x2 B i => bk_142_100 d x0 x1 x2 (am_wI B i)), (fun d x0 x1 x2 B i => bk_142_105 d x0 x1 x2 (am_wI B i)), (fun d x0 x1 x2 B i => bk_142_113 d x0 x1 x2 (am_wI B i)), (fun d x0 x1 x2 B i => bk_142_146 d x0 x1 x2 (am_wI B i)), (fun d x0 x1 x2 B i => bk_142_155 d x0 x1 x2 (am_wI B i)), (fun d x0 x1 x2 B i => bk_142_163 d x0 x1 x2 (am_wI B i)), (fun d x0 x1 x2 B i => bk_142_172 d x0 x1 x2 (am_wI B i)), (fun d x0 x1 x2 B i => bk_142_178 d x0 x1 x2 (am_wI B i)), (fun d x0 x1 x2 B i => bk_142_187 d x0 x1 x2 (am_wI B i)), (fun d x0 x1 x2 B i => bk_142_196 d x0 x1 x2 (am_wI B i)), (fun d x0 x1 x2 B i => bk_142_203 d x0 x1 x2 (am_wI B i)), (fun d x0 x1 x2 B i => bk_142_212 d x0 x1 x2 (am_wI B i)), (fun d x0 x1 x2 B i => bk_142_225 d x0 x1 x2 (am_wI B i)), (fun d x0 x1 x2 B i => bk_142_232 d x0 x1 x2 (am_wI B i)), u_15_0, u_15_1, u_15_2, u_15_3, u_15_4, u_15_5, u_15_6, u_15_7, u_15_8, u_15_9, u_15_10, u_15_11, u_15_12, u_15_13, u_15_14, hr, hw, m_stand hM hw hc.2.1 hW.2.2.1, m_inPlace hM hw hc.2.2.1, m_inState hM hw hc.2.2.2.1, m_textOf hM hw hc.2.2.2.2.2.2.2.2.2, m_linesOf hM hw hc.2.2.2.2.2.2.2.2.2, (fun d x0 B i => bk_13_0 d x0 (am_wI B i)), hM, eq_self, ↓reduceIte, y_ckd, y_ck2d, y_ond, y_onn, y_oI, y_oIx, y_oJ, y_oV, y_oVx, y_oR, y_oRn, y_oRx, y_b0, y_b1, y_bi, y_bid, y_wIK, y_wIL, y_wII, y_wIJ, y_wIR, y_wIN, y_wIw, y_sI, ↓reduceIte, Nat.reduceEqDiff, eq_self, true_or, or_true, false_or, or_false, and_true, true_and, false_and, and_false, not_true, not_false_eq_true, tf_T, tf_F, y_up1, y_up2, y_xx, y_nx, y_sJ, y_sR, Int32.reduceLT, y_nxK, y_nxL, y_nxR, y_sJK, y_sJL, y_sJR, y_sJN, y_sRK, y_sRL, y_sRN, z_nat, z_lit, z_lit0, z_lit1, z_in0, z_in1, z_addl0, z_lt, z_ltl, z_llt, z_inj, z_injl, z_add, z_addl, z_ladd, z_mul, z_mull, z_lmul, z_neg, z_negl, z_in, z_inl, z_ltT, z_ltF, z_eqF, z_10, z_01, z_litne, z_ne0, z_0ne, z_ne1, z_1ne, z_lt64, z_02, z_03, z_04, z_05, z_12, z_13, z_14, z_15, z_20, z_21, z_23, z_24, z_25, z_30, z_31, z_32, z_34, z_35, z_40, z_41, z_42, z_43, z_45, z_50, z_51, z_52, z_53, z_54]
theorem f_cnt_16 (h : CR B i σ) (hW : Wd σ.1) : FRs B i σ (am_fx am_P (d + 150) 344 0 [some (.ref 64), some (.int 16)] [] (am_wI B i)) (.inl (some (.int (σ.1 3541)))) := by
  refine FRs_0 h ?_
  have hF : Fc B := h.1.1
  have hY : Yd B 94 := h.1.2.1
  obtain ⟨hb, hT, hP, hS, hG, hE, hM, hC, hX⟩ := h.2.1
  have hc := hW.1
  have e3 := hT.1
  have e5 := hP.1
  have e8 := hS.1
  have e12 := hG.1
  have e15 := hX.1
  rw [bk_344_0]
  simp (disch := omega) only [(fun d x0 x1 B i => bk_267_0 d x0 x1 (am_wI B i)), (fun d x0 B i => bk_267_108 d x0 (am_wI B i)), (fun d x0 B i => bk_267_113 d x0 (am_wI B i)), (fun d x0 B i => bk_267_118 d x0 (am_wI B i)), (fun d x0 B i => bk_267_123 d x0 (am_wI B i)), (fun d x0 B i => bk_267_174 d x0 (am_wI B i)), (fun d x0 B i => bk_267_128 d x0 (am_wI B i)), (fun d x0 B i => bk_267_133 d x0 (am_wI B i)), (fun d x0 B i => bk_267_138 d x0 (am_wI B i)), (fun d x0 B i => bk_267_146 d x0 (am_wI B i)), (fun d x0 B i => bk_267_151 d x0 (am_wI B i)), (fun d x0 B i => bk_267_156 d x0 (am_wI B i)), (fun d x0 B i => bk_267_164 d x0 (am_wI B i)), (fun d x0 B i => bk_267_169 d x0 (am_wI B i)), c_within0 u_w_16, u_16_0, u_16_1, u_16_2, u_16_3, u_16_4, u_16_5, u_16_6, u_16_7, u_16_8, u_16_9, u_16_10, u_16_11, u_16_12, u_16_13, u_16_14, u_16_15, hb.1, hb.2.2.2.1, hb.2.2.2.2.1, hb.2.2.2.2.2.2.2.1, e3, e5, e8, e12, e15, c_stand hY hT hc.2.1, c_countIn hY hP hc.2.2.1, c_onSlips hY hS hc.2.2.2.1, c_lines hY hX hc.2.2.2.2.2.2.2.2.2 hW.2.2.2.2.2.2.2.2.1 hb.1, hF, hY, eq_self, ↓reduceIte, y_ckd, y_ck2d, y_ond, y_onn, y_oI, y_oIx, y_oJ, y_oV, y_oVx, y_oR, y_oRn, y_oRx, y_b0, y_b1, y_bi, y_bid, y_wIK, y_wIL, y_wII, y_wIJ, y_wIR, y_wIN, y_wIw, y_sI, ↓reduceIte, Nat.reduceEqDiff, eq_self, true_or, or_true, false_or, or_false, and_true, true_and, false_and, and_false, not_true, not_false_eq_true, tf_T, tf_F, y_up1, y_up2, y_xx, y_nx, y_sJ, y_sR, Int32.reduceLT, y_nxK, y_nxL, y_nxR, y_sJK, y_sJL, y_sJR, y_sJN, y_sRK, y_sRL, y_sRN, z_nat, z_lit, z_lit0, z_lit1, z_in0, z_in1, z_addl0, z_lt, z_ltl, z_llt, z_inj, z_injl, z_add, z_addl, z_ladd, z_mul, z_mull, z_lmul, z_neg, z_negl, z_in, z_inl, z_ltT, z_ltF, z_eqF, z_10, z_01, z_litne, z_ne0, z_0ne, z_ne1, z_1ne, z_lt64, z_02, z_03, z_04, z_05, z_12, z_13, z_14, z_15, z_20, z_21, z_23, z_24, z_25, z_30, z_31, z_32, z_34, z_35, z_40, z_41, z_42, z_43, z_45, z_50, z_51, z_52, z_53, z_54]
theorem m_cnt_16 (h : MR B i σ) (hW : Wd σ.1) : MRs B i σ (am_fx am_P (d + 150) 142 0 [some (.ref 874), some (.int 16), none, none] [] (am_wI B i)) (some (.int (σ.1 3541))) 0 := by
  refine MRs_0 h ?_
  have hM : Md B := h.1.1
  have hw : ∀ s, s < 12042 → am_up2 i 874 0 0 875 s = σ.1 s := fun s hs => by rw [y_up2 (by omega)]; exact h.2.1 s hs
  have hc := hW.1
  have hr := h.2.1
  rw [bk_142_0]
  simp (disch := omega) only [(fun d x0 x1 B i => bk_142_0 d x0 x1 (am_wI B i)), (fun d x0 x1 x2 B i => bk_142_100 d x0 x1 x2 (am_wI B i)), (fun d x0 x1 x2 B i => bk_142_105 d x0 x1 x2 (am_wI B i)), (fun d x0 x1 x2 B i => bk_142_113 d x0 x1 x2 (am_wI B i)), (fun d x0 x1 x2 B i => bk_142_146 d x0 x1 x2 (am_wI B i)), (fun d x0 x1 x2 B i => bk_142_155 d x0 x1 x2 (am_wI B i)), (fun d x0 x1 x2 B i => bk_142_163 d x0 x1 x2 (am_wI B i)), (fun d x0 x1 x2 B i => bk_142_172 d x0 x1 x2 (am_wI B i)), (fun d x0 x1 x2 B i => bk_142_178 d x0 x1 x2 (am_wI B i)), (fun d x0 x1 x2 B i => bk_142_187 d x0 x1 x2 (am_wI B i)), (fun d x0 x1 x2 B i => bk_142_196 d x0 x1 x2 (am_wI B i)), (fun d x0 x1 x2 B i => bk_142_203 d x0 x1 x2 (am_wI B i)), (fun d x0 x1 x2 B i => bk_142_212 d x0 x1 x2 (am_wI B i)), (fun d x0 x1 x2 B i => bk_142_225 d x0 x1 x2 (am_wI B i)), (fun d x0 x1 x2 B i => bk_142_232 d x0 x1 x2 (am_wI B i)), u_16_0, u_16_1, u_16_2, u_16_3, u_16_4, u_16_5, u_16_6, u_16_7, u_16_8, u_16_9, u_16_10, u_16_11, u_16_12, u_16_13, u_16_14, u_16_15, hr, hw, m_stand hM hw hc.2.1 hW.2.2.1, m_inPlace hM hw hc.2.2.1, m_inState hM hw hc.2.2.2.1, m_textOf hM hw hc.2.2.2.2.2.2.2.2.2, m_linesOf hM hw hc.2.2.2.2.2.2.2.2.2, (fun d x0 B i => bk_13_0 d x0 (am_wI B i)), hM, eq_self, ↓reduceIte, y_ckd, y_ck2d, y_ond, y_onn, y_oI, y_oIx, y_oJ, y_oV, y_oVx, y_oR, y_oRn, y_oRx, y_b0, y_b1, y_bi, y_bid, y_wIK, y_wIL, y_wII, y_wIJ, y_wIR, y_wIN, y_wIw, y_sI, ↓reduceIte, Nat.reduceEqDiff, eq_self, true_or, or_true, false_or, or_false, and_true, true_and, false_and, and_false, not_true, not_false_eq_true, tf_T, tf_F, y_up1, y_up2, y_xx, y_nx, y_sJ, y_sR, Int32.reduceLT, y_nxK, y_nxL, y_nxR, y_sJK, y_sJL, y_sJR, y_sJN, y_sRK, y_sRL, y_sRN, z_nat, z_lit, z_lit0, z_lit1, z_in0, z_in1, z_addl0, z_lt, z_ltl, z_llt, z_inj, z_injl, z_add, z_addl, z_ladd, z_mul, z_mull, z_lmul, z_neg, z_negl, z_in, z_inl, z_ltT, z_ltF, z_eqF, z_10, z_01, z_litne, z_ne0, z_0ne, z_ne1, z_1ne, z_lt64, z_02, z_03, z_04, z_05, z_12, z_13, z_14, z_15, z_20, z_21, z_23, z_24, z_25, z_30, z_31, z_32, z_34, z_35, z_40, z_41, z_42, z_43, z_45, z_50, z_51, z_52, z_53, z_54]
theorem f_cnt_17 (h : CR B i σ) (hW : Wd σ.1) : FRs B i σ (am_fx am_P (d + 150) 344 0 [some (.ref 64), some (.int 17)] [] (am_wI B i)) (.inl (some (.int (txl σ.1 (txi σ.1 (σ.1 0) (cn σ.1 3541)))))) := by
  refine FRs_0 h ?_
  have hF : Fc B := h.1.1
  have hY : Yd B 94 := h.1.2.1
  obtain ⟨hb, hT, hP, hS, hG, hE, hM, hC, hX⟩ := h.2.1
  have hc := hW.1
  have e3 := hT.1
  have e5 := hP.1
  have e8 := hS.1
  have e12 := hG.1
  have e15 := hX.1
  rw [bk_344_0]
  simp (disch := omega) only [(fun d x0 x1 B i => bk_267_0 d x0 x1 (am_wI B i)), (fun d x0 B i => bk_267_108 d x0 (am_wI B i)), (fun d x0 B i => bk_267_113 d x0 (am_wI B i)), (fun d x0 B i => bk_267_118 d x0 (am_wI B i)), (fun d x0 B i => bk_267_123 d x0 (am_wI B i)), (fun d x0 B i => bk_267_174 d x0 (am_wI B i)), (fun d x0 B i => bk_267_128 d x0 (am_wI B i)), (fun d x0 B i => bk_267_133 d x0 (am_wI B i)), (fun d x0 B i => bk_267_138 d x0 (am_wI B i)), (fun d x0 B i => bk_267_146 d x0 (am_wI B i)), (fun d x0 B i => bk_267_151 d x0 (am_wI B i)), (fun d x0 B i => bk_267_156 d x0 (am_wI B i)), (fun d x0 B i => bk_267_164 d x0 (am_wI B i)), (fun d x0 B i => bk_267_169 d x0 (am_wI B i)), c_within0 u_w_17, u_17_0, u_17_1, u_17_2, u_17_3, u_17_4, u_17_5, u_17_6, u_17_7, u_17_8, u_17_9, u_17_10, u_17_11, u_17_12, u_17_13, u_17_14, u_17_15, u_17_16, hb.1, hb.2.2.2.1, hb.2.2.2.2.1, hb.2.2.2.2.2.2.2.1, e3, e5, e8, e12, e15, c_stand hY hT hc.2.1, c_countIn hY hP hc.2.2.1, c_onSlips hY hS hc.2.2.2.1, c_lines hY hX hc.2.2.2.2.2.2.2.2.2 hW.2.2.2.2.2.2.2.2.1 hb.1, hF, hY, eq_self, ↓reduceIte, y_ckd, y_ck2d, y_ond, y_onn, y_oI, y_oIx, y_oJ, y_oV, y_oVx, y_oR, y_oRn, y_oRx, y_b0, y_b1, y_bi, y_bid, y_wIK, y_wIL, y_wII, y_wIJ, y_wIR, y_wIN, y_wIw, y_sI, ↓reduceIte, Nat.reduceEqDiff, eq_self, true_or, or_true, false_or, or_false, and_true, true_and, false_and, and_false, not_true, not_false_eq_true, tf_T, tf_F, y_up1, y_up2, y_xx, y_nx, y_sJ, y_sR, Int32.reduceLT, y_nxK, y_nxL, y_nxR, y_sJK, y_sJL, y_sJR, y_sJN, y_sRK, y_sRL, y_sRN, z_nat, z_lit, z_lit0, z_lit1, z_in0, z_in1, z_addl0, z_lt, z_ltl, z_llt, z_inj, z_injl, z_add, z_addl, z_ladd, z_mul, z_mull, z_lmul, z_neg, z_negl, z_in, z_inl, z_ltT, z_ltF, z_eqF, z_10, z_01, z_litne, z_ne0, z_0ne, z_ne1, z_1ne, z_lt64, z_02, z_03, z_04, z_05, z_12, z_13, z_14, z_15, z_20, z_21, z_23, z_24, z_25, z_30, z_31, z_32, z_34, z_35, z_40, z_41, z_42, z_43, z_45, z_50, z_51, z_52, z_53, z_54]
theorem m_cnt_17 (h : MR B i σ) (hW : Wd σ.1) : MRs B i σ (am_fx am_P (d + 150) 142 0 [some (.ref 874), some (.int 17), none, none] [] (am_wI B i)) (some (.int (txl σ.1 (txi σ.1 (σ.1 0) (cn σ.1 3541))))) 0 := by
  refine MRs_0 h ?_
  have hM : Md B := h.1.1
  have hw : ∀ s, s < 12042 → am_up2 i 874 0 0 875 s = σ.1 s := fun s hs => by rw [y_up2 (by omega)]; exact h.2.1 s hs
  have hc := hW.1
  have hr := h.2.1
  rw [bk_142_0]
  simp (disch := omega) only [(fun d x0 x1 B i => bk_142_0 d x0 x1 (am_wI B i)), (fun d x0 x1 x2 B i => bk_142_100 d x0 x1 x2 (am_wI B i)), (fun d x0 x1 x2 B i => bk_142_105 d x0 x1 x2 (am_wI B i)), (fun d x0 x1 x2 B i => bk_142_113 d x0 x1 x2 (am_wI B i)), (fun d x0 x1 x2 B i => bk_142_146 d x0 x1 x2 (am_wI B i)), (fun d x0 x1 x2 B i => bk_142_155 d x0 x1 x2 (am_wI B i)), (fun d x0 x1 x2 B i => bk_142_163 d x0 x1 x2 (am_wI B i)), (fun d x0 x1 x2 B i => bk_142_172 d x0 x1 x2 (am_wI B i)), (fun d x0 x1 x2 B i => bk_142_178 d x0 x1 x2 (am_wI B i)), (fun d x0 x1 x2 B i => bk_142_187 d x0 x1 x2 (am_wI B i)), (fun d x0 x1 x2 B i => bk_142_196 d x0 x1 x2 (am_wI B i)), (fun d x0 x1 x2 B i => bk_142_203 d x0 x1 x2 (am_wI B i)), (fun d x0 x1 x2 B i => bk_142_212 d x0 x1 x2 (am_wI B i)), (fun d x0 x1 x2 B i => bk_142_225 d x0 x1 x2 (am_wI B i)), (fun d x0 x1 x2 B i => bk_142_232 d x0 x1 x2 (am_wI B i)), u_17_0, u_17_1, u_17_2, u_17_3, u_17_4, u_17_5, u_17_6, u_17_7, u_17_8, u_17_9, u_17_10, u_17_11, u_17_12, u_17_13, u_17_14, u_17_15, u_17_16, hr, hw, m_stand hM hw hc.2.1 hW.2.2.1, m_inPlace hM hw hc.2.2.1, m_inState hM hw hc.2.2.2.1, m_textOf hM hw hc.2.2.2.2.2.2.2.2.2, m_linesOf hM hw hc.2.2.2.2.2.2.2.2.2, (fun d x0 B i => bk_13_0 d x0 (am_wI B i)), hM, eq_self, ↓reduceIte, y_ckd, y_ck2d, y_ond, y_onn, y_oI, y_oIx, y_oJ, y_oV, y_oVx, y_oR, y_oRn, y_oRx, y_b0, y_b1, y_bi, y_bid, y_wIK, y_wIL, y_wII, y_wIJ, y_wIR, y_wIN, y_wIw, y_sI, ↓reduceIte, Nat.reduceEqDiff, eq_self, true_or, or_true, false_or, or_false, and_true, true_and, false_and, and_false, not_true, not_false_eq_true, tf_T, tf_F, y_up1, y_up2, y_xx, y_nx, y_sJ, y_sR, Int32.reduceLT, y_nxK, y_nxL, y_nxR, y_sJK, y_sJL, y_sJR, y_sJN, y_sRK, y_sRL, y_sRN, z_nat, z_lit, z_lit0, z_lit1, z_in0, z_in1, z_addl0, z_lt, z_ltl, z_llt, z_inj, z_injl, z_add, z_addl, z_ladd, z_mul, z_mull, z_lmul, z_neg, z_negl, z_in, z_inl, z_ltT, z_ltF, z_eqF, z_10, z_01, z_litne, z_ne0, z_0ne, z_ne1, z_1ne, z_lt64, z_02, z_03, z_04, z_05, z_12, z_13, z_14, z_15, z_20, z_21, z_23, z_24, z_25, z_30, z_31, z_32, z_34, z_35, z_40, z_41, z_42, z_43, z_45, z_50, z_51, z_52, z_53, z_54]
theorem f_cnt_18 (h : CR B i σ) (hW : Wd σ.1) : FRs B i σ (am_fx am_P (d + 150) 344 0 [some (.ref 64), some (.int 18)] [] (am_wI B i)) (.inl (some (.int (σ.1 4)))) := by
  refine FRs_0 h ?_
  have hF : Fc B := h.1.1
  have hY : Yd B 94 := h.1.2.1
  obtain ⟨hb, hT, hP, hS, hG, hE, hM, hC, hX⟩ := h.2.1
  have hc := hW.1
  have e3 := hT.1
  have e5 := hP.1
  have e8 := hS.1
  have e12 := hG.1
  have e15 := hX.1
  rw [bk_344_0]
  simp (disch := omega) only [(fun d x0 x1 B i => bk_267_0 d x0 x1 (am_wI B i)), (fun d x0 B i => bk_267_108 d x0 (am_wI B i)), (fun d x0 B i => bk_267_113 d x0 (am_wI B i)), (fun d x0 B i => bk_267_118 d x0 (am_wI B i)), (fun d x0 B i => bk_267_123 d x0 (am_wI B i)), (fun d x0 B i => bk_267_174 d x0 (am_wI B i)), (fun d x0 B i => bk_267_128 d x0 (am_wI B i)), (fun d x0 B i => bk_267_133 d x0 (am_wI B i)), (fun d x0 B i => bk_267_138 d x0 (am_wI B i)), (fun d x0 B i => bk_267_146 d x0 (am_wI B i)), (fun d x0 B i => bk_267_151 d x0 (am_wI B i)), (fun d x0 B i => bk_267_156 d x0 (am_wI B i)), (fun d x0 B i => bk_267_164 d x0 (am_wI B i)), (fun d x0 B i => bk_267_169 d x0 (am_wI B i)), c_within0 u_w_18, u_18_0, u_18_1, u_18_2, u_18_3, u_18_4, u_18_5, u_18_6, u_18_7, u_18_8, u_18_9, u_18_10, u_18_11, u_18_12, u_18_13, u_18_14, u_18_15, u_18_16, u_18_17, hb.1, hb.2.2.2.1, hb.2.2.2.2.1, hb.2.2.2.2.2.2.2.1, e3, e5, e8, e12, e15, c_stand hY hT hc.2.1, c_countIn hY hP hc.2.2.1, c_onSlips hY hS hc.2.2.2.1, c_lines hY hX hc.2.2.2.2.2.2.2.2.2 hW.2.2.2.2.2.2.2.2.1 hb.1, hF, hY, eq_self, ↓reduceIte, y_ckd, y_ck2d, y_ond, y_onn, y_oI, y_oIx, y_oJ, y_oV, y_oVx, y_oR, y_oRn, y_oRx, y_b0, y_b1, y_bi, y_bid, y_wIK, y_wIL, y_wII, y_wIJ, y_wIR, y_wIN, y_wIw, y_sI, ↓reduceIte, Nat.reduceEqDiff, eq_self, true_or, or_true, false_or, or_false, and_true, true_and, false_and, and_false, not_true, not_false_eq_true, tf_T, tf_F, y_up1, y_up2, y_xx, y_nx, y_sJ, y_sR, Int32.reduceLT, y_nxK, y_nxL, y_nxR, y_sJK, y_sJL, y_sJR, y_sJN, y_sRK, y_sRL, y_sRN, z_nat, z_lit, z_lit0, z_lit1, z_in0, z_in1, z_addl0, z_lt, z_ltl, z_llt, z_inj, z_injl, z_add, z_addl, z_ladd, z_mul, z_mull, z_lmul, z_neg, z_negl, z_in, z_inl, z_ltT, z_ltF, z_eqF, z_10, z_01, z_litne, z_ne0, z_0ne, z_ne1, z_1ne, z_lt64, z_02, z_03, z_04, z_05, z_12, z_13, z_14, z_15, z_20, z_21, z_23, z_24, z_25, z_30, z_31, z_32, z_34, z_35, z_40, z_41, z_42, z_43, z_45, z_50, z_51, z_52, z_53, z_54]
theorem m_cnt_18 (h : MR B i σ) (hW : Wd σ.1) : MRs B i σ (am_fx am_P (d + 150) 142 0 [some (.ref 874), some (.int 18), none, none] [] (am_wI B i)) (some (.int (σ.1 4))) 0 := by
  refine MRs_0 h ?_
  have hM : Md B := h.1.1
  have hw : ∀ s, s < 12042 → am_up2 i 874 0 0 875 s = σ.1 s := fun s hs => by rw [y_up2 (by omega)]; exact h.2.1 s hs
  have hc := hW.1
  have hr := h.2.1
  rw [bk_142_0]
  simp (disch := omega) only [(fun d x0 x1 B i => bk_142_0 d x0 x1 (am_wI B i)), (fun d x0 x1 x2 B i => bk_142_100 d x0 x1 x2 (am_wI B i)), (fun d x0 x1 x2 B i => bk_142_105 d x0 x1 x2 (am_wI B i)), (fun d x0 x1 x2 B i => bk_142_113 d x0 x1 x2 (am_wI B i)), (fun d x0 x1 x2 B i => bk_142_146 d x0 x1 x2 (am_wI B i)), (fun d x0 x1 x2 B i => bk_142_155 d x0 x1 x2 (am_wI B i)), (fun d x0 x1 x2 B i => bk_142_163 d x0 x1 x2 (am_wI B i)), (fun d x0 x1 x2 B i => bk_142_172 d x0 x1 x2 (am_wI B i)), (fun d x0 x1 x2 B i => bk_142_178 d x0 x1 x2 (am_wI B i)), (fun d x0 x1 x2 B i => bk_142_187 d x0 x1 x2 (am_wI B i)), (fun d x0 x1 x2 B i => bk_142_196 d x0 x1 x2 (am_wI B i)), (fun d x0 x1 x2 B i => bk_142_203 d x0 x1 x2 (am_wI B i)), (fun d x0 x1 x2 B i => bk_142_212 d x0 x1 x2 (am_wI B i)), (fun d x0 x1 x2 B i => bk_142_225 d x0 x1 x2 (am_wI B i)), (fun d x0 x1 x2 B i => bk_142_232 d x0 x1 x2 (am_wI B i)), u_18_0, u_18_1, u_18_2, u_18_3, u_18_4, u_18_5, u_18_6, u_18_7, u_18_8, u_18_9, u_18_10, u_18_11, u_18_12, u_18_13, u_18_14, u_18_15, u_18_16, u_18_17, hr, hw, m_stand hM hw hc.2.1 hW.2.2.1, m_inPlace hM hw hc.2.2.1, m_inState hM hw hc.2.2.2.1, m_textOf hM hw hc.2.2.2.2.2.2.2.2.2, m_linesOf hM hw hc.2.2.2.2.2.2.2.2.2, (fun d x0 B i => bk_13_0 d x0 (am_wI B i)), hM, eq_self, ↓reduceIte, y_ckd, y_ck2d, y_ond, y_onn, y_oI, y_oIx, y_oJ, y_oV, y_oVx, y_oR, y_oRn, y_oRx, y_b0, y_b1, y_bi, y_bid, y_wIK, y_wIL, y_wII, y_wIJ, y_wIR, y_wIN, y_wIw, y_sI, ↓reduceIte, Nat.reduceEqDiff, eq_self, true_or, or_true, false_or, or_false, and_true, true_and, false_and, and_false, not_true, not_false_eq_true, tf_T, tf_F, y_up1, y_up2, y_xx, y_nx, y_sJ, y_sR, Int32.reduceLT, y_nxK, y_nxL, y_nxR, y_sJK, y_sJL, y_sJR, y_sJN, y_sRK, y_sRL, y_sRN, z_nat, z_lit, z_lit0, z_lit1, z_in0, z_in1, z_addl0, z_lt, z_ltl, z_llt, z_inj, z_injl, z_add, z_addl, z_ladd, z_mul, z_mull, z_lmul, z_neg, z_negl, z_in, z_inl, z_ltT, z_ltF, z_eqF, z_10, z_01, z_litne, z_ne0, z_0ne, z_ne1, z_1ne, z_lt64, z_02, z_03, z_04, z_05, z_12, z_13, z_14, z_15, z_20, z_21, z_23, z_24, z_25, z_30, z_31, z_32, z_34, z_35, z_40, z_41, z_42, z_43, z_45, z_50, z_51, z_52, z_53, z_54]
end Count3
