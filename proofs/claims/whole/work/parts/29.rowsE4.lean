/-! EVERY ROW IS RIGHT, the last methods: the end -/
theorem rg_len : tb_397.length = 229 := by decide +kernel
theorem rg_all (i : Nat) (r : List (Option am_row)) (h : am_nth tb_397 i = some r) : (decide (r.length ≤ 16) && rb_r 397 (16 * (0 + i)) r) = true := by
  have hl := rb_nth_lt _ i r h
  rw [rg_len] at hl
  rw [Nat.zero_add]
  by_cases q0 : i < 8
  · exact rb_g_at 8 0 rg_0 i r (by omega) (by omega) h
  by_cases q1 : i < 16
  · exact rb_g_at 8 8 rg_1 i r (by omega) (by omega) h
  by_cases q2 : i < 24
  · exact rb_g_at 8 16 rg_2 i r (by omega) (by omega) h
  by_cases q3 : i < 32
  · exact rb_g_at 8 24 rg_3 i r (by omega) (by omega) h
  by_cases q4 : i < 40
  · exact rb_g_at 8 32 rg_4 i r (by omega) (by omega) h
  by_cases q5 : i < 48
  · exact rb_g_at 8 40 rg_5 i r (by omega) (by omega) h
  by_cases q6 : i < 56
  · exact rb_g_at 8 48 rg_6 i r (by omega) (by omega) h
  by_cases q7 : i < 64
  · exact rb_g_at 8 56 rg_7 i r (by omega) (by omega) h
  by_cases q8 : i < 72
  · exact rb_g_at 8 64 rg_8 i r (by omega) (by omega) h
  by_cases q9 : i < 80
  · exact rb_g_at 8 72 rg_9 i r (by omega) (by omega) h
  by_cases q10 : i < 88
  · exact rb_g_at 8 80 rg_10 i r (by omega) (by omega) h
  by_cases q11 : i < 96
  · exact rb_g_at 8 88 rg_11 i r (by omega) (by omega) h
  by_cases q12 : i < 104
  · exact rb_g_at 8 96 rg_12 i r (by omega) (by omega) h
  by_cases q13 : i < 112
  · exact rb_g_at 8 104 rg_13 i r (by omega) (by omega) h
  by_cases q14 : i < 120
  · exact rb_g_at 8 112 rg_14 i r (by omega) (by omega) h
  by_cases q15 : i < 128
  · exact rb_g_at 8 120 rg_15 i r (by omega) (by omega) h
  by_cases q16 : i < 136
  · exact rb_g_at 8 128 rg_16 i r (by omega) (by omega) h
  by_cases q17 : i < 144
  · exact rb_g_at 8 136 rg_17 i r (by omega) (by omega) h
  by_cases q18 : i < 152
  · exact rb_g_at 8 144 rg_18 i r (by omega) (by omega) h
  by_cases q19 : i < 160
  · exact rb_g_at 8 152 rg_19 i r (by omega) (by omega) h
  by_cases q20 : i < 168
  · exact rb_g_at 8 160 rg_20 i r (by omega) (by omega) h
  by_cases q21 : i < 176
  · exact rb_g_at 8 168 rg_21 i r (by omega) (by omega) h
  by_cases q22 : i < 184
  · exact rb_g_at 8 176 rg_22 i r (by omega) (by omega) h
  by_cases q23 : i < 192
  · exact rb_g_at 8 184 rg_23 i r (by omega) (by omega) h
  by_cases p0 : i < 194
  · exact rb_g_at 2 192 rh_0 i r (by omega) (by omega) h
  by_cases p1 : i < 196
  · exact rb_g_at 2 194 rh_1 i r (by omega) (by omega) h
  by_cases p2 : i < 198
  · exact rb_g_at 2 196 rh_2 i r (by omega) (by omega) h
  by_cases p3 : i < 200
  · exact rb_g_at 2 198 rh_3 i r (by omega) (by omega) h
  by_cases p4 : i < 202
  · exact rb_g_at 2 200 rh_4 i r (by omega) (by omega) h
  by_cases p5 : i < 204
  · exact rb_g_at 2 202 rh_5 i r (by omega) (by omega) h
  by_cases p6 : i < 206
  · exact rb_g_at 2 204 rh_6 i r (by omega) (by omega) h
  by_cases p7 : i < 208
  · exact rb_g_at 2 206 rh_7 i r (by omega) (by omega) h
  by_cases p8 : i < 210
  · exact rb_g_at 2 208 rh_8 i r (by omega) (by omega) h
  by_cases p9 : i < 212
  · exact rb_g_at 2 210 rh_9 i r (by omega) (by omega) h
  by_cases p10 : i < 214
  · exact rb_g_at 2 212 rh_10 i r (by omega) (by omega) h
  by_cases p11 : i < 216
  · exact rb_g_at 2 214 rh_11 i r (by omega) (by omega) h
  by_cases p12 : i < 218
  · exact rb_g_at 2 216 rh_12 i r (by omega) (by omega) h
  by_cases p13 : i < 220
  · exact rb_g_at 2 218 rh_13 i r (by omega) (by omega) h
  by_cases p14 : i < 222
  · exact rb_g_at 2 220 rh_14 i r (by omega) (by omega) h
  by_cases p15 : i < 224
  · exact rb_g_at 2 222 rh_15 i r (by omega) (by omega) h
  by_cases p16 : i < 226
  · exact rb_g_at 2 224 rh_16 i r (by omega) (by omega) h
  by_cases p17 : i < 228
  · exact rb_g_at 2 226 rh_17 i r (by omega) (by omega) h
  by_cases p18 : i < 230
  · exact rb_g_at 2 228 rh_18 i r (by omega) (by omega) h
  omega
theorem rk_19a : rb_l 380 (tm_19.take 17) = true := by decide +kernel
theorem rk_19b : rb_l 397 [(tb_397, 7, 1, [])] = true := by
  unfold rb_l
  rw [Bool.and_eq_true, Bool.and_eq_true]
  exact ⟨by decide +kernel, rb_t_of _ 0 rg_all, rfl⟩
theorem rk_19 : rb_l 380 tm_19 = true := by
  have e1 : 380 + (tm_19.take 17).length = 397 := by decide +kernel
  have e2 : tm_19.take 17 ++ [(tb_397, 7, 1, [])] = tm_19 := rfl
  have h := rb_l_app (tm_19.take 17) [(tb_397, 7, 1, [])] 380 rk_19a (by rw [e1]; exact rk_19b)
  rw [e2] at h
  exact h
