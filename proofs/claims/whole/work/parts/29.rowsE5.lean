/-! EVERY ROW IS RIGHT, the last methods: the end -/
theorem rg_len : tb_397.length = 229 := by decide +kernel
theorem rg_all (i : Nat) (r : List (Option am_row)) (h : am_nth tb_397 i = some r) : (decide (r.length ≤ 16) && rb_r 397 (16 * (0 + i)) r) = true := by
  have hl := rb_nth_lt _ i r h
  rw [rg_len] at hl
  rw [Nat.zero_add]
  by_cases q0 : i < 8
  · exact rb_g_at 8 0 rg_0 i r (by omega) (by omega) h
  by_cases q8 : i < 16
  · exact rb_g_at 8 8 rg_8 i r (by omega) (by omega) h
  by_cases q16 : i < 24
  · exact rb_g_at 8 16 rg_16 i r (by omega) (by omega) h
  by_cases q24 : i < 32
  · exact rb_g_at 8 24 rg_24 i r (by omega) (by omega) h
  by_cases q32 : i < 40
  · exact rb_g_at 8 32 rg_32 i r (by omega) (by omega) h
  by_cases q40 : i < 48
  · exact rb_g_at 8 40 rg_40 i r (by omega) (by omega) h
  by_cases q48 : i < 56
  · exact rb_g_at 8 48 rg_48 i r (by omega) (by omega) h
  by_cases q56 : i < 64
  · exact rb_g_at 8 56 rg_56 i r (by omega) (by omega) h
  by_cases q64 : i < 68
  · exact rb_g_at 4 64 rg_64 i r (by omega) (by omega) h
  by_cases q68 : i < 72
  · exact rb_g_at 4 68 rg_68 i r (by omega) (by omega) h
  by_cases q72 : i < 76
  · exact rb_g_at 4 72 rg_72 i r (by omega) (by omega) h
  by_cases q76 : i < 80
  · exact rb_g_at 4 76 rg_76 i r (by omega) (by omega) h
  by_cases q80 : i < 84
  · exact rb_g_at 4 80 rg_80 i r (by omega) (by omega) h
  by_cases q84 : i < 88
  · exact rb_g_at 4 84 rg_84 i r (by omega) (by omega) h
  by_cases q88 : i < 92
  · exact rb_g_at 4 88 rg_88 i r (by omega) (by omega) h
  by_cases q92 : i < 96
  · exact rb_g_at 4 92 rg_92 i r (by omega) (by omega) h
  by_cases q96 : i < 100
  · exact rb_g_at 4 96 rg_96 i r (by omega) (by omega) h
  by_cases q100 : i < 104
  · exact rb_g_at 4 100 rg_100 i r (by omega) (by omega) h
  by_cases q104 : i < 108
  · exact rb_g_at 4 104 rg_104 i r (by omega) (by omega) h
  by_cases q108 : i < 112
  · exact rb_g_at 4 108 rg_108 i r (by omega) (by omega) h
  by_cases q112 : i < 116
  · exact rb_g_at 4 112 rg_112 i r (by omega) (by omega) h
  by_cases q116 : i < 120
  · exact rb_g_at 4 116 rg_116 i r (by omega) (by omega) h
  by_cases q120 : i < 124
  · exact rb_g_at 4 120 rg_120 i r (by omega) (by omega) h
  by_cases q124 : i < 128
  · exact rb_g_at 4 124 rg_124 i r (by omega) (by omega) h
  by_cases q128 : i < 130
  · exact rb_g_at 2 128 rg_128 i r (by omega) (by omega) h
  by_cases q130 : i < 132
  · exact rb_g_at 2 130 rg_130 i r (by omega) (by omega) h
  by_cases q132 : i < 134
  · exact rb_g_at 2 132 rg_132 i r (by omega) (by omega) h
  by_cases q134 : i < 136
  · exact rb_g_at 2 134 rg_134 i r (by omega) (by omega) h
  by_cases q136 : i < 138
  · exact rb_g_at 2 136 rg_136 i r (by omega) (by omega) h
  by_cases q138 : i < 140
  · exact rb_g_at 2 138 rg_138 i r (by omega) (by omega) h
  by_cases q140 : i < 142
  · exact rb_g_at 2 140 rg_140 i r (by omega) (by omega) h
  by_cases q142 : i < 144
  · exact rb_g_at 2 142 rg_142 i r (by omega) (by omega) h
  by_cases q144 : i < 146
  · exact rb_g_at 2 144 rg_144 i r (by omega) (by omega) h
  by_cases q146 : i < 148
  · exact rb_g_at 2 146 rg_146 i r (by omega) (by omega) h
  by_cases q148 : i < 150
  · exact rb_g_at 2 148 rg_148 i r (by omega) (by omega) h
  by_cases q150 : i < 152
  · exact rb_g_at 2 150 rg_150 i r (by omega) (by omega) h
  by_cases q152 : i < 154
  · exact rb_g_at 2 152 rg_152 i r (by omega) (by omega) h
  by_cases q154 : i < 156
  · exact rb_g_at 2 154 rg_154 i r (by omega) (by omega) h
  by_cases q156 : i < 158
  · exact rb_g_at 2 156 rg_156 i r (by omega) (by omega) h
  by_cases q158 : i < 160
  · exact rb_g_at 2 158 rg_158 i r (by omega) (by omega) h
  by_cases q160 : i < 162
  · exact rb_g_at 2 160 rg_160 i r (by omega) (by omega) h
  by_cases q162 : i < 164
  · exact rb_g_at 2 162 rg_162 i r (by omega) (by omega) h
  by_cases q164 : i < 166
  · exact rb_g_at 2 164 rg_164 i r (by omega) (by omega) h
  by_cases q166 : i < 168
  · exact rb_g_at 2 166 rg_166 i r (by omega) (by omega) h
  by_cases q168 : i < 170
  · exact rb_g_at 2 168 rg_168 i r (by omega) (by omega) h
  by_cases q170 : i < 172
  · exact rb_g_at 2 170 rg_170 i r (by omega) (by omega) h
  by_cases q172 : i < 174
  · exact rb_g_at 2 172 rg_172 i r (by omega) (by omega) h
  by_cases q174 : i < 176
  · exact rb_g_at 2 174 rg_174 i r (by omega) (by omega) h
  by_cases q176 : i < 178
  · exact rb_g_at 2 176 rg_176 i r (by omega) (by omega) h
  by_cases q178 : i < 180
  · exact rb_g_at 2 178 rg_178 i r (by omega) (by omega) h
  by_cases q180 : i < 182
  · exact rb_g_at 2 180 rg_180 i r (by omega) (by omega) h
  by_cases q182 : i < 184
  · exact rb_g_at 2 182 rg_182 i r (by omega) (by omega) h
  by_cases q184 : i < 186
  · exact rb_g_at 2 184 rg_184 i r (by omega) (by omega) h
  by_cases q186 : i < 188
  · exact rb_g_at 2 186 rg_186 i r (by omega) (by omega) h
  by_cases q188 : i < 190
  · exact rb_g_at 2 188 rg_188 i r (by omega) (by omega) h
  by_cases q190 : i < 192
  · exact rb_g_at 2 190 rg_190 i r (by omega) (by omega) h
  by_cases q192 : i < 194
  · exact rb_g_at 2 192 rg_192 i r (by omega) (by omega) h
  by_cases q194 : i < 196
  · exact rb_g_at 2 194 rg_194 i r (by omega) (by omega) h
  by_cases q196 : i < 198
  · exact rb_g_at 2 196 rg_196 i r (by omega) (by omega) h
  by_cases q198 : i < 200
  · exact rb_g_at 2 198 rg_198 i r (by omega) (by omega) h
  by_cases q200 : i < 202
  · exact rb_g_at 2 200 rg_200 i r (by omega) (by omega) h
  by_cases q202 : i < 204
  · exact rb_g_at 2 202 rg_202 i r (by omega) (by omega) h
  by_cases q204 : i < 206
  · exact rb_g_at 2 204 rg_204 i r (by omega) (by omega) h
  by_cases q206 : i < 208
  · exact rb_g_at 2 206 rg_206 i r (by omega) (by omega) h
  by_cases q208 : i < 210
  · exact rb_g_at 2 208 rg_208 i r (by omega) (by omega) h
  by_cases q210 : i < 212
  · exact rb_g_at 2 210 rg_210 i r (by omega) (by omega) h
  by_cases q212 : i < 214
  · exact rb_g_at 2 212 rg_212 i r (by omega) (by omega) h
  by_cases q214 : i < 216
  · exact rb_g_at 2 214 rg_214 i r (by omega) (by omega) h
  by_cases q216 : i < 218
  · exact rb_g_at 2 216 rg_216 i r (by omega) (by omega) h
  by_cases q218 : i < 220
  · exact rb_g_at 2 218 rg_218 i r (by omega) (by omega) h
  by_cases q220 : i < 222
  · exact rb_g_at 2 220 rg_220 i r (by omega) (by omega) h
  by_cases q222 : i < 224
  · exact rb_g_at 2 222 rg_222 i r (by omega) (by omega) h
  by_cases q224 : i < 226
  · exact rb_g_at 2 224 rg_224 i r (by omega) (by omega) h
  by_cases q226 : i < 228
  · exact rb_g_at 2 226 rg_226 i r (by omega) (by omega) h
  by_cases q228 : i < 230
  · exact rb_g_at 2 228 rg_228 i r (by omega) (by omega) h
  omega
theorem rk_19a : rb_l 380 (tm_19.take 17) = true := by decide +kernel
theorem rk_19b : rb_l 397 [(tb_397, 7, 1, [])] = true := by
  unfold rb_l
  rw [Bool.and_eq_true, Bool.and_eq_true]
  exact ⟨by decide +kernel, rb_t_of _ 0 rg_all, rfl⟩
theorem rk_19 : rb_l 380 tm_19 = true := by
  have e1 : 380 + (tm_19.take 17).length = 397 := by decide +kernel
  have e2 : tm_19.take 17 ++ [(tb_397, 7, 1, [])] = tm_19 := rfl
  have h := rb_l_app (tm_19.take 17) [(tb_397, 7, 1, [])] 380 rk_19a (by rw [e1]; exact rk_19b)
  rw [e2] at h
  exact h
