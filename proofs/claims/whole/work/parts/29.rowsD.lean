/-! EVERY ROW IS RIGHT, by twenty methods -/
theorem rk_12 : rb_l 240 tm_12 = true := by decide +kernel
theorem rk_13 : rb_l 260 tm_13 = true := by decide +kernel
theorem rk_14 : rb_l 280 tm_14 = true := by decide +kernel
theorem rk_15 : rb_l 300 tm_15 = true := by decide +kernel
