/-! EVERY ROW IS RIGHT, by twenty methods -/
theorem rk_8 : rb_l 160 tm_8 = true := by decide +kernel
theorem rk_9 : rb_l 180 tm_9 = true := by decide +kernel
theorem rk_10 : rb_l 200 tm_10 = true := by decide +kernel
theorem rk_11 : rb_l 220 tm_11 = true := by decide +kernel
