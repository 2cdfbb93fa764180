/-! EVERY ROW IS RIGHT, by twenty methods -/
theorem rk_16 : rb_l 320 tm_16 = true := by decide +kernel
theorem rk_17 : rb_l 340 tm_17 = true := by decide +kernel
theorem rk_18 : rb_l 360 tm_18 = true := by decide +kernel
