/-! EVERY ROW IS RIGHT, by twenty methods -/
theorem rk_4 : rb_l 80 tm_4 = true := by decide +kernel
theorem rk_5 : rb_l 100 tm_5 = true := by decide +kernel
theorem rk_6 : rb_l 120 tm_6 = true := by decide +kernel
theorem rk_7 : rb_l 140 tm_7 = true := by decide +kernel
