/-! EVERY ROW IS RIGHT, by twenty methods -/
theorem rk_0 : rb_l 0 tm_0 = true := by decide +kernel
theorem rk_1 : rb_l 20 tm_1 = true := by decide +kernel
theorem rk_2 : rb_l 40 tm_2 = true := by decide +kernel
theorem rk_3 : rb_l 60 tm_3 = true := by decide +kernel
