/-! EVERY ROW IS RIGHT, the last methods -/
theorem rk_19 : rb_l 380 tm_19 = true := by decide +kernel
