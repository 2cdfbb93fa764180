/-! EVERY ROW IS RIGHT, the law's own method, the second half -/
theorem rg_22 : rb_g 397 tb_397 176 8 = true := by decide +kernel
theorem rg_23 : rb_g 397 tb_397 184 8 = true := by decide +kernel
theorem rg_24 : rb_g 397 tb_397 192 8 = true := by decide +kernel
theorem rg_25 : rb_g 397 tb_397 200 8 = true := by decide +kernel
theorem rg_26 : rb_g 397 tb_397 208 8 = true := by decide +kernel
theorem rg_27 : rb_g 397 tb_397 216 8 = true := by decide +kernel
theorem rg_28 : rb_g 397 tb_397 224 8 = true := by decide +kernel
