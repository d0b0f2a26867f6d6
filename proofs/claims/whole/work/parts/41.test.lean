set_option maxRecDepth 20000 in
theorem tg_c : wsX3_best.all goodWord = true := by decide +kernel
