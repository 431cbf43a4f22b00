theorem xlaw_12 : xblk xlf 180 xt_356_12 = true := by decide +kernel
theorem xlaw_13 : xblk xlf 195 xt_356_13 = true := by decide +kernel
theorem xlaw_14 : xblk xlf 210 xt_356_14 = true := by decide +kernel
theorem xlaw_15 : xblk xlf 225 xt_356_15 = true := by decide +kernel
theorem xlaw_16 : xblk xlf 240 xt_356_16 = true := by decide +kernel
theorem xlaw_17 : xblk xlf 255 xt_356_17 = true := by decide +kernel
