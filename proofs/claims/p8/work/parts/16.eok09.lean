theorem xlaw_6 : xblk xlf 90 xt_356_6 = true := by decide +kernel
theorem xlaw_7 : xblk xlf 105 xt_356_7 = true := by decide +kernel
theorem xlaw_8 : xblk xlf 120 xt_356_8 = true := by decide +kernel
theorem xlaw_9 : xblk xlf 135 xt_356_9 = true := by decide +kernel
theorem xlaw_10 : xblk xlf 150 xt_356_10 = true := by decide +kernel
theorem xlaw_11 : xblk xlf 165 xt_356_11 = true := by decide +kernel
