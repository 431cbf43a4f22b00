theorem xlaw_18 : xblk xlf 270 xt_356_18 = true := by decide +kernel
