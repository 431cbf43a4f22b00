set_option maxRecDepth 1000000 in
theorem lwg5_5 : lgrp lwP5 lwM5 lwK5 lwW5 3000 (1001, 1400) = true := by decide +kernel
