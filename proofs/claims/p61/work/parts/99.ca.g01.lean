set_option maxRecDepth 1000000 in
theorem lwg5_1 : lgrp lwP5 lwM5 lwK5 lwW5 3000 (410, 505) = true := by decide +kernel
