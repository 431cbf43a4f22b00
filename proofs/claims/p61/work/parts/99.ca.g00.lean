set_option maxRecDepth 1000000 in
theorem lwg5_0 : lgrp lwP5 lwM5 lwK5 lwW5 3000 (0, 409) = true := by decide +kernel
