set_option maxRecDepth 1000000 in
theorem lwg5_6 : lgrp lwP5 lwM5 lwK5 lwW5 3000 (1401, 1700) = true := by decide +kernel
