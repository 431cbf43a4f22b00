set_option maxRecDepth 1000000 in
theorem lwg5_7 : lgrp lwP5 lwM5 lwK5 lwW5 3000 (1701, 99999) = true := by decide +kernel
