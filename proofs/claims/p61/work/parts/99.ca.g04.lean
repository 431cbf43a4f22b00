set_option maxRecDepth 1000000 in
theorem lwg5_4 : lgrp lwP5 lwM5 lwK5 lwW5 3000 (638, 1000) = true := by decide +kernel
