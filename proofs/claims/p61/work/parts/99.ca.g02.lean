set_option maxRecDepth 1000000 in
theorem lwg5_2 : lgrp lwP5 lwM5 lwK5 lwW5 3000 (506, 568) = true := by decide +kernel
