set_option maxRecDepth 1000000 in
theorem lwg5_3 : lgrp lwP5 lwM5 lwK5 lwW5 3000 (569, 637) = true := by decide +kernel
