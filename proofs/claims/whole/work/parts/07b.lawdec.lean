set_option maxRecDepth 100000 in
set_option maxHeartbeats 8000000 in
theorem dc_Law6 : ax_cr code 300 30 tr_Law_law = true := by decide +kernel
set_option maxRecDepth 100000 in
set_option maxHeartbeats 8000000 in
theorem dc_Law7 : ax_cr code 330 20 tr_Law_law = true := by decide +kernel
set_option maxRecDepth 100000 in
set_option maxHeartbeats 8000000 in
theorem dc_Law8 : ax_cr code 350 22 tr_Law_law = true := by decide +kernel
set_option maxRecDepth 100000 in
set_option maxHeartbeats 8000000 in
theorem dc_Law9 : ax_cr code 372 24 tr_Law_law = true := by decide +kernel
set_option maxRecDepth 100000 in
set_option maxHeartbeats 8000000 in
theorem dc_Law10 : ax_cr code 396 22 tr_Law_law = true := by decide +kernel
set_option maxRecDepth 100000 in
set_option maxHeartbeats 8000000 in
theorem dc_Law11 : ax_cr code 418 26 tr_Law_law = true := by decide +kernel
