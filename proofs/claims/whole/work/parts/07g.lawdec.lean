set_option maxRecDepth 100000 in
set_option maxHeartbeats 8000000 in
theorem dc_Law36 : ax_cr code 1064 32 tr_Law_law = true := by decide +kernel
set_option maxRecDepth 100000 in
set_option maxHeartbeats 8000000 in
theorem dc_Law37 : ax_cr code 1096 21 tr_Law_law = true := by decide +kernel
