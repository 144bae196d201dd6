set_option maxRecDepth 100000 in
set_option maxHeartbeats 8000000 in
theorem dc_Law12 : ax_cr code 444 24 tr_Law_law = true := by decide +kernel
set_option maxRecDepth 100000 in
set_option maxHeartbeats 8000000 in
theorem dc_Law13 : ax_cr code 468 26 tr_Law_law = true := by decide +kernel
set_option maxRecDepth 100000 in
set_option maxHeartbeats 8000000 in
theorem dc_Law14 : ax_cr code 494 26 tr_Law_law = true := by decide +kernel
set_option maxRecDepth 100000 in
set_option maxHeartbeats 8000000 in
theorem dc_Law15 : ax_cr code 520 28 tr_Law_law = true := by decide +kernel
set_option maxRecDepth 100000 in
set_option maxHeartbeats 8000000 in
theorem dc_Law16 : ax_cr code 548 26 tr_Law_law = true := by decide +kernel
set_option maxRecDepth 100000 in
set_option maxHeartbeats 8000000 in
theorem dc_Law17 : ax_cr code 574 28 tr_Law_law = true := by decide +kernel
