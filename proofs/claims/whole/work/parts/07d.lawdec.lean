set_option maxRecDepth 100000 in
set_option maxHeartbeats 8000000 in
theorem dc_Law18 : ax_cr code 602 26 tr_Law_law = true := by decide +kernel
set_option maxRecDepth 100000 in
set_option maxHeartbeats 8000000 in
theorem dc_Law19 : ax_cr code 628 30 tr_Law_law = true := by decide +kernel
set_option maxRecDepth 100000 in
set_option maxHeartbeats 8000000 in
theorem dc_Law20 : ax_cr code 658 22 tr_Law_law = true := by decide +kernel
set_option maxRecDepth 100000 in
set_option maxHeartbeats 8000000 in
theorem dc_Law21 : ax_cr code 680 28 tr_Law_law = true := by decide +kernel
set_option maxRecDepth 100000 in
set_option maxHeartbeats 8000000 in
theorem dc_Law22 : ax_cr code 708 24 tr_Law_law = true := by decide +kernel
set_option maxRecDepth 100000 in
set_option maxHeartbeats 8000000 in
theorem dc_Law23 : ax_cr code 732 26 tr_Law_law = true := by decide +kernel
