set_option maxRecDepth 100000 in
set_option maxHeartbeats 8000000 in
theorem dc_Law30 : ax_cr code 918 20 tr_Law_law = true := by decide +kernel
set_option maxRecDepth 100000 in
set_option maxHeartbeats 8000000 in
theorem dc_Law31 : ax_cr code 938 22 tr_Law_law = true := by decide +kernel
set_option maxRecDepth 100000 in
set_option maxHeartbeats 8000000 in
theorem dc_Law32 : ax_cr code 960 26 tr_Law_law = true := by decide +kernel
set_option maxRecDepth 100000 in
set_option maxHeartbeats 8000000 in
theorem dc_Law33 : ax_cr code 986 30 tr_Law_law = true := by decide +kernel
set_option maxRecDepth 100000 in
set_option maxHeartbeats 8000000 in
theorem dc_Law34 : ax_cr code 1016 26 tr_Law_law = true := by decide +kernel
set_option maxRecDepth 100000 in
set_option maxHeartbeats 8000000 in
theorem dc_Law35 : ax_cr code 1042 22 tr_Law_law = true := by decide +kernel
