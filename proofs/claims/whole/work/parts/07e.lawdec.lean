set_option maxRecDepth 100000 in
set_option maxHeartbeats 8000000 in
theorem dc_Law24 : ax_cr code 758 26 tr_Law_law = true := by decide +kernel
set_option maxRecDepth 100000 in
set_option maxHeartbeats 8000000 in
theorem dc_Law25 : ax_cr code 784 30 tr_Law_law = true := by decide +kernel
set_option maxRecDepth 100000 in
set_option maxHeartbeats 8000000 in
theorem dc_Law26 : ax_cr code 814 26 tr_Law_law = true := by decide +kernel
set_option maxRecDepth 100000 in
set_option maxHeartbeats 8000000 in
theorem dc_Law27 : ax_cr code 840 26 tr_Law_law = true := by decide +kernel
set_option maxRecDepth 100000 in
set_option maxHeartbeats 8000000 in
theorem dc_Law28 : ax_cr code 866 24 tr_Law_law = true := by decide +kernel
set_option maxRecDepth 100000 in
set_option maxHeartbeats 8000000 in
theorem dc_Law29 : ax_cr code 890 28 tr_Law_law = true := by decide +kernel
