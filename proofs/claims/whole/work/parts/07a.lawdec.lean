def ax_cr (b : ByteArray) (lo n : Nat) (t : Nat → Option (Instr × Nat)) : Bool := (List.range n).all (fun k => match t (lo + k) with | none => true | some q => decide (decode b (lo + k) = .ok (q.1, q.2)))
set_option maxRecDepth 100000 in
set_option maxHeartbeats 8000000 in
theorem dc_Law0 : ax_cr code 0 32 tr_Law_law = true := by decide +kernel
set_option maxRecDepth 100000 in
set_option maxHeartbeats 8000000 in
theorem dc_Law1 : ax_cr code 32 163 tr_Law_law = true := by decide +kernel
set_option maxRecDepth 100000 in
set_option maxHeartbeats 8000000 in
theorem dc_Law2 : ax_cr code 195 25 tr_Law_law = true := by decide +kernel
set_option maxRecDepth 100000 in
set_option maxHeartbeats 8000000 in
theorem dc_Law3 : ax_cr code 220 28 tr_Law_law = true := by decide +kernel
set_option maxRecDepth 100000 in
set_option maxHeartbeats 8000000 in
theorem dc_Law4 : ax_cr code 248 24 tr_Law_law = true := by decide +kernel
set_option maxRecDepth 100000 in
set_option maxHeartbeats 8000000 in
theorem dc_Law5 : ax_cr code 272 28 tr_Law_law = true := by decide +kernel
