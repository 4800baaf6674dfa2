set_option maxRecDepth 20000 in
theorem zaX2_250 : ∀ w ∈ (vx_atS RX2 250 zEI zNames).filter goodWord, w ∈ zW := zql _ [28, 120, 129, 135, 138, 140, 121, 122, 44, 45, 123, 128, 136, 156, 110, 157, 112, 158, 114, 124, 126, 116, 152, 153, 155, 116, 143, 144, 145, 146, 146, 147, 148, 149, 149, 150, 151, 152, 142, 99, 107, 108, 109, 111, 113, 115, 119, 118, 117] (by decide +kernel) (by decide +kernel)
set_option maxRecDepth 20000 in
theorem zbX2_250 : ∀ w ∈ (vx_atS RX2 250 zEI zNames).filter (fun w => !goodWord w), w ∈ zBad zEI := by decide +kernel
set_option maxRecDepth 20000 in
theorem zaX2_96 : ∀ w ∈ (vx_atS RX2 96 zES zNames).filter goodWord, w ∈ zW := zql _ [28, 120, 129, 135, 138, 140, 121, 122, 44, 45, 123, 128, 136, 156, 110, 157, 112, 158, 114, 124, 126, 116, 152, 153, 155, 116, 186, 187, 188, 146, 146, 147, 148, 149, 149, 150, 151, 152, 185, 176, 178, 132, 179, 180, 181, 182, 119, 118, 183] (by decide +kernel) (by decide +kernel)
set_option maxRecDepth 20000 in
theorem zbX2_96 : ∀ w ∈ (vx_atS RX2 96 zES zNames).filter (fun w => !goodWord w), w ∈ zBad zES := by decide +kernel
set_option maxRecDepth 20000 in
theorem zaX2_261 : ∀ w ∈ (vx_atS RX2 261 zEA zNames).filter goodWord, w ∈ zW := zql _ [28, 120, 129, 135, 138, 140, 121, 122, 44, 45, 123, 128, 136, 156, 110, 157, 112, 158, 114, 124, 126, 116, 152, 153, 155, 116, 217, 218, 219, 146, 146, 147, 148, 149, 149, 150, 151, 152, 216, 207, 209, 131, 210, 211, 212, 213, 119, 118, 214] (by decide +kernel) (by decide +kernel)
set_option maxRecDepth 20000 in
theorem zbX2_261 : ∀ w ∈ (vx_atS RX2 261 zEA zNames).filter (fun w => !goodWord w), w ∈ zBad zEA := by decide +kernel
set_option maxRecDepth 20000 in
theorem zaX0_20 : ∀ w ∈ (vx_atS RX0 20 zEA zNames).filter goodWord, w ∈ zW := zql _ [28, 120, 129, 135, 138, 140, 121, 122, 44, 45, 123, 128, 136, 156, 110, 157, 112, 158, 114, 124, 126, 116, 152, 153, 155, 116, 217, 218, 219, 146, 146, 147, 148, 149, 149, 150, 151, 152, 659, 207, 209, 131, 210, 211, 212, 213, 119, 118, 214] (by decide +kernel) (by decide +kernel)
set_option maxRecDepth 20000 in
theorem zbX0_20 : ∀ w ∈ (vx_atS RX0 20 zEA zNames).filter (fun w => !goodWord w), w ∈ zBad zEA := by decide +kernel
set_option maxRecDepth 20000 in
theorem zaX0_35 : ∀ w ∈ (vx_atS RX0 35 zEU zNames).filter goodWord, w ∈ zW := zql _ [28, 120, 129, 135, 138, 140, 121, 122, 44, 45, 123, 128, 136, 156, 110, 157, 112, 158, 114, 124, 126, 116, 152, 153, 155, 116, 688, 689, 690, 146, 146, 147, 148, 149, 149, 150, 151, 152, 687, 678, 680, 133, 681, 682, 683, 684, 119, 118, 685] (by decide +kernel) (by decide +kernel)
set_option maxRecDepth 20000 in
theorem zbX0_35 : ∀ w ∈ (vx_atS RX0 35 zEU zNames).filter (fun w => !goodWord w), w ∈ zBad zEU := by decide +kernel
set_option maxRecDepth 20000 in
theorem zaX0_30 : ∀ w ∈ (vx_atS RX0 30 zEI zNames).filter goodWord, w ∈ zW := zql _ [28, 120, 129, 135, 138, 140, 121, 122, 44, 45, 123, 128, 136, 156, 110, 157, 112, 158, 114, 124, 126, 116, 152, 153, 155, 116, 143, 144, 145, 146, 146, 147, 148, 149, 149, 150, 151, 152, 707, 99, 107, 108, 109, 111, 113, 115, 119, 118, 117] (by decide +kernel) (by decide +kernel)
set_option maxRecDepth 20000 in
theorem zbX0_30 : ∀ w ∈ (vx_atS RX0 30 zEI zNames).filter (fun w => !goodWord w), w ∈ zBad zEI := by decide +kernel
