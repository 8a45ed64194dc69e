/-! The check of methods 120 to 157. -/
set_option maxRecDepth 100000 in
theorem pg_k120 : pg_o120.all (ev_chk 120) = true := by decide +kernel
set_option maxRecDepth 100000 in
theorem pg_k121 : pg_o121.all (ev_chk 121) = true := by decide +kernel
set_option maxRecDepth 100000 in
theorem pg_k122 : pg_o122.all (ev_chk 122) = true := by decide +kernel
set_option maxRecDepth 100000 in
theorem pg_k123 : pg_o123.all (ev_chk 123) = true := by decide +kernel
set_option maxRecDepth 100000 in
theorem pg_k124 : pg_o124.all (ev_chk 124) = true := by decide +kernel
set_option maxRecDepth 100000 in
theorem pg_k125 : pg_o125.all (ev_chk 125) = true := by decide +kernel
set_option maxRecDepth 100000 in
theorem pg_k126 : pg_o126.all (ev_chk 126) = true := by decide +kernel
set_option maxRecDepth 100000 in
theorem pg_k127 : pg_o127.all (ev_chk 127) = true := by decide +kernel
set_option maxRecDepth 100000 in
theorem pg_k128 : pg_o128.all (ev_chk 128) = true := by decide +kernel
set_option maxRecDepth 100000 in
theorem pg_k129 : pg_o129.all (ev_chk 129) = true := by decide +kernel
set_option maxRecDepth 100000 in
theorem pg_k130 : pg_o130.all (ev_chk 130) = true := by decide +kernel
set_option maxRecDepth 100000 in
theorem pg_k131 : pg_o131.all (ev_chk 131) = true := by decide +kernel
set_option maxRecDepth 100000 in
theorem pg_k132 : pg_o132.all (ev_chk 132) = true := by decide +kernel
set_option maxRecDepth 100000 in
theorem pg_k133 : pg_o133.all (ev_chk 133) = true := by decide +kernel
set_option maxRecDepth 100000 in
theorem pg_k134 : pg_o134.all (ev_chk 134) = true := by decide +kernel
set_option maxRecDepth 100000 in
theorem pg_k135 : pg_o135.all (ev_chk 135) = true := by decide +kernel
set_option maxRecDepth 100000 in
theorem pg_k136 : pg_o136.all (ev_chk 136) = true := by decide +kernel
set_option maxRecDepth 100000 in
theorem pg_k137 : pg_o137.all (ev_chk 137) = true := by decide +kernel
set_option maxRecDepth 100000 in
theorem pg_k138 : pg_o138.all (ev_chk 138) = true := by decide +kernel
set_option maxRecDepth 100000 in
theorem pg_k139 : pg_o139.all (ev_chk 139) = true := by decide +kernel
set_option maxRecDepth 100000 in
theorem pg_k140 : pg_o140.all (ev_chk 140) = true := by decide +kernel
set_option maxRecDepth 100000 in
theorem pg_k141 : pg_o141.all (ev_chk 141) = true := by decide +kernel
set_option maxRecDepth 100000 in
theorem pg_k142 : pg_o142.all (ev_chk 142) = true := by decide +kernel
set_option maxRecDepth 100000 in
theorem pg_k143 : pg_o143.all (ev_chk 143) = true := by decide +kernel
set_option maxRecDepth 100000 in
theorem pg_k144 : pg_o144.all (ev_chk 144) = true := by decide +kernel
set_option maxRecDepth 100000 in
theorem pg_k145 : pg_o145.all (ev_chk 145) = true := by decide +kernel
set_option maxRecDepth 100000 in
theorem pg_k146 : pg_o146.all (ev_chk 146) = true := by decide +kernel
set_option maxRecDepth 100000 in
theorem pg_k147 : pg_o147.all (ev_chk 147) = true := by decide +kernel
set_option maxRecDepth 100000 in
theorem pg_k148 : pg_o148.all (ev_chk 148) = true := by decide +kernel
set_option maxRecDepth 100000 in
theorem pg_k149 : pg_o149.all (ev_chk 149) = true := by decide +kernel
set_option maxRecDepth 100000 in
theorem pg_k150 : pg_o150.all (ev_chk 150) = true := by decide +kernel
set_option maxRecDepth 100000 in
theorem pg_k151 : pg_o151.all (ev_chk 151) = true := by decide +kernel
set_option maxRecDepth 100000 in
theorem pg_k152 : pg_o152.all (ev_chk 152) = true := by decide +kernel
set_option maxRecDepth 100000 in
theorem pg_k153 : pg_o153.all (ev_chk 153) = true := by decide +kernel
set_option maxRecDepth 100000 in
theorem pg_k154 : pg_o154.all (ev_chk 154) = true := by decide +kernel
set_option maxRecDepth 100000 in
theorem pg_k155 : pg_o155.all (ev_chk 155) = true := by decide +kernel
set_option maxRecDepth 100000 in
theorem pg_k156 : pg_o156.all (ev_chk 156) = true := by decide +kernel
set_option maxRecDepth 100000 in
theorem pg_k157 : pg_o157.all (ev_chk 157) = true := by decide +kernel
