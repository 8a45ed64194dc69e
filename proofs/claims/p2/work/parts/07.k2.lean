/-! The check of methods 80 to 119. -/
set_option maxRecDepth 100000 in
theorem pg_k80 : pg_o80.all (ev_chk 80) = true := by decide +kernel
set_option maxRecDepth 100000 in
theorem pg_k81 : pg_o81.all (ev_chk 81) = true := by decide +kernel
set_option maxRecDepth 100000 in
theorem pg_k82 : pg_o82.all (ev_chk 82) = true := by decide +kernel
set_option maxRecDepth 100000 in
theorem pg_k83 : pg_o83.all (ev_chk 83) = true := by decide +kernel
set_option maxRecDepth 100000 in
theorem pg_k84 : pg_o84.all (ev_chk 84) = true := by decide +kernel
set_option maxRecDepth 100000 in
theorem pg_k85 : pg_o85.all (ev_chk 85) = true := by decide +kernel
set_option maxRecDepth 100000 in
theorem pg_k86 : pg_o86.all (ev_chk 86) = true := by decide +kernel
set_option maxRecDepth 100000 in
theorem pg_k87 : pg_o87.all (ev_chk 87) = true := by decide +kernel
set_option maxRecDepth 100000 in
theorem pg_k88 : pg_o88.all (ev_chk 88) = true := by decide +kernel
set_option maxRecDepth 100000 in
theorem pg_k89 : pg_o89.all (ev_chk 89) = true := by decide +kernel
set_option maxRecDepth 100000 in
theorem pg_k90 : pg_o90.all (ev_chk 90) = true := by decide +kernel
set_option maxRecDepth 100000 in
theorem pg_k91 : pg_o91.all (ev_chk 91) = true := by decide +kernel
set_option maxRecDepth 100000 in
theorem pg_k92 : pg_o92.all (ev_chk 92) = true := by decide +kernel
set_option maxRecDepth 100000 in
theorem pg_k93 : pg_o93.all (ev_chk 93) = true := by decide +kernel
set_option maxRecDepth 100000 in
theorem pg_k94 : pg_o94.all (ev_chk 94) = true := by decide +kernel
set_option maxRecDepth 100000 in
theorem pg_k95 : pg_o95.all (ev_chk 95) = true := by decide +kernel
set_option maxRecDepth 100000 in
theorem pg_k96 : pg_o96.all (ev_chk 96) = true := by decide +kernel
set_option maxRecDepth 100000 in
theorem pg_k97 : pg_o97.all (ev_chk 97) = true := by decide +kernel
set_option maxRecDepth 100000 in
theorem pg_k98 : pg_o98.all (ev_chk 98) = true := by decide +kernel
set_option maxRecDepth 100000 in
theorem pg_k99 : pg_o99.all (ev_chk 99) = true := by decide +kernel
set_option maxRecDepth 100000 in
theorem pg_k100 : pg_o100.all (ev_chk 100) = true := by decide +kernel
set_option maxRecDepth 100000 in
theorem pg_k101 : pg_o101.all (ev_chk 101) = true := by decide +kernel
set_option maxRecDepth 100000 in
theorem pg_k102 : pg_o102.all (ev_chk 102) = true := by decide +kernel
set_option maxRecDepth 100000 in
theorem pg_k103 : pg_o103.all (ev_chk 103) = true := by decide +kernel
set_option maxRecDepth 100000 in
theorem pg_k104 : pg_o104.all (ev_chk 104) = true := by decide +kernel
set_option maxRecDepth 100000 in
theorem pg_k105 : pg_o105.all (ev_chk 105) = true := by decide +kernel
set_option maxRecDepth 100000 in
theorem pg_k106 : pg_o106.all (ev_chk 106) = true := by decide +kernel
set_option maxRecDepth 100000 in
theorem pg_k107 : pg_o107.all (ev_chk 107) = true := by decide +kernel
set_option maxRecDepth 100000 in
theorem pg_k108 : pg_o108.all (ev_chk 108) = true := by decide +kernel
set_option maxRecDepth 100000 in
theorem pg_k109 : pg_o109.all (ev_chk 109) = true := by decide +kernel
set_option maxRecDepth 100000 in
theorem pg_k110 : pg_o110.all (ev_chk 110) = true := by decide +kernel
set_option maxRecDepth 100000 in
theorem pg_k111 : pg_o111.all (ev_chk 111) = true := by decide +kernel
set_option maxRecDepth 100000 in
theorem pg_k112 : pg_o112.all (ev_chk 112) = true := by decide +kernel
set_option maxRecDepth 100000 in
theorem pg_k113 : pg_o113.all (ev_chk 113) = true := by decide +kernel
set_option maxRecDepth 100000 in
theorem pg_k114 : pg_o114.all (ev_chk 114) = true := by decide +kernel
set_option maxRecDepth 100000 in
theorem pg_k115 : pg_o115.all (ev_chk 115) = true := by decide +kernel
set_option maxRecDepth 100000 in
theorem pg_k116 : pg_o116.all (ev_chk 116) = true := by decide +kernel
set_option maxRecDepth 100000 in
theorem pg_k117 : pg_o117.all (ev_chk 117) = true := by decide +kernel
set_option maxRecDepth 100000 in
theorem pg_k118 : pg_o118.all (ev_chk 118) = true := by decide +kernel
set_option maxRecDepth 100000 in
theorem pg_k119 : pg_o119.all (ev_chk 119) = true := by decide +kernel
