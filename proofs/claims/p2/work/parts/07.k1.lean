/-! The check of methods 40 to 79. -/
set_option maxRecDepth 100000 in
theorem pg_k40 : pg_o40.all (ev_chk 40) = true := by decide +kernel
set_option maxRecDepth 100000 in
theorem pg_k41 : pg_o41.all (ev_chk 41) = true := by decide +kernel
set_option maxRecDepth 100000 in
theorem pg_k42 : pg_o42.all (ev_chk 42) = true := by decide +kernel
set_option maxRecDepth 100000 in
theorem pg_k43 : pg_o43.all (ev_chk 43) = true := by decide +kernel
set_option maxRecDepth 100000 in
theorem pg_k44 : pg_o44.all (ev_chk 44) = true := by decide +kernel
set_option maxRecDepth 100000 in
theorem pg_k45 : pg_o45.all (ev_chk 45) = true := by decide +kernel
set_option maxRecDepth 100000 in
theorem pg_k46 : pg_o46.all (ev_chk 46) = true := by decide +kernel
set_option maxRecDepth 100000 in
theorem pg_k47 : pg_o47.all (ev_chk 47) = true := by decide +kernel
set_option maxRecDepth 100000 in
theorem pg_k48 : pg_o48.all (ev_chk 48) = true := by decide +kernel
set_option maxRecDepth 100000 in
theorem pg_k49 : pg_o49.all (ev_chk 49) = true := by decide +kernel
set_option maxRecDepth 100000 in
theorem pg_k50 : pg_o50.all (ev_chk 50) = true := by decide +kernel
set_option maxRecDepth 100000 in
theorem pg_k51 : pg_o51.all (ev_chk 51) = true := by decide +kernel
set_option maxRecDepth 100000 in
theorem pg_k52 : pg_o52.all (ev_chk 52) = true := by decide +kernel
set_option maxRecDepth 100000 in
theorem pg_k53 : pg_o53.all (ev_chk 53) = true := by decide +kernel
set_option maxRecDepth 100000 in
theorem pg_k54 : pg_o54.all (ev_chk 54) = true := by decide +kernel
set_option maxRecDepth 100000 in
theorem pg_k55 : pg_o55.all (ev_chk 55) = true := by decide +kernel
set_option maxRecDepth 100000 in
theorem pg_k56 : pg_o56.all (ev_chk 56) = true := by decide +kernel
set_option maxRecDepth 100000 in
theorem pg_k57 : pg_o57.all (ev_chk 57) = true := by decide +kernel
set_option maxRecDepth 100000 in
theorem pg_k58 : pg_o58.all (ev_chk 58) = true := by decide +kernel
set_option maxRecDepth 100000 in
theorem pg_k59 : pg_o59.all (ev_chk 59) = true := by decide +kernel
set_option maxRecDepth 100000 in
theorem pg_k60 : pg_o60.all (ev_chk 60) = true := by decide +kernel
set_option maxRecDepth 100000 in
theorem pg_k61 : pg_o61.all (ev_chk 61) = true := by decide +kernel
set_option maxRecDepth 100000 in
theorem pg_k62 : pg_o62.all (ev_chk 62) = true := by decide +kernel
set_option maxRecDepth 100000 in
theorem pg_k63 : pg_o63.all (ev_chk 63) = true := by decide +kernel
set_option maxRecDepth 100000 in
theorem pg_k64 : pg_o64.all (ev_chk 64) = true := by decide +kernel
set_option maxRecDepth 100000 in
theorem pg_k65 : pg_o65.all (ev_chk 65) = true := by decide +kernel
set_option maxRecDepth 100000 in
theorem pg_k66 : pg_o66.all (ev_chk 66) = true := by decide +kernel
set_option maxRecDepth 100000 in
theorem pg_k67 : pg_o67.all (ev_chk 67) = true := by decide +kernel
set_option maxRecDepth 100000 in
theorem pg_k68 : pg_o68.all (ev_chk 68) = true := by decide +kernel
set_option maxRecDepth 100000 in
theorem pg_k69 : pg_o69.all (ev_chk 69) = true := by decide +kernel
set_option maxRecDepth 100000 in
theorem pg_k70 : pg_o70.all (ev_chk 70) = true := by decide +kernel
set_option maxRecDepth 100000 in
theorem pg_k71 : pg_o71.all (ev_chk 71) = true := by decide +kernel
set_option maxRecDepth 100000 in
theorem pg_k72 : pg_o72.all (ev_chk 72) = true := by decide +kernel
set_option maxRecDepth 100000 in
theorem pg_k73 : pg_o73.all (ev_chk 73) = true := by decide +kernel
set_option maxRecDepth 100000 in
theorem pg_k74 : pg_o74.all (ev_chk 74) = true := by decide +kernel
set_option maxRecDepth 100000 in
theorem pg_k75 : pg_o75.all (ev_chk 75) = true := by decide +kernel
set_option maxRecDepth 100000 in
theorem pg_k76 : pg_o76.all (ev_chk 76) = true := by decide +kernel
set_option maxRecDepth 100000 in
theorem pg_k77 : pg_o77.all (ev_chk 77) = true := by decide +kernel
set_option maxRecDepth 100000 in
theorem pg_k78 : pg_o78.all (ev_chk 78) = true := by decide +kernel
set_option maxRecDepth 100000 in
theorem pg_k79 : pg_o79.all (ev_chk 79) = true := by decide +kernel
