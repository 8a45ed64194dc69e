/-! The check of methods 0 to 39. -/
set_option maxRecDepth 100000 in
theorem pg_k0 : pg_o0.all (ev_chk 0) = true := by decide +kernel
set_option maxRecDepth 100000 in
theorem pg_k1 : pg_o1.all (ev_chk 1) = true := by decide +kernel
set_option maxRecDepth 100000 in
theorem pg_k2 : pg_o2.all (ev_chk 2) = true := by decide +kernel
set_option maxRecDepth 100000 in
theorem pg_k3 : pg_o3.all (ev_chk 3) = true := by decide +kernel
set_option maxRecDepth 100000 in
theorem pg_k4 : pg_o4.all (ev_chk 4) = true := by decide +kernel
set_option maxRecDepth 100000 in
theorem pg_k5 : pg_o5.all (ev_chk 5) = true := by decide +kernel
set_option maxRecDepth 100000 in
theorem pg_k6 : pg_o6.all (ev_chk 6) = true := by decide +kernel
set_option maxRecDepth 100000 in
theorem pg_k7 : pg_o7.all (ev_chk 7) = true := by decide +kernel
set_option maxRecDepth 100000 in
theorem pg_k8 : pg_o8.all (ev_chk 8) = true := by decide +kernel
set_option maxRecDepth 100000 in
theorem pg_k9 : pg_o9.all (ev_chk 9) = true := by decide +kernel
set_option maxRecDepth 100000 in
theorem pg_k10 : pg_o10.all (ev_chk 10) = true := by decide +kernel
set_option maxRecDepth 100000 in
theorem pg_k11 : pg_o11.all (ev_chk 11) = true := by decide +kernel
set_option maxRecDepth 100000 in
theorem pg_k12 : pg_o12.all (ev_chk 12) = true := by decide +kernel
set_option maxRecDepth 100000 in
theorem pg_k13 : pg_o13.all (ev_chk 13) = true := by decide +kernel
set_option maxRecDepth 100000 in
theorem pg_k14 : pg_o14.all (ev_chk 14) = true := by decide +kernel
set_option maxRecDepth 100000 in
theorem pg_k15 : pg_o15.all (ev_chk 15) = true := by decide +kernel
set_option maxRecDepth 100000 in
theorem pg_k16 : pg_o16.all (ev_chk 16) = true := by decide +kernel
set_option maxRecDepth 100000 in
theorem pg_k17 : pg_o17.all (ev_chk 17) = true := by decide +kernel
set_option maxRecDepth 100000 in
theorem pg_k18 : pg_o18.all (ev_chk 18) = true := by decide +kernel
set_option maxRecDepth 100000 in
theorem pg_k19 : pg_o19.all (ev_chk 19) = true := by decide +kernel
set_option maxRecDepth 100000 in
theorem pg_k20 : pg_o20.all (ev_chk 20) = true := by decide +kernel
set_option maxRecDepth 100000 in
theorem pg_k21 : pg_o21.all (ev_chk 21) = true := by decide +kernel
set_option maxRecDepth 100000 in
theorem pg_k22 : pg_o22.all (ev_chk 22) = true := by decide +kernel
set_option maxRecDepth 100000 in
theorem pg_k23 : pg_o23.all (ev_chk 23) = true := by decide +kernel
set_option maxRecDepth 100000 in
theorem pg_k24 : pg_o24.all (ev_chk 24) = true := by decide +kernel
set_option maxRecDepth 100000 in
theorem pg_k25 : pg_o25.all (ev_chk 25) = true := by decide +kernel
set_option maxRecDepth 100000 in
theorem pg_k26 : pg_o26.all (ev_chk 26) = true := by decide +kernel
set_option maxRecDepth 100000 in
theorem pg_k27 : pg_o27.all (ev_chk 27) = true := by decide +kernel
set_option maxRecDepth 100000 in
theorem pg_k28 : pg_o28.all (ev_chk 28) = true := by decide +kernel
set_option maxRecDepth 100000 in
theorem pg_k29 : pg_o29.all (ev_chk 29) = true := by decide +kernel
set_option maxRecDepth 100000 in
theorem pg_k30 : pg_o30.all (ev_chk 30) = true := by decide +kernel
set_option maxRecDepth 100000 in
theorem pg_k31 : pg_o31.all (ev_chk 31) = true := by decide +kernel
set_option maxRecDepth 100000 in
theorem pg_k32 : pg_o32.all (ev_chk 32) = true := by decide +kernel
set_option maxRecDepth 100000 in
theorem pg_k33 : pg_o33.all (ev_chk 33) = true := by decide +kernel
set_option maxRecDepth 100000 in
theorem pg_k34 : pg_o34.all (ev_chk 34) = true := by decide +kernel
set_option maxRecDepth 100000 in
theorem pg_k35 : pg_o35.all (ev_chk 35) = true := by decide +kernel
set_option maxRecDepth 100000 in
theorem pg_k36 : pg_o36.all (ev_chk 36) = true := by decide +kernel
set_option maxRecDepth 100000 in
theorem pg_k37 : pg_o37.all (ev_chk 37) = true := by decide +kernel
set_option maxRecDepth 100000 in
theorem pg_k38 : pg_o38.all (ev_chk 38) = true := by decide +kernel
set_option maxRecDepth 100000 in
theorem pg_k39 : pg_o39.all (ev_chk 39) = true := by decide +kernel
