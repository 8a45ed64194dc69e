section
/-! The check of methods 0 to 39. -/
set_option maxRecDepth 100000 in
theorem pg_k0 : pg_o0.all (ev_chk 0) = true := by decide +kernel
set_option maxRecDepth 100000 in
theorem pg_k1 : pg_o1.all (ev_chk 1) = true := by decide +kernel
set_option maxRecDepth 100000 in
theorem pg_k2 : pg_o2.all (ev_chk 2) = true := by decide +kernel
set_option maxRecDepth 100000 in
theorem pg_k3 : pg_o3.all (ev_chk 3) = true := by decide +kernel
set_option maxRecDepth 100000 in
theorem pg_k4 : pg_o4.all (ev_chk 4) = true := by decide +kernel
set_option maxRecDepth 100000 in
theorem pg_k5 : pg_o5.all (ev_chk 5) = true := by decide +kernel
set_option maxRecDepth 100000 in
theorem pg_k6 : pg_o6.all (ev_chk 6) = true := by decide +kernel
set_option maxRecDepth 100000 in
theorem pg_k7 : pg_o7.all (ev_chk 7) = true := by decide +kernel
set_option maxRecDepth 100000 in
theorem pg_k8 : pg_o8.all (ev_chk 8) = true := by decide +kernel
set_option maxRecDepth 100000 in
theorem pg_k9 : pg_o9.all (ev_chk 9) = true := by decide +kernel
set_option maxRecDepth 100000 in
theorem pg_k10 : pg_o10.all (ev_chk 10) = true := by decide +kernel
set_option maxRecDepth 100000 in
theorem pg_k11 : pg_o11.all (ev_chk 11) = true := by decide +kernel
set_option maxRecDepth 100000 in
theorem pg_k12 : pg_o12.all (ev_chk 12) = true := by decide +kernel
set_option maxRecDepth 100000 in
theorem pg_k13 : pg_o13.all (ev_chk 13) = true := by decide +kernel
set_option maxRecDepth 100000 in
theorem pg_k14 : pg_o14.all (ev_chk 14) = true := by decide +kernel
set_option maxRecDepth 100000 in
theorem pg_k15 : pg_o15.all (ev_chk 15) = true := by decide +kernel
set_option maxRecDepth 100000 in
theorem pg_k16 : pg_o16.all (ev_chk 16) = true := by decide +kernel
set_option maxRecDepth 100000 in
theorem pg_k17 : pg_o17.all (ev_chk 17) = true := by decide +kernel
set_option maxRecDepth 100000 in
theorem pg_k18 : pg_o18.all (ev_chk 18) = true := by decide +kernel
set_option maxRecDepth 100000 in
theorem pg_k19 : pg_o19.all (ev_chk 19) = true := by decide +kernel
set_option maxRecDepth 100000 in
theorem pg_k20 : pg_o20.all (ev_chk 20) = true := by decide +kernel
set_option maxRecDepth 100000 in
theorem pg_k21 : pg_o21.all (ev_chk 21) = true := by decide +kernel
set_option maxRecDepth 100000 in
theorem pg_k22 : pg_o22.all (ev_chk 22) = true := by decide +kernel
set_option maxRecDepth 100000 in
theorem pg_k23 : pg_o23.all (ev_chk 23) = true := by decide +kernel
set_option maxRecDepth 100000 in
theorem pg_k24 : pg_o24.all (ev_chk 24) = true := by decide +kernel
set_option maxRecDepth 100000 in
theorem pg_k25 : pg_o25.all (ev_chk 25) = true := by decide +kernel
set_option maxRecDepth 100000 in
theorem pg_k26 : pg_o26.all (ev_chk 26) = true := by decide +kernel
set_option maxRecDepth 100000 in
theorem pg_k27 : pg_o27.all (ev_chk 27) = true := by decide +kernel
set_option maxRecDepth 100000 in
theorem pg_k28 : pg_o28.all (ev_chk 28) = true := by decide +kernel
set_option maxRecDepth 100000 in
theorem pg_k29 : pg_o29.all (ev_chk 29) = true := by decide +kernel
set_option maxRecDepth 100000 in
theorem pg_k30 : pg_o30.all (ev_chk 30) = true := by decide +kernel
set_option maxRecDepth 100000 in
theorem pg_k31 : pg_o31.all (ev_chk 31) = true := by decide +kernel
set_option maxRecDepth 100000 in
theorem pg_k32 : pg_o32.all (ev_chk 32) = true := by decide +kernel
set_option maxRecDepth 100000 in
theorem pg_k33 : pg_o33.all (ev_chk 33) = true := by decide +kernel
set_option maxRecDepth 100000 in
theorem pg_k34 : pg_o34.all (ev_chk 34) = true := by decide +kernel
set_option maxRecDepth 100000 in
theorem pg_k35 : pg_o35.all (ev_chk 35) = true := by decide +kernel
set_option maxRecDepth 100000 in
theorem pg_k36 : pg_o36.all (ev_chk 36) = true := by decide +kernel
set_option maxRecDepth 100000 in
theorem pg_k37 : pg_o37.all (ev_chk 37) = true := by decide +kernel
set_option maxRecDepth 100000 in
theorem pg_k38 : pg_o38.all (ev_chk 38) = true := by decide +kernel
set_option maxRecDepth 100000 in
theorem pg_k39 : pg_o39.all (ev_chk 39) = true := by decide +kernel
end
section
/-! The check of methods 40 to 79. -/
set_option maxRecDepth 100000 in
theorem pg_k40 : pg_o40.all (ev_chk 40) = true := by decide +kernel
set_option maxRecDepth 100000 in
theorem pg_k41 : pg_o41.all (ev_chk 41) = true := by decide +kernel
set_option maxRecDepth 100000 in
theorem pg_k42 : pg_o42.all (ev_chk 42) = true := by decide +kernel
set_option maxRecDepth 100000 in
theorem pg_k43 : pg_o43.all (ev_chk 43) = true := by decide +kernel
set_option maxRecDepth 100000 in
theorem pg_k44 : pg_o44.all (ev_chk 44) = true := by decide +kernel
set_option maxRecDepth 100000 in
theorem pg_k45 : pg_o45.all (ev_chk 45) = true := by decide +kernel
set_option maxRecDepth 100000 in
theorem pg_k46 : pg_o46.all (ev_chk 46) = true := by decide +kernel
set_option maxRecDepth 100000 in
theorem pg_k47 : pg_o47.all (ev_chk 47) = true := by decide +kernel
set_option maxRecDepth 100000 in
theorem pg_k48 : pg_o48.all (ev_chk 48) = true := by decide +kernel
set_option maxRecDepth 100000 in
theorem pg_k49 : pg_o49.all (ev_chk 49) = true := by decide +kernel
set_option maxRecDepth 100000 in
theorem pg_k50 : pg_o50.all (ev_chk 50) = true := by decide +kernel
set_option maxRecDepth 100000 in
theorem pg_k51 : pg_o51.all (ev_chk 51) = true := by decide +kernel
set_option maxRecDepth 100000 in
theorem pg_k52 : pg_o52.all (ev_chk 52) = true := by decide +kernel
set_option maxRecDepth 100000 in
theorem pg_k53 : pg_o53.all (ev_chk 53) = true := by decide +kernel
set_option maxRecDepth 100000 in
theorem pg_k54 : pg_o54.all (ev_chk 54) = true := by decide +kernel
set_option maxRecDepth 100000 in
theorem pg_k55 : pg_o55.all (ev_chk 55) = true := by decide +kernel
set_option maxRecDepth 100000 in
theorem pg_k56 : pg_o56.all (ev_chk 56) = true := by decide +kernel
set_option maxRecDepth 100000 in
theorem pg_k57 : pg_o57.all (ev_chk 57) = true := by decide +kernel
set_option maxRecDepth 100000 in
theorem pg_k58 : pg_o58.all (ev_chk 58) = true := by decide +kernel
set_option maxRecDepth 100000 in
theorem pg_k59 : pg_o59.all (ev_chk 59) = true := by decide +kernel
set_option maxRecDepth 100000 in
theorem pg_k60 : pg_o60.all (ev_chk 60) = true := by decide +kernel
set_option maxRecDepth 100000 in
theorem pg_k61 : pg_o61.all (ev_chk 61) = true := by decide +kernel
set_option maxRecDepth 100000 in
theorem pg_k62 : pg_o62.all (ev_chk 62) = true := by decide +kernel
set_option maxRecDepth 100000 in
theorem pg_k63 : pg_o63.all (ev_chk 63) = true := by decide +kernel
set_option maxRecDepth 100000 in
theorem pg_k64 : pg_o64.all (ev_chk 64) = true := by decide +kernel
set_option maxRecDepth 100000 in
theorem pg_k65 : pg_o65.all (ev_chk 65) = true := by decide +kernel
set_option maxRecDepth 100000 in
theorem pg_k66 : pg_o66.all (ev_chk 66) = true := by decide +kernel
set_option maxRecDepth 100000 in
theorem pg_k67 : pg_o67.all (ev_chk 67) = true := by decide +kernel
set_option maxRecDepth 100000 in
theorem pg_k68 : pg_o68.all (ev_chk 68) = true := by decide +kernel
set_option maxRecDepth 100000 in
theorem pg_k69 : pg_o69.all (ev_chk 69) = true := by decide +kernel
set_option maxRecDepth 100000 in
theorem pg_k70 : pg_o70.all (ev_chk 70) = true := by decide +kernel
set_option maxRecDepth 100000 in
theorem pg_k71 : pg_o71.all (ev_chk 71) = true := by decide +kernel
set_option maxRecDepth 100000 in
theorem pg_k72 : pg_o72.all (ev_chk 72) = true := by decide +kernel
set_option maxRecDepth 100000 in
theorem pg_k73 : pg_o73.all (ev_chk 73) = true := by decide +kernel
set_option maxRecDepth 100000 in
theorem pg_k74 : pg_o74.all (ev_chk 74) = true := by decide +kernel
set_option maxRecDepth 100000 in
theorem pg_k75 : pg_o75.all (ev_chk 75) = true := by decide +kernel
set_option maxRecDepth 100000 in
theorem pg_k76 : pg_o76.all (ev_chk 76) = true := by decide +kernel
set_option maxRecDepth 100000 in
theorem pg_k77 : pg_o77.all (ev_chk 77) = true := by decide +kernel
set_option maxRecDepth 100000 in
theorem pg_k78 : pg_o78.all (ev_chk 78) = true := by decide +kernel
set_option maxRecDepth 100000 in
theorem pg_k79 : pg_o79.all (ev_chk 79) = true := by decide +kernel
end
section
/-! The check of methods 80 to 119. -/
set_option maxRecDepth 100000 in
theorem pg_k80 : pg_o80.all (ev_chk 80) = true := by decide +kernel
set_option maxRecDepth 100000 in
theorem pg_k81 : pg_o81.all (ev_chk 81) = true := by decide +kernel
set_option maxRecDepth 100000 in
theorem pg_k82 : pg_o82.all (ev_chk 82) = true := by decide +kernel
set_option maxRecDepth 100000 in
theorem pg_k83 : pg_o83.all (ev_chk 83) = true := by decide +kernel
set_option maxRecDepth 100000 in
theorem pg_k84 : pg_o84.all (ev_chk 84) = true := by decide +kernel
set_option maxRecDepth 100000 in
theorem pg_k85 : pg_o85.all (ev_chk 85) = true := by decide +kernel
set_option maxRecDepth 100000 in
theorem pg_k86 : pg_o86.all (ev_chk 86) = true := by decide +kernel
set_option maxRecDepth 100000 in
theorem pg_k87 : pg_o87.all (ev_chk 87) = true := by decide +kernel
set_option maxRecDepth 100000 in
theorem pg_k88 : pg_o88.all (ev_chk 88) = true := by decide +kernel
set_option maxRecDepth 100000 in
theorem pg_k89 : pg_o89.all (ev_chk 89) = true := by decide +kernel
set_option maxRecDepth 100000 in
theorem pg_k90 : pg_o90.all (ev_chk 90) = true := by decide +kernel
set_option maxRecDepth 100000 in
theorem pg_k91 : pg_o91.all (ev_chk 91) = true := by decide +kernel
set_option maxRecDepth 100000 in
theorem pg_k92 : pg_o92.all (ev_chk 92) = true := by decide +kernel
set_option maxRecDepth 100000 in
theorem pg_k93 : pg_o93.all (ev_chk 93) = true := by decide +kernel
set_option maxRecDepth 100000 in
theorem pg_k94 : pg_o94.all (ev_chk 94) = true := by decide +kernel
set_option maxRecDepth 100000 in
theorem pg_k95 : pg_o95.all (ev_chk 95) = true := by decide +kernel
set_option maxRecDepth 100000 in
theorem pg_k96 : pg_o96.all (ev_chk 96) = true := by decide +kernel
set_option maxRecDepth 100000 in
theorem pg_k97 : pg_o97.all (ev_chk 97) = true := by decide +kernel
set_option maxRecDepth 100000 in
theorem pg_k98 : pg_o98.all (ev_chk 98) = true := by decide +kernel
set_option maxRecDepth 100000 in
theorem pg_k99 : pg_o99.all (ev_chk 99) = true := by decide +kernel
set_option maxRecDepth 100000 in
theorem pg_k100 : pg_o100.all (ev_chk 100) = true := by decide +kernel
set_option maxRecDepth 100000 in
theorem pg_k101 : pg_o101.all (ev_chk 101) = true := by decide +kernel
set_option maxRecDepth 100000 in
theorem pg_k102 : pg_o102.all (ev_chk 102) = true := by decide +kernel
set_option maxRecDepth 100000 in
theorem pg_k103 : pg_o103.all (ev_chk 103) = true := by decide +kernel
set_option maxRecDepth 100000 in
theorem pg_k104 : pg_o104.all (ev_chk 104) = true := by decide +kernel
set_option maxRecDepth 100000 in
theorem pg_k105 : pg_o105.all (ev_chk 105) = true := by decide +kernel
set_option maxRecDepth 100000 in
theorem pg_k106 : pg_o106.all (ev_chk 106) = true := by decide +kernel
set_option maxRecDepth 100000 in
theorem pg_k107 : pg_o107.all (ev_chk 107) = true := by decide +kernel
set_option maxRecDepth 100000 in
theorem pg_k108 : pg_o108.all (ev_chk 108) = true := by decide +kernel
set_option maxRecDepth 100000 in
theorem pg_k109 : pg_o109.all (ev_chk 109) = true := by decide +kernel
set_option maxRecDepth 100000 in
theorem pg_k110 : pg_o110.all (ev_chk 110) = true := by decide +kernel
set_option maxRecDepth 100000 in
theorem pg_k111 : pg_o111.all (ev_chk 111) = true := by decide +kernel
set_option maxRecDepth 100000 in
theorem pg_k112 : pg_o112.all (ev_chk 112) = true := by decide +kernel
set_option maxRecDepth 100000 in
theorem pg_k113 : pg_o113.all (ev_chk 113) = true := by decide +kernel
set_option maxRecDepth 100000 in
theorem pg_k114 : pg_o114.all (ev_chk 114) = true := by decide +kernel
set_option maxRecDepth 100000 in
theorem pg_k115 : pg_o115.all (ev_chk 115) = true := by decide +kernel
set_option maxRecDepth 100000 in
theorem pg_k116 : pg_o116.all (ev_chk 116) = true := by decide +kernel
set_option maxRecDepth 100000 in
theorem pg_k117 : pg_o117.all (ev_chk 117) = true := by decide +kernel
set_option maxRecDepth 100000 in
theorem pg_k118 : pg_o118.all (ev_chk 118) = true := by decide +kernel
set_option maxRecDepth 100000 in
theorem pg_k119 : pg_o119.all (ev_chk 119) = true := by decide +kernel
end
section
/-! The check of methods 120 to 157. -/
set_option maxRecDepth 100000 in
theorem pg_k120 : pg_o120.all (ev_chk 120) = true := by decide +kernel
set_option maxRecDepth 100000 in
theorem pg_k121 : pg_o121.all (ev_chk 121) = true := by decide +kernel
set_option maxRecDepth 100000 in
theorem pg_k122 : pg_o122.all (ev_chk 122) = true := by decide +kernel
set_option maxRecDepth 100000 in
theorem pg_k123 : pg_o123.all (ev_chk 123) = true := by decide +kernel
set_option maxRecDepth 100000 in
theorem pg_k124 : pg_o124.all (ev_chk 124) = true := by decide +kernel
set_option maxRecDepth 100000 in
theorem pg_k125 : pg_o125.all (ev_chk 125) = true := by decide +kernel
set_option maxRecDepth 100000 in
theorem pg_k126 : pg_o126.all (ev_chk 126) = true := by decide +kernel
set_option maxRecDepth 100000 in
theorem pg_k127 : pg_o127.all (ev_chk 127) = true := by decide +kernel
set_option maxRecDepth 100000 in
theorem pg_k128 : pg_o128.all (ev_chk 128) = true := by decide +kernel
set_option maxRecDepth 100000 in
theorem pg_k129 : pg_o129.all (ev_chk 129) = true := by decide +kernel
set_option maxRecDepth 100000 in
theorem pg_k130 : pg_o130.all (ev_chk 130) = true := by decide +kernel
set_option maxRecDepth 100000 in
theorem pg_k131 : pg_o131.all (ev_chk 131) = true := by decide +kernel
set_option maxRecDepth 100000 in
theorem pg_k132 : pg_o132.all (ev_chk 132) = true := by decide +kernel
set_option maxRecDepth 100000 in
theorem pg_k133 : pg_o133.all (ev_chk 133) = true := by decide +kernel
set_option maxRecDepth 100000 in
theorem pg_k134 : pg_o134.all (ev_chk 134) = true := by decide +kernel
set_option maxRecDepth 100000 in
theorem pg_k135 : pg_o135.all (ev_chk 135) = true := by decide +kernel
set_option maxRecDepth 100000 in
theorem pg_k136 : pg_o136.all (ev_chk 136) = true := by decide +kernel
set_option maxRecDepth 100000 in
theorem pg_k137 : pg_o137.all (ev_chk 137) = true := by decide +kernel
set_option maxRecDepth 100000 in
theorem pg_k138 : pg_o138.all (ev_chk 138) = true := by decide +kernel
set_option maxRecDepth 100000 in
theorem pg_k139 : pg_o139.all (ev_chk 139) = true := by decide +kernel
set_option maxRecDepth 100000 in
theorem pg_k140 : pg_o140.all (ev_chk 140) = true := by decide +kernel
set_option maxRecDepth 100000 in
theorem pg_k141 : pg_o141.all (ev_chk 141) = true := by decide +kernel
set_option maxRecDepth 100000 in
theorem pg_k142 : pg_o142.all (ev_chk 142) = true := by decide +kernel
set_option maxRecDepth 100000 in
theorem pg_k143 : pg_o143.all (ev_chk 143) = true := by decide +kernel
set_option maxRecDepth 100000 in
theorem pg_k144 : pg_o144.all (ev_chk 144) = true := by decide +kernel
set_option maxRecDepth 100000 in
theorem pg_k145 : pg_o145.all (ev_chk 145) = true := by decide +kernel
set_option maxRecDepth 100000 in
theorem pg_k146 : pg_o146.all (ev_chk 146) = true := by decide +kernel
set_option maxRecDepth 100000 in
theorem pg_k147 : pg_o147.all (ev_chk 147) = true := by decide +kernel
set_option maxRecDepth 100000 in
theorem pg_k148 : pg_o148.all (ev_chk 148) = true := by decide +kernel
set_option maxRecDepth 100000 in
theorem pg_k149 : pg_o149.all (ev_chk 149) = true := by decide +kernel
set_option maxRecDepth 100000 in
theorem pg_k150 : pg_o150.all (ev_chk 150) = true := by decide +kernel
set_option maxRecDepth 100000 in
theorem pg_k151 : pg_o151.all (ev_chk 151) = true := by decide +kernel
set_option maxRecDepth 100000 in
theorem pg_k152 : pg_o152.all (ev_chk 152) = true := by decide +kernel
set_option maxRecDepth 100000 in
theorem pg_k153 : pg_o153.all (ev_chk 153) = true := by decide +kernel
set_option maxRecDepth 100000 in
theorem pg_k154 : pg_o154.all (ev_chk 154) = true := by decide +kernel
set_option maxRecDepth 100000 in
theorem pg_k155 : pg_o155.all (ev_chk 155) = true := by decide +kernel
set_option maxRecDepth 100000 in
theorem pg_k156 : pg_o156.all (ev_chk 156) = true := by decide +kernel
set_option maxRecDepth 100000 in
theorem pg_k157 : pg_o157.all (ev_chk 157) = true := by decide +kernel
end
section
/-! The code words of the methods. -/
set_option maxRecDepth 100000 in
theorem pg_w0 : lw_tbl[74]? = some (.code (pg_y 0) (pg_b 0) (pg_L 0) (pg_r 0)) := rfl
set_option maxRecDepth 100000 in
theorem pg_w1 : lw_tbl[77]? = some (.code (pg_y 1) (pg_b 1) (pg_L 1) (pg_r 1)) := rfl
set_option maxRecDepth 100000 in
theorem pg_w2 : lw_tbl[82]? = some (.code (pg_y 2) (pg_b 2) (pg_L 2) (pg_r 2)) := rfl
set_option maxRecDepth 100000 in
theorem pg_w3 : lw_tbl[86]? = some (.code (pg_y 3) (pg_b 3) (pg_L 3) (pg_r 3)) := rfl
set_option maxRecDepth 100000 in
theorem pg_w4 : lw_tbl[99]? = some (.code (pg_y 4) (pg_b 4) (pg_L 4) (pg_r 4)) := rfl
set_option maxRecDepth 100000 in
theorem pg_w5 : lw_tbl[138]? = some (.code (pg_y 5) (pg_b 5) (pg_L 5) (pg_r 5)) := rfl
set_option maxRecDepth 100000 in
theorem pg_w6 : lw_tbl[154]? = some (.code (pg_y 6) (pg_b 6) (pg_L 6) (pg_r 6)) := rfl
set_option maxRecDepth 100000 in
theorem pg_w7 : lw_tbl[172]? = some (.code (pg_y 7) (pg_b 7) (pg_L 7) (pg_r 7)) := rfl
set_option maxRecDepth 100000 in
theorem pg_w8 : lw_tbl[202]? = some (.code (pg_y 8) (pg_b 8) (pg_L 8) (pg_r 8)) := rfl
set_option maxRecDepth 100000 in
theorem pg_w9 : lw_tbl[206]? = some (.code (pg_y 9) (pg_b 9) (pg_L 9) (pg_r 9)) := rfl
set_option maxRecDepth 100000 in
theorem pg_w10 : lw_tbl[210]? = some (.code (pg_y 10) (pg_b 10) (pg_L 10) (pg_r 10)) := rfl
set_option maxRecDepth 100000 in
theorem pg_w11 : lw_tbl[214]? = some (.code (pg_y 11) (pg_b 11) (pg_L 11) (pg_r 11)) := rfl
set_option maxRecDepth 100000 in
theorem pg_w12 : lw_tbl[218]? = some (.code (pg_y 12) (pg_b 12) (pg_L 12) (pg_r 12)) := rfl
set_option maxRecDepth 100000 in
theorem pg_w13 : lw_tbl[222]? = some (.code (pg_y 13) (pg_b 13) (pg_L 13) (pg_r 13)) := rfl
set_option maxRecDepth 100000 in
theorem pg_w14 : lw_tbl[226]? = some (.code (pg_y 14) (pg_b 14) (pg_L 14) (pg_r 14)) := rfl
set_option maxRecDepth 100000 in
theorem pg_w15 : lw_tbl[231]? = some (.code (pg_y 15) (pg_b 15) (pg_L 15) (pg_r 15)) := rfl
set_option maxRecDepth 100000 in
theorem pg_w16 : lw_tbl[235]? = some (.code (pg_y 16) (pg_b 16) (pg_L 16) (pg_r 16)) := rfl
set_option maxRecDepth 100000 in
theorem pg_w17 : lw_tbl[239]? = some (.code (pg_y 17) (pg_b 17) (pg_L 17) (pg_r 17)) := rfl
set_option maxRecDepth 100000 in
theorem pg_w18 : lw_tbl[243]? = some (.code (pg_y 18) (pg_b 18) (pg_L 18) (pg_r 18)) := rfl
set_option maxRecDepth 100000 in
theorem pg_w19 : lw_tbl[247]? = some (.code (pg_y 19) (pg_b 19) (pg_L 19) (pg_r 19)) := rfl
set_option maxRecDepth 100000 in
theorem pg_w20 : lw_tbl[250]? = some (.code (pg_y 20) (pg_b 20) (pg_L 20) (pg_r 20)) := rfl
set_option maxRecDepth 100000 in
theorem pg_w21 : lw_tbl[253]? = some (.code (pg_y 21) (pg_b 21) (pg_L 21) (pg_r 21)) := rfl
set_option maxRecDepth 100000 in
theorem pg_w22 : lw_tbl[256]? = some (.code (pg_y 22) (pg_b 22) (pg_L 22) (pg_r 22)) := rfl
set_option maxRecDepth 100000 in
theorem pg_w23 : lw_tbl[261]? = some (.code (pg_y 23) (pg_b 23) (pg_L 23) (pg_r 23)) := rfl
set_option maxRecDepth 100000 in
theorem pg_w24 : lw_tbl[264]? = some (.code (pg_y 24) (pg_b 24) (pg_L 24) (pg_r 24)) := rfl
set_option maxRecDepth 100000 in
theorem pg_w25 : lw_tbl[268]? = some (.code (pg_y 25) (pg_b 25) (pg_L 25) (pg_r 25)) := rfl
set_option maxRecDepth 100000 in
theorem pg_w26 : lw_tbl[272]? = some (.code (pg_y 26) (pg_b 26) (pg_L 26) (pg_r 26)) := rfl
set_option maxRecDepth 100000 in
theorem pg_w27 : lw_tbl[275]? = some (.code (pg_y 27) (pg_b 27) (pg_L 27) (pg_r 27)) := rfl
set_option maxRecDepth 100000 in
theorem pg_w28 : lw_tbl[279]? = some (.code (pg_y 28) (pg_b 28) (pg_L 28) (pg_r 28)) := rfl
set_option maxRecDepth 100000 in
theorem pg_w29 : lw_tbl[282]? = some (.code (pg_y 29) (pg_b 29) (pg_L 29) (pg_r 29)) := rfl
set_option maxRecDepth 100000 in
theorem pg_w30 : lw_tbl[286]? = some (.code (pg_y 30) (pg_b 30) (pg_L 30) (pg_r 30)) := rfl
set_option maxRecDepth 100000 in
theorem pg_w31 : lw_tbl[291]? = some (.code (pg_y 31) (pg_b 31) (pg_L 31) (pg_r 31)) := rfl
set_option maxRecDepth 100000 in
theorem pg_w32 : lw_tbl[295]? = some (.code (pg_y 32) (pg_b 32) (pg_L 32) (pg_r 32)) := rfl
set_option maxRecDepth 100000 in
theorem pg_w33 : lw_tbl[299]? = some (.code (pg_y 33) (pg_b 33) (pg_L 33) (pg_r 33)) := rfl
set_option maxRecDepth 100000 in
theorem pg_w34 : lw_tbl[305]? = some (.code (pg_y 34) (pg_b 34) (pg_L 34) (pg_r 34)) := rfl
set_option maxRecDepth 100000 in
theorem pg_w35 : lw_tbl[309]? = some (.code (pg_y 35) (pg_b 35) (pg_L 35) (pg_r 35)) := rfl
set_option maxRecDepth 100000 in
theorem pg_w36 : lw_tbl[312]? = some (.code (pg_y 36) (pg_b 36) (pg_L 36) (pg_r 36)) := rfl
set_option maxRecDepth 100000 in
theorem pg_w37 : lw_tbl[315]? = some (.code (pg_y 37) (pg_b 37) (pg_L 37) (pg_r 37)) := rfl
set_option maxRecDepth 100000 in
theorem pg_w38 : lw_tbl[320]? = some (.code (pg_y 38) (pg_b 38) (pg_L 38) (pg_r 38)) := rfl
set_option maxRecDepth 100000 in
theorem pg_w39 : lw_tbl[323]? = some (.code (pg_y 39) (pg_b 39) (pg_L 39) (pg_r 39)) := rfl
set_option maxRecDepth 100000 in
theorem pg_w40 : lw_tbl[326]? = some (.code (pg_y 40) (pg_b 40) (pg_L 40) (pg_r 40)) := rfl
set_option maxRecDepth 100000 in
theorem pg_w41 : lw_tbl[329]? = some (.code (pg_y 41) (pg_b 41) (pg_L 41) (pg_r 41)) := rfl
set_option maxRecDepth 100000 in
theorem pg_w42 : lw_tbl[333]? = some (.code (pg_y 42) (pg_b 42) (pg_L 42) (pg_r 42)) := rfl
set_option maxRecDepth 100000 in
theorem pg_w43 : lw_tbl[343]? = some (.code (pg_y 43) (pg_b 43) (pg_L 43) (pg_r 43)) := rfl
set_option maxRecDepth 100000 in
theorem pg_w44 : lw_tbl[347]? = some (.code (pg_y 44) (pg_b 44) (pg_L 44) (pg_r 44)) := rfl
set_option maxRecDepth 100000 in
theorem pg_w45 : lw_tbl[351]? = some (.code (pg_y 45) (pg_b 45) (pg_L 45) (pg_r 45)) := rfl
set_option maxRecDepth 100000 in
theorem pg_w46 : lw_tbl[356]? = some (.code (pg_y 46) (pg_b 46) (pg_L 46) (pg_r 46)) := rfl
set_option maxRecDepth 100000 in
theorem pg_w47 : lw_tbl[361]? = some (.code (pg_y 47) (pg_b 47) (pg_L 47) (pg_r 47)) := rfl
set_option maxRecDepth 100000 in
theorem pg_w48 : lw_tbl[366]? = some (.code (pg_y 48) (pg_b 48) (pg_L 48) (pg_r 48)) := rfl
set_option maxRecDepth 100000 in
theorem pg_w49 : lw_tbl[373]? = some (.code (pg_y 49) (pg_b 49) (pg_L 49) (pg_r 49)) := rfl
set_option maxRecDepth 100000 in
theorem pg_w50 : lw_tbl[381]? = some (.code (pg_y 50) (pg_b 50) (pg_L 50) (pg_r 50)) := rfl
set_option maxRecDepth 100000 in
theorem pg_w51 : lw_tbl[385]? = some (.code (pg_y 51) (pg_b 51) (pg_L 51) (pg_r 51)) := rfl
set_option maxRecDepth 100000 in
theorem pg_w52 : lw_tbl[389]? = some (.code (pg_y 52) (pg_b 52) (pg_L 52) (pg_r 52)) := rfl
set_option maxRecDepth 100000 in
theorem pg_w53 : lw_tbl[393]? = some (.code (pg_y 53) (pg_b 53) (pg_L 53) (pg_r 53)) := rfl
set_option maxRecDepth 100000 in
theorem pg_w54 : lw_tbl[397]? = some (.code (pg_y 54) (pg_b 54) (pg_L 54) (pg_r 54)) := rfl
set_option maxRecDepth 100000 in
theorem pg_w55 : lw_tbl[401]? = some (.code (pg_y 55) (pg_b 55) (pg_L 55) (pg_r 55)) := rfl
set_option maxRecDepth 100000 in
theorem pg_w56 : lw_tbl[404]? = some (.code (pg_y 56) (pg_b 56) (pg_L 56) (pg_r 56)) := rfl
set_option maxRecDepth 100000 in
theorem pg_w57 : lw_tbl[407]? = some (.code (pg_y 57) (pg_b 57) (pg_L 57) (pg_r 57)) := rfl
set_option maxRecDepth 100000 in
theorem pg_w58 : lw_tbl[411]? = some (.code (pg_y 58) (pg_b 58) (pg_L 58) (pg_r 58)) := rfl
set_option maxRecDepth 100000 in
theorem pg_w59 : lw_tbl[417]? = some (.code (pg_y 59) (pg_b 59) (pg_L 59) (pg_r 59)) := rfl
set_option maxRecDepth 100000 in
theorem pg_w60 : lw_tbl[424]? = some (.code (pg_y 60) (pg_b 60) (pg_L 60) (pg_r 60)) := rfl
set_option maxRecDepth 100000 in
theorem pg_w61 : lw_tbl[429]? = some (.code (pg_y 61) (pg_b 61) (pg_L 61) (pg_r 61)) := rfl
set_option maxRecDepth 100000 in
theorem pg_w62 : lw_tbl[434]? = some (.code (pg_y 62) (pg_b 62) (pg_L 62) (pg_r 62)) := rfl
set_option maxRecDepth 100000 in
theorem pg_w63 : lw_tbl[438]? = some (.code (pg_y 63) (pg_b 63) (pg_L 63) (pg_r 63)) := rfl
set_option maxRecDepth 100000 in
theorem pg_w64 : lw_tbl[442]? = some (.code (pg_y 64) (pg_b 64) (pg_L 64) (pg_r 64)) := rfl
set_option maxRecDepth 100000 in
theorem pg_w65 : lw_tbl[445]? = some (.code (pg_y 65) (pg_b 65) (pg_L 65) (pg_r 65)) := rfl
set_option maxRecDepth 100000 in
theorem pg_w66 : lw_tbl[452]? = some (.code (pg_y 66) (pg_b 66) (pg_L 66) (pg_r 66)) := rfl
set_option maxRecDepth 100000 in
theorem pg_w67 : lw_tbl[457]? = some (.code (pg_y 67) (pg_b 67) (pg_L 67) (pg_r 67)) := rfl
set_option maxRecDepth 100000 in
theorem pg_w68 : lw_tbl[461]? = some (.code (pg_y 68) (pg_b 68) (pg_L 68) (pg_r 68)) := rfl
set_option maxRecDepth 100000 in
theorem pg_w69 : lw_tbl[465]? = some (.code (pg_y 69) (pg_b 69) (pg_L 69) (pg_r 69)) := rfl
set_option maxRecDepth 100000 in
theorem pg_w70 : lw_tbl[469]? = some (.code (pg_y 70) (pg_b 70) (pg_L 70) (pg_r 70)) := rfl
set_option maxRecDepth 100000 in
theorem pg_w71 : lw_tbl[473]? = some (.code (pg_y 71) (pg_b 71) (pg_L 71) (pg_r 71)) := rfl
set_option maxRecDepth 100000 in
theorem pg_w72 : lw_tbl[478]? = some (.code (pg_y 72) (pg_b 72) (pg_L 72) (pg_r 72)) := rfl
set_option maxRecDepth 100000 in
theorem pg_w73 : lw_tbl[482]? = some (.code (pg_y 73) (pg_b 73) (pg_L 73) (pg_r 73)) := rfl
set_option maxRecDepth 100000 in
theorem pg_w74 : lw_tbl[486]? = some (.code (pg_y 74) (pg_b 74) (pg_L 74) (pg_r 74)) := rfl
set_option maxRecDepth 100000 in
theorem pg_w75 : lw_tbl[490]? = some (.code (pg_y 75) (pg_b 75) (pg_L 75) (pg_r 75)) := rfl
set_option maxRecDepth 100000 in
theorem pg_w76 : lw_tbl[496]? = some (.code (pg_y 76) (pg_b 76) (pg_L 76) (pg_r 76)) := rfl
set_option maxRecDepth 100000 in
theorem pg_w77 : lw_tbl[501]? = some (.code (pg_y 77) (pg_b 77) (pg_L 77) (pg_r 77)) := rfl
set_option maxRecDepth 100000 in
theorem pg_w78 : lw_tbl[506]? = some (.code (pg_y 78) (pg_b 78) (pg_L 78) (pg_r 78)) := rfl
set_option maxRecDepth 100000 in
theorem pg_w79 : lw_tbl[509]? = some (.code (pg_y 79) (pg_b 79) (pg_L 79) (pg_r 79)) := rfl
set_option maxRecDepth 100000 in
theorem pg_w80 : lw_tbl[513]? = some (.code (pg_y 80) (pg_b 80) (pg_L 80) (pg_r 80)) := rfl
set_option maxRecDepth 100000 in
theorem pg_w81 : lw_tbl[523]? = some (.code (pg_y 81) (pg_b 81) (pg_L 81) (pg_r 81)) := rfl
set_option maxRecDepth 100000 in
theorem pg_w82 : lw_tbl[527]? = some (.code (pg_y 82) (pg_b 82) (pg_L 82) (pg_r 82)) := rfl
set_option maxRecDepth 100000 in
theorem pg_w83 : lw_tbl[535]? = some (.code (pg_y 83) (pg_b 83) (pg_L 83) (pg_r 83)) := rfl
set_option maxRecDepth 100000 in
theorem pg_w84 : lw_tbl[539]? = some (.code (pg_y 84) (pg_b 84) (pg_L 84) (pg_r 84)) := rfl
set_option maxRecDepth 100000 in
theorem pg_w85 : lw_tbl[543]? = some (.code (pg_y 85) (pg_b 85) (pg_L 85) (pg_r 85)) := rfl
set_option maxRecDepth 100000 in
theorem pg_w86 : lw_tbl[547]? = some (.code (pg_y 86) (pg_b 86) (pg_L 86) (pg_r 86)) := rfl
set_option maxRecDepth 100000 in
theorem pg_w87 : lw_tbl[552]? = some (.code (pg_y 87) (pg_b 87) (pg_L 87) (pg_r 87)) := rfl
set_option maxRecDepth 100000 in
theorem pg_w88 : lw_tbl[556]? = some (.code (pg_y 88) (pg_b 88) (pg_L 88) (pg_r 88)) := rfl
set_option maxRecDepth 100000 in
theorem pg_w89 : lw_tbl[560]? = some (.code (pg_y 89) (pg_b 89) (pg_L 89) (pg_r 89)) := rfl
set_option maxRecDepth 100000 in
theorem pg_w90 : lw_tbl[565]? = some (.code (pg_y 90) (pg_b 90) (pg_L 90) (pg_r 90)) := rfl
set_option maxRecDepth 100000 in
theorem pg_w91 : lw_tbl[569]? = some (.code (pg_y 91) (pg_b 91) (pg_L 91) (pg_r 91)) := rfl
set_option maxRecDepth 100000 in
theorem pg_w92 : lw_tbl[573]? = some (.code (pg_y 92) (pg_b 92) (pg_L 92) (pg_r 92)) := rfl
set_option maxRecDepth 100000 in
theorem pg_w93 : lw_tbl[578]? = some (.code (pg_y 93) (pg_b 93) (pg_L 93) (pg_r 93)) := rfl
set_option maxRecDepth 100000 in
theorem pg_w94 : lw_tbl[583]? = some (.code (pg_y 94) (pg_b 94) (pg_L 94) (pg_r 94)) := rfl
set_option maxRecDepth 100000 in
theorem pg_w95 : lw_tbl[589]? = some (.code (pg_y 95) (pg_b 95) (pg_L 95) (pg_r 95)) := rfl
set_option maxRecDepth 100000 in
theorem pg_w96 : lw_tbl[593]? = some (.code (pg_y 96) (pg_b 96) (pg_L 96) (pg_r 96)) := rfl
set_option maxRecDepth 100000 in
theorem pg_w97 : lw_tbl[598]? = some (.code (pg_y 97) (pg_b 97) (pg_L 97) (pg_r 97)) := rfl
set_option maxRecDepth 100000 in
theorem pg_w98 : lw_tbl[678]? = some (.code (pg_y 98) (pg_b 98) (pg_L 98) (pg_r 98)) := rfl
set_option maxRecDepth 100000 in
theorem pg_w99 : lw_tbl[683]? = some (.code (pg_y 99) (pg_b 99) (pg_L 99) (pg_r 99)) := rfl
set_option maxRecDepth 100000 in
theorem pg_w100 : lw_tbl[687]? = some (.code (pg_y 100) (pg_b 100) (pg_L 100) (pg_r 100)) := rfl
set_option maxRecDepth 100000 in
theorem pg_w101 : lw_tbl[691]? = some (.code (pg_y 101) (pg_b 101) (pg_L 101) (pg_r 101)) := rfl
set_option maxRecDepth 100000 in
theorem pg_w102 : lw_tbl[695]? = some (.code (pg_y 102) (pg_b 102) (pg_L 102) (pg_r 102)) := rfl
set_option maxRecDepth 100000 in
theorem pg_w103 : lw_tbl[699]? = some (.code (pg_y 103) (pg_b 103) (pg_L 103) (pg_r 103)) := rfl
set_option maxRecDepth 100000 in
theorem pg_w104 : lw_tbl[703]? = some (.code (pg_y 104) (pg_b 104) (pg_L 104) (pg_r 104)) := rfl
set_option maxRecDepth 100000 in
theorem pg_w105 : lw_tbl[707]? = some (.code (pg_y 105) (pg_b 105) (pg_L 105) (pg_r 105)) := rfl
set_option maxRecDepth 100000 in
theorem pg_w106 : lw_tbl[711]? = some (.code (pg_y 106) (pg_b 106) (pg_L 106) (pg_r 106)) := rfl
set_option maxRecDepth 100000 in
theorem pg_w107 : lw_tbl[715]? = some (.code (pg_y 107) (pg_b 107) (pg_L 107) (pg_r 107)) := rfl
set_option maxRecDepth 100000 in
theorem pg_w108 : lw_tbl[719]? = some (.code (pg_y 108) (pg_b 108) (pg_L 108) (pg_r 108)) := rfl
set_option maxRecDepth 100000 in
theorem pg_w109 : lw_tbl[722]? = some (.code (pg_y 109) (pg_b 109) (pg_L 109) (pg_r 109)) := rfl
set_option maxRecDepth 100000 in
theorem pg_w110 : lw_tbl[725]? = some (.code (pg_y 110) (pg_b 110) (pg_L 110) (pg_r 110)) := rfl
set_option maxRecDepth 100000 in
theorem pg_w111 : lw_tbl[728]? = some (.code (pg_y 111) (pg_b 111) (pg_L 111) (pg_r 111)) := rfl
set_option maxRecDepth 100000 in
theorem pg_w112 : lw_tbl[732]? = some (.code (pg_y 112) (pg_b 112) (pg_L 112) (pg_r 112)) := rfl
set_option maxRecDepth 100000 in
theorem pg_w113 : lw_tbl[736]? = some (.code (pg_y 113) (pg_b 113) (pg_L 113) (pg_r 113)) := rfl
set_option maxRecDepth 100000 in
theorem pg_w114 : lw_tbl[739]? = some (.code (pg_y 114) (pg_b 114) (pg_L 114) (pg_r 114)) := rfl
set_option maxRecDepth 100000 in
theorem pg_w115 : lw_tbl[743]? = some (.code (pg_y 115) (pg_b 115) (pg_L 115) (pg_r 115)) := rfl
set_option maxRecDepth 100000 in
theorem pg_w116 : lw_tbl[747]? = some (.code (pg_y 116) (pg_b 116) (pg_L 116) (pg_r 116)) := rfl
set_option maxRecDepth 100000 in
theorem pg_w117 : lw_tbl[751]? = some (.code (pg_y 117) (pg_b 117) (pg_L 117) (pg_r 117)) := rfl
set_option maxRecDepth 100000 in
theorem pg_w118 : lw_tbl[755]? = some (.code (pg_y 118) (pg_b 118) (pg_L 118) (pg_r 118)) := rfl
set_option maxRecDepth 100000 in
theorem pg_w119 : lw_tbl[760]? = some (.code (pg_y 119) (pg_b 119) (pg_L 119) (pg_r 119)) := rfl
set_option maxRecDepth 100000 in
theorem pg_w120 : lw_tbl[767]? = some (.code (pg_y 120) (pg_b 120) (pg_L 120) (pg_r 120)) := rfl
set_option maxRecDepth 100000 in
theorem pg_w121 : lw_tbl[771]? = some (.code (pg_y 121) (pg_b 121) (pg_L 121) (pg_r 121)) := rfl
set_option maxRecDepth 100000 in
theorem pg_w122 : lw_tbl[777]? = some (.code (pg_y 122) (pg_b 122) (pg_L 122) (pg_r 122)) := rfl
set_option maxRecDepth 100000 in
theorem pg_w123 : lw_tbl[781]? = some (.code (pg_y 123) (pg_b 123) (pg_L 123) (pg_r 123)) := rfl
set_option maxRecDepth 100000 in
theorem pg_w124 : lw_tbl[787]? = some (.code (pg_y 124) (pg_b 124) (pg_L 124) (pg_r 124)) := rfl
set_option maxRecDepth 100000 in
theorem pg_w125 : lw_tbl[791]? = some (.code (pg_y 125) (pg_b 125) (pg_L 125) (pg_r 125)) := rfl
set_option maxRecDepth 100000 in
theorem pg_w126 : lw_tbl[795]? = some (.code (pg_y 126) (pg_b 126) (pg_L 126) (pg_r 126)) := rfl
set_option maxRecDepth 100000 in
theorem pg_w127 : lw_tbl[800]? = some (.code (pg_y 127) (pg_b 127) (pg_L 127) (pg_r 127)) := rfl
set_option maxRecDepth 100000 in
theorem pg_w128 : lw_tbl[804]? = some (.code (pg_y 128) (pg_b 128) (pg_L 128) (pg_r 128)) := rfl
set_option maxRecDepth 100000 in
theorem pg_w129 : lw_tbl[808]? = some (.code (pg_y 129) (pg_b 129) (pg_L 129) (pg_r 129)) := rfl
set_option maxRecDepth 100000 in
theorem pg_w130 : lw_tbl[812]? = some (.code (pg_y 130) (pg_b 130) (pg_L 130) (pg_r 130)) := rfl
set_option maxRecDepth 100000 in
theorem pg_w131 : lw_tbl[819]? = some (.code (pg_y 131) (pg_b 131) (pg_L 131) (pg_r 131)) := rfl
set_option maxRecDepth 100000 in
theorem pg_w132 : lw_tbl[823]? = some (.code (pg_y 132) (pg_b 132) (pg_L 132) (pg_r 132)) := rfl
set_option maxRecDepth 100000 in
theorem pg_w133 : lw_tbl[827]? = some (.code (pg_y 133) (pg_b 133) (pg_L 133) (pg_r 133)) := rfl
set_option maxRecDepth 100000 in
theorem pg_w134 : lw_tbl[831]? = some (.code (pg_y 134) (pg_b 134) (pg_L 134) (pg_r 134)) := rfl
set_option maxRecDepth 100000 in
theorem pg_w135 : lw_tbl[835]? = some (.code (pg_y 135) (pg_b 135) (pg_L 135) (pg_r 135)) := rfl
set_option maxRecDepth 100000 in
theorem pg_w136 : lw_tbl[839]? = some (.code (pg_y 136) (pg_b 136) (pg_L 136) (pg_r 136)) := rfl
set_option maxRecDepth 100000 in
theorem pg_w137 : lw_tbl[843]? = some (.code (pg_y 137) (pg_b 137) (pg_L 137) (pg_r 137)) := rfl
set_option maxRecDepth 100000 in
theorem pg_w138 : lw_tbl[847]? = some (.code (pg_y 138) (pg_b 138) (pg_L 138) (pg_r 138)) := rfl
set_option maxRecDepth 100000 in
theorem pg_w139 : lw_tbl[851]? = some (.code (pg_y 139) (pg_b 139) (pg_L 139) (pg_r 139)) := rfl
set_option maxRecDepth 100000 in
theorem pg_w140 : lw_tbl[855]? = some (.code (pg_y 140) (pg_b 140) (pg_L 140) (pg_r 140)) := rfl
set_option maxRecDepth 100000 in
theorem pg_w141 : lw_tbl[860]? = some (.code (pg_y 141) (pg_b 141) (pg_L 141) (pg_r 141)) := rfl
set_option maxRecDepth 100000 in
theorem pg_w142 : lw_tbl[864]? = some (.code (pg_y 142) (pg_b 142) (pg_L 142) (pg_r 142)) := rfl
set_option maxRecDepth 100000 in
theorem pg_w143 : lw_tbl[868]? = some (.code (pg_y 143) (pg_b 143) (pg_L 143) (pg_r 143)) := rfl
set_option maxRecDepth 100000 in
theorem pg_w144 : lw_tbl[872]? = some (.code (pg_y 144) (pg_b 144) (pg_L 144) (pg_r 144)) := rfl
set_option maxRecDepth 100000 in
theorem pg_w145 : lw_tbl[876]? = some (.code (pg_y 145) (pg_b 145) (pg_L 145) (pg_r 145)) := rfl
set_option maxRecDepth 100000 in
theorem pg_w146 : lw_tbl[880]? = some (.code (pg_y 146) (pg_b 146) (pg_L 146) (pg_r 146)) := rfl
set_option maxRecDepth 100000 in
theorem pg_w147 : lw_tbl[883]? = some (.code (pg_y 147) (pg_b 147) (pg_L 147) (pg_r 147)) := rfl
set_option maxRecDepth 100000 in
theorem pg_w148 : lw_tbl[887]? = some (.code (pg_y 148) (pg_b 148) (pg_L 148) (pg_r 148)) := rfl
set_option maxRecDepth 100000 in
theorem pg_w149 : lw_tbl[891]? = some (.code (pg_y 149) (pg_b 149) (pg_L 149) (pg_r 149)) := rfl
set_option maxRecDepth 100000 in
theorem pg_w150 : lw_tbl[895]? = some (.code (pg_y 150) (pg_b 150) (pg_L 150) (pg_r 150)) := rfl
set_option maxRecDepth 100000 in
theorem pg_w151 : lw_tbl[899]? = some (.code (pg_y 151) (pg_b 151) (pg_L 151) (pg_r 151)) := rfl
set_option maxRecDepth 100000 in
theorem pg_w152 : lw_tbl[903]? = some (.code (pg_y 152) (pg_b 152) (pg_L 152) (pg_r 152)) := rfl
set_option maxRecDepth 100000 in
theorem pg_w153 : lw_tbl[907]? = some (.code (pg_y 153) (pg_b 153) (pg_L 153) (pg_r 153)) := rfl
set_option maxRecDepth 100000 in
theorem pg_w154 : lw_tbl[911]? = some (.code (pg_y 154) (pg_b 154) (pg_L 154) (pg_r 154)) := rfl
set_option maxRecDepth 100000 in
theorem pg_w155 : lw_tbl[914]? = some (.code (pg_y 155) (pg_b 155) (pg_L 155) (pg_r 155)) := rfl
set_option maxRecDepth 100000 in
theorem pg_w156 : lw_tbl[918]? = some (.code (pg_y 156) (pg_b 156) (pg_L 156) (pg_r 156)) := rfl
end
