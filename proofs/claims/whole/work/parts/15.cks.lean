set_option maxRecDepth 100000 in
theorem am_ck0 : am_chk false 9 (am_md 0) = true := by decide +kernel
set_option maxRecDepth 100000 in
theorem am_ck1 : am_chk false 9 (am_md 1) = true := by decide +kernel
set_option maxRecDepth 100000 in
theorem am_ck2 : am_chk false 9 (am_md 2) = true := by decide +kernel
set_option maxRecDepth 100000 in
theorem am_ck3 : am_chk false 9 (am_md 3) = true := by decide +kernel
set_option maxRecDepth 100000 in
theorem am_ck4 : am_chk false 9 (am_md 4) = true := by decide +kernel
set_option maxRecDepth 100000 in
theorem am_ck5 : am_chk false 9 (am_md 5) = true := by decide +kernel
set_option maxRecDepth 100000 in
theorem am_ck6 : am_chk false 9 (am_md 6) = true := by decide +kernel
set_option maxRecDepth 100000 in
theorem am_ck7 : am_chk false 9 (am_md 7) = true := by decide +kernel
set_option maxRecDepth 100000 in
theorem am_ck8 : am_chk false 9 (am_md 8) = true := by decide +kernel
set_option maxRecDepth 100000 in
theorem am_ck9 : am_chk false 9 (am_md 9) = true := by decide +kernel
set_option maxRecDepth 100000 in
theorem am_ck10 : am_chk false 9 (am_md 10) = true := by decide +kernel
set_option maxRecDepth 100000 in
theorem am_ck11 : am_chk false 9 (am_md 11) = true := by decide +kernel
set_option maxRecDepth 100000 in
theorem am_ck12 : am_chk false 9 (am_md 12) = true := by decide +kernel
set_option maxRecDepth 100000 in
theorem am_ck13 : am_chk false 9 (am_md 13) = true := by decide +kernel
set_option maxRecDepth 100000 in
theorem am_ck14 : am_chk false 9 (am_md 14) = true := by decide +kernel
set_option maxRecDepth 100000 in
theorem am_ck15 : am_chk false 9 (am_md 15) = true := by decide +kernel
set_option maxRecDepth 100000 in
theorem am_ck16 : am_chk false 9 (am_md 16) = true := by decide +kernel
set_option maxRecDepth 100000 in
theorem am_ck17 : am_chk false 9 (am_md 17) = true := by decide +kernel
set_option maxRecDepth 100000 in
theorem am_ck18 : am_chk false 10 (am_md 18) = true := by decide +kernel
set_option maxRecDepth 100000 in
theorem am_ck19 : am_chk false 10 (am_md 19) = true := by decide +kernel
set_option maxRecDepth 100000 in
theorem am_ck20 : am_chk false 10 (am_md 20) = true := by decide +kernel
set_option maxRecDepth 100000 in
theorem am_ck21 : am_chk false 10 (am_md 21) = true := by decide +kernel
set_option maxRecDepth 100000 in
theorem am_ck22 : am_chk false 10 (am_md 22) = true := by decide +kernel
set_option maxRecDepth 100000 in
theorem am_ck23 : am_chk false 10 (am_md 23) = true := by decide +kernel
set_option maxRecDepth 100000 in
theorem am_ck24 : am_chk false 10 (am_md 24) = true := by decide +kernel
set_option maxRecDepth 100000 in
theorem am_ck25 : am_chk false 10 (am_md 25) = true := by decide +kernel
set_option maxRecDepth 100000 in
theorem am_ck26 : am_chk false 10 (am_md 26) = true := by decide +kernel
set_option maxRecDepth 100000 in
theorem am_ck27 : am_chk false 10 (am_md 27) = true := by decide +kernel
set_option maxRecDepth 100000 in
theorem am_ck28 : am_chk false 10 (am_md 28) = true := by decide +kernel
set_option maxRecDepth 100000 in
theorem am_ck29 : am_chk false 10 (am_md 29) = true := by decide +kernel
set_option maxRecDepth 100000 in
theorem am_ck30 : am_chk false 10 (am_md 30) = true := by decide +kernel
set_option maxRecDepth 100000 in
theorem am_ck31 : am_chk false 10 (am_md 31) = true := by decide +kernel
set_option maxRecDepth 100000 in
theorem am_ck32 : am_chk false 10 (am_md 32) = true := by decide +kernel
set_option maxRecDepth 100000 in
theorem am_ck33 : am_chk false 10 (am_md 33) = true := by decide +kernel
set_option maxRecDepth 100000 in
theorem am_ck34 : am_chk false 10 (am_md 34) = true := by decide +kernel
set_option maxRecDepth 100000 in
theorem am_ck35 : am_chk false 10 (am_md 35) = true := by decide +kernel
set_option maxRecDepth 100000 in
theorem am_ck36 : am_chk false 10 (am_md 36) = true := by decide +kernel
set_option maxRecDepth 100000 in
theorem am_ck37 : am_chk false 10 (am_md 37) = true := by decide +kernel
set_option maxRecDepth 100000 in
theorem am_ck38 : am_chk false 10 (am_md 38) = true := by decide +kernel
set_option maxRecDepth 100000 in
theorem am_ck39 : am_chk false 10 (am_md 39) = true := by decide +kernel
set_option maxRecDepth 100000 in
theorem am_ck40 : am_chk false 10 (am_md 40) = true := by decide +kernel
set_option maxRecDepth 100000 in
theorem am_ck41 : am_chk false 10 (am_md 41) = true := by decide +kernel
set_option maxRecDepth 100000 in
theorem am_ck42 : am_chk false 10 (am_md 42) = true := by decide +kernel
set_option maxRecDepth 100000 in
theorem am_ck43 : am_chk false 10 (am_md 43) = true := by decide +kernel
set_option maxRecDepth 100000 in
theorem am_ck44 : am_chk false 10 (am_md 44) = true := by decide +kernel
set_option maxRecDepth 100000 in
theorem am_ck45 : am_chk false 10 (am_md 45) = true := by decide +kernel
set_option maxRecDepth 100000 in
theorem am_ck46 : am_chk false 10 (am_md 46) = true := by decide +kernel
set_option maxRecDepth 100000 in
theorem am_ck47 : am_chk false 10 (am_md 47) = true := by decide +kernel
set_option maxRecDepth 100000 in
theorem am_ck48 : am_chk false 10 (am_md 48) = true := by decide +kernel
set_option maxRecDepth 100000 in
theorem am_ck49 : am_chk false 10 (am_md 49) = true := by decide +kernel
set_option maxRecDepth 100000 in
theorem am_ck50 : am_chk false 10 (am_md 50) = true := by decide +kernel
set_option maxRecDepth 100000 in
theorem am_ck51 : am_chk false 10 (am_md 51) = true := by decide +kernel
set_option maxRecDepth 100000 in
theorem am_ck52 : am_chk false 10 (am_md 52) = true := by decide +kernel
set_option maxRecDepth 100000 in
theorem am_ck53 : am_chk false 10 (am_md 53) = true := by decide +kernel
set_option maxRecDepth 100000 in
theorem am_ck54 : am_chk false 10 (am_md 54) = true := by decide +kernel
set_option maxRecDepth 100000 in
theorem am_ck55 : am_chk false 10 (am_md 55) = true := by decide +kernel
set_option maxRecDepth 100000 in
theorem am_ck56 : am_chk false 10 (am_md 56) = true := by decide +kernel
set_option maxRecDepth 100000 in
theorem am_ck57 : am_chk false 10 (am_md 57) = true := by decide +kernel
set_option maxRecDepth 100000 in
theorem am_ck58 : am_chk false 10 (am_md 58) = true := by decide +kernel
set_option maxRecDepth 100000 in
theorem am_ck59 : am_chk false 10 (am_md 59) = true := by decide +kernel
set_option maxRecDepth 100000 in
theorem am_ck60 : am_chk false 10 (am_md 60) = true := by decide +kernel
set_option maxRecDepth 100000 in
theorem am_ck61 : am_chk false 10 (am_md 61) = true := by decide +kernel
set_option maxRecDepth 100000 in
theorem am_ck62 : am_chk false 10 (am_md 62) = true := by decide +kernel
set_option maxRecDepth 100000 in
theorem am_ck63 : am_chk false 10 (am_md 63) = true := by decide +kernel
set_option maxRecDepth 100000 in
theorem am_ck64 : am_chk false 10 (am_md 64) = true := by decide +kernel
set_option maxRecDepth 100000 in
theorem am_ck65 : am_chk false 10 (am_md 65) = true := by decide +kernel
set_option maxRecDepth 100000 in
theorem am_ck66 : am_chk false 10 (am_md 66) = true := by decide +kernel
set_option maxRecDepth 100000 in
theorem am_ck67 : am_chk false 10 (am_md 67) = true := by decide +kernel
set_option maxRecDepth 100000 in
theorem am_ck68 : am_chk false 10 (am_md 68) = true := by decide +kernel
set_option maxRecDepth 100000 in
theorem am_ck69 : am_chk false 10 (am_md 69) = true := by decide +kernel
set_option maxRecDepth 100000 in
theorem am_ck70 : am_chk false 10 (am_md 70) = true := by decide +kernel
set_option maxRecDepth 100000 in
theorem am_ck71 : am_chk false 10 (am_md 71) = true := by decide +kernel
set_option maxRecDepth 100000 in
theorem am_ck72 : am_chk false 4 (am_md 72) = true := by decide +kernel
set_option maxRecDepth 100000 in
theorem am_ck73 : am_chk false 4 (am_md 73) = true := by decide +kernel
set_option maxRecDepth 100000 in
theorem am_ck74 : am_chk false 4 (am_md 74) = true := by decide +kernel
set_option maxRecDepth 100000 in
theorem am_ck75 : am_chk false 2 (am_md 75) = true := by decide +kernel
set_option maxRecDepth 100000 in
theorem am_ck76 : am_chk false 2 (am_md 76) = true := by decide +kernel
set_option maxRecDepth 100000 in
theorem am_ck77 : am_chk false 2 (am_md 77) = true := by decide +kernel
set_option maxRecDepth 100000 in
theorem am_ck78 : am_chk false 3 (am_md 78) = true := by decide +kernel
set_option maxRecDepth 100000 in
theorem am_ck79 : am_chk false 3 (am_md 79) = true := by decide +kernel
set_option maxRecDepth 100000 in
theorem am_ck80 : am_chk false 3 (am_md 80) = true := by decide +kernel
set_option maxRecDepth 100000 in
theorem am_ck81 : am_chk false 5 (am_md 81) = true := by decide +kernel
set_option maxRecDepth 100000 in
theorem am_ck82 : am_chk false 5 (am_md 82) = true := by decide +kernel
set_option maxRecDepth 100000 in
theorem am_ck83 : am_chk false 5 (am_md 83) = true := by decide +kernel
set_option maxRecDepth 100000 in
theorem am_ck84 : am_chk false 5 (am_md 84) = true := by decide +kernel
set_option maxRecDepth 100000 in
theorem am_ck85 : am_chk false 5 (am_md 85) = true := by decide +kernel
set_option maxRecDepth 100000 in
theorem am_ck86 : am_chk false 5 (am_md 86) = true := by decide +kernel
set_option maxRecDepth 100000 in
theorem am_ck87 : am_chk false 5 (am_md 87) = true := by decide +kernel
set_option maxRecDepth 100000 in
theorem am_ck88 : am_chk false 5 (am_md 88) = true := by decide +kernel
set_option maxRecDepth 100000 in
theorem am_ck89 : am_chk false 5 (am_md 89) = true := by decide +kernel
set_option maxRecDepth 100000 in
theorem am_ck90 : am_chk false 5 (am_md 90) = true := by decide +kernel
set_option maxRecDepth 100000 in
theorem am_ck91 : am_chk false 5 (am_md 91) = true := by decide +kernel
set_option maxRecDepth 100000 in
theorem am_ck92 : am_chk false 5 (am_md 92) = true := by decide +kernel
set_option maxRecDepth 100000 in
theorem am_ck93 : am_chk false 5 (am_md 93) = true := by decide +kernel
set_option maxRecDepth 100000 in
theorem am_ck94 : am_chk false 5 (am_md 94) = true := by decide +kernel
set_option maxRecDepth 100000 in
theorem am_ck95 : am_chk false 5 (am_md 95) = true := by decide +kernel
set_option maxRecDepth 100000 in
theorem am_ck96 : am_chk false 5 (am_md 96) = true := by decide +kernel
set_option maxRecDepth 100000 in
theorem am_ck97 : am_chk false 5 (am_md 97) = true := by decide +kernel
set_option maxRecDepth 100000 in
theorem am_ck98 : am_chk false 5 (am_md 98) = true := by decide +kernel
set_option maxRecDepth 100000 in
theorem am_ck99 : am_chk false 5 (am_md 99) = true := by decide +kernel
set_option maxRecDepth 100000 in
theorem am_ck100 : am_chk false 5 (am_md 100) = true := by decide +kernel
set_option maxRecDepth 100000 in
theorem am_ck101 : am_chk false 6 (am_md 101) = true := by decide +kernel
set_option maxRecDepth 100000 in
theorem am_ck102 : am_chk false 6 (am_md 102) = true := by decide +kernel
set_option maxRecDepth 100000 in
theorem am_ck103 : am_chk false 6 (am_md 103) = true := by decide +kernel
set_option maxRecDepth 100000 in
theorem am_ck104 : am_chk false 6 (am_md 104) = true := by decide +kernel
set_option maxRecDepth 100000 in
theorem am_ck105 : am_chk false 6 (am_md 105) = true := by decide +kernel
set_option maxRecDepth 100000 in
theorem am_ck106 : am_chk false 6 (am_md 106) = true := by decide +kernel
set_option maxRecDepth 100000 in
theorem am_ck107 : am_chk false 6 (am_md 107) = true := by decide +kernel
set_option maxRecDepth 100000 in
theorem am_ck108 : am_chk false 0 (am_md 108) = true := by decide +kernel
set_option maxRecDepth 100000 in
theorem am_ck109 : am_chk false 0 (am_md 109) = true := by decide +kernel
set_option maxRecDepth 100000 in
theorem am_ck110 : am_chk false 0 (am_md 110) = true := by decide +kernel
set_option maxRecDepth 100000 in
theorem am_ck111 : am_chk false 0 (am_md 111) = true := by decide +kernel
set_option maxRecDepth 100000 in
theorem am_ck112 : am_chk false 0 (am_md 112) = true := by decide +kernel
set_option maxRecDepth 100000 in
theorem am_ck113 : am_chk false 0 (am_md 113) = true := by decide +kernel
set_option maxRecDepth 100000 in
theorem am_ck114 : am_chk false 0 (am_md 114) = true := by decide +kernel
set_option maxRecDepth 100000 in
theorem am_ck115 : am_chk false 0 (am_md 115) = true := by decide +kernel
set_option maxRecDepth 100000 in
theorem am_ck116 : am_chk false 0 (am_md 116) = true := by decide +kernel
set_option maxRecDepth 100000 in
theorem am_ck117 : am_chk false 0 (am_md 117) = true := by decide +kernel
set_option maxRecDepth 100000 in
theorem am_ck118 : am_chk false 0 (am_md 118) = true := by decide +kernel
set_option maxRecDepth 100000 in
theorem am_ck119 : am_chk false 7 (am_md 119) = true := by decide +kernel
set_option maxRecDepth 100000 in
theorem am_ck120 : am_chk false 7 (am_md 120) = true := by decide +kernel
set_option maxRecDepth 100000 in
theorem am_ck121 : am_chk false 7 (am_md 121) = true := by decide +kernel
set_option maxRecDepth 100000 in
theorem am_ck122 : am_chk false 7 (am_md 122) = true := by decide +kernel
set_option maxRecDepth 100000 in
theorem am_ck123 : am_chk false 7 (am_md 123) = true := by decide +kernel
set_option maxRecDepth 100000 in
theorem am_ck124 : am_chk false 7 (am_md 124) = true := by decide +kernel
set_option maxRecDepth 100000 in
theorem am_ck125 : am_chk false 7 (am_md 125) = true := by decide +kernel
set_option maxRecDepth 100000 in
theorem am_ck126 : am_chk false 7 (am_md 126) = true := by decide +kernel
set_option maxRecDepth 100000 in
theorem am_ck127 : am_chk false 7 (am_md 127) = true := by decide +kernel
set_option maxRecDepth 100000 in
theorem am_ck128 : am_chk false 7 (am_md 128) = true := by decide +kernel
set_option maxRecDepth 100000 in
theorem am_ck129 : am_chk false 7 (am_md 129) = true := by decide +kernel
set_option maxRecDepth 100000 in
theorem am_ck130 : am_chk false 7 (am_md 130) = true := by decide +kernel
set_option maxRecDepth 100000 in
theorem am_ck131 : am_chk false 7 (am_md 131) = true := by decide +kernel
set_option maxRecDepth 100000 in
theorem am_ck132 : am_chk false 1 (am_md 132) = true := by decide +kernel
set_option maxRecDepth 100000 in
theorem am_ck133 : am_chk false 1 (am_md 133) = true := by decide +kernel
set_option maxRecDepth 100000 in
theorem am_ck134 : am_chk false 1 (am_md 134) = true := by decide +kernel
set_option maxRecDepth 100000 in
theorem am_ck135 : am_chk false 1 (am_md 135) = true := by decide +kernel
set_option maxRecDepth 100000 in
theorem am_ck136 : am_chk false 8 (am_md 136) = true := by decide +kernel
set_option maxRecDepth 100000 in
theorem am_ck137 : am_chk false 8 (am_md 137) = true := by decide +kernel
set_option maxRecDepth 100000 in
theorem am_ck138 : am_chk false 8 (am_md 138) = true := by decide +kernel
set_option maxRecDepth 100000 in
theorem am_ck139 : am_chk false 8 (am_md 139) = true := by decide +kernel
set_option maxRecDepth 100000 in
theorem am_ck140 : am_chk false 8 (am_md 140) = true := by decide +kernel
set_option maxRecDepth 100000 in
theorem am_ck141 : am_chk false 8 (am_md 141) = true := by decide +kernel
set_option maxRecDepth 100000 in
theorem am_ck142 : am_chk false 8 (am_md 142) = true := by decide +kernel
set_option maxRecDepth 100000 in
theorem am_ck143 : am_chk false 8 (am_md 143) = true := by decide +kernel
set_option maxRecDepth 100000 in
theorem am_ck144 : am_chk false 8 (am_md 144) = true := by decide +kernel
set_option maxRecDepth 100000 in
theorem am_ck145 : am_chk false 8 (am_md 145) = true := by decide +kernel
