/-! ===== the own word of each method (by wip/whole/mk_links.py) ===== -/
set_option maxRecDepth 100000 in
theorem pg_cw0 : lw_tbl[683]? = some (fx_cw pg_yy pg_bb pg_nl pg_rr pg_hh 0) := rfl
set_option maxRecDepth 100000 in
theorem pg_cw1 : lw_tbl[1363]? = some (fx_cw pg_yy pg_bb pg_nl pg_rr pg_hh 1) := rfl
set_option maxRecDepth 100000 in
theorem pg_cw2 : lw_tbl[1269]? = some (fx_cw pg_yy pg_bb pg_nl pg_rr pg_hh 2) := rfl
set_option maxRecDepth 100000 in
theorem pg_cw3 : lw_tbl[886]? = some (fx_cw pg_yy pg_bb pg_nl pg_rr pg_hh 3) := rfl
set_option maxRecDepth 100000 in
theorem pg_cw4 : lw_tbl[861]? = some (fx_cw pg_yy pg_bb pg_nl pg_rr pg_hh 4) := rfl
set_option maxRecDepth 100000 in
theorem pg_cw5 : lw_tbl[871]? = some (fx_cw pg_yy pg_bb pg_nl pg_rr pg_hh 5) := rfl
set_option maxRecDepth 100000 in
theorem pg_cw6 : lw_tbl[865]? = some (fx_cw pg_yy pg_bb pg_nl pg_rr pg_hh 6) := rfl
set_option maxRecDepth 100000 in
theorem pg_cw7 : lw_tbl[875]? = some (fx_cw pg_yy pg_bb pg_nl pg_rr pg_hh 7) := rfl
set_option maxRecDepth 100000 in
theorem pg_cw8 : lw_tbl[881]? = some (fx_cw pg_yy pg_bb pg_nl pg_rr pg_hh 8) := rfl
set_option maxRecDepth 100000 in
theorem pg_cw9 : lw_tbl[878]? = some (fx_cw pg_yy pg_bb pg_nl pg_rr pg_hh 9) := rfl
set_option maxRecDepth 100000 in
theorem pg_cw10 : lw_tbl[155]? = some (fx_cw pg_yy pg_bb pg_nl pg_rr pg_hh 10) := rfl
set_option maxRecDepth 100000 in
theorem pg_cw11 : lw_tbl[535]? = some (fx_cw pg_yy pg_bb pg_nl pg_rr pg_hh 11) := rfl
set_option maxRecDepth 100000 in
theorem pg_cw12 : lw_tbl[539]? = some (fx_cw pg_yy pg_bb pg_nl pg_rr pg_hh 12) := rfl
set_option maxRecDepth 100000 in
theorem pg_cw13 : lw_tbl[821]? = some (fx_cw pg_yy pg_bb pg_nl pg_rr pg_hh 13) := rfl
set_option maxRecDepth 100000 in
theorem pg_cw14 : lw_tbl[936]? = some (fx_cw pg_yy pg_bb pg_nl pg_rr pg_hh 14) := rfl
set_option maxRecDepth 100000 in
theorem pg_cw15 : lw_tbl[912]? = some (fx_cw pg_yy pg_bb pg_nl pg_rr pg_hh 15) := rfl
set_option maxRecDepth 100000 in
theorem pg_cw16 : lw_tbl[846]? = some (fx_cw pg_yy pg_bb pg_nl pg_rr pg_hh 16) := rfl
set_option maxRecDepth 100000 in
theorem pg_cw17 : lw_tbl[833]? = some (fx_cw pg_yy pg_bb pg_nl pg_rr pg_hh 17) := rfl
set_option maxRecDepth 100000 in
theorem pg_cw18 : lw_tbl[1007]? = some (fx_cw pg_yy pg_bb pg_nl pg_rr pg_hh 18) := rfl
set_option maxRecDepth 100000 in
theorem pg_cw19 : lw_tbl[829]? = some (fx_cw pg_yy pg_bb pg_nl pg_rr pg_hh 19) := rfl
set_option maxRecDepth 100000 in
theorem pg_cw20 : lw_tbl[944]? = some (fx_cw pg_yy pg_bb pg_nl pg_rr pg_hh 20) := rfl
set_option maxRecDepth 100000 in
theorem pg_cw21 : lw_tbl[842]? = some (fx_cw pg_yy pg_bb pg_nl pg_rr pg_hh 21) := rfl
set_option maxRecDepth 100000 in
theorem pg_cw22 : lw_tbl[857]? = some (fx_cw pg_yy pg_bb pg_nl pg_rr pg_hh 22) := rfl
set_option maxRecDepth 100000 in
theorem pg_cw23 : lw_tbl[920]? = some (fx_cw pg_yy pg_bb pg_nl pg_rr pg_hh 23) := rfl
set_option maxRecDepth 100000 in
theorem pg_cw24 : lw_tbl[923]? = some (fx_cw pg_yy pg_bb pg_nl pg_rr pg_hh 24) := rfl
set_option maxRecDepth 100000 in
theorem pg_cw25 : lw_tbl[849]? = some (fx_cw pg_yy pg_bb pg_nl pg_rr pg_hh 25) := rfl
set_option maxRecDepth 100000 in
theorem pg_cw26 : lw_tbl[226]? = some (fx_cw pg_yy pg_bb pg_nl pg_rr pg_hh 26) := rfl
set_option maxRecDepth 100000 in
theorem pg_cw27 : lw_tbl[231]? = some (fx_cw pg_yy pg_bb pg_nl pg_rr pg_hh 27) := rfl
set_option maxRecDepth 100000 in
theorem pg_cw28 : lw_tbl[235]? = some (fx_cw pg_yy pg_bb pg_nl pg_rr pg_hh 28) := rfl
set_option maxRecDepth 100000 in
theorem pg_cw29 : lw_tbl[968]? = some (fx_cw pg_yy pg_bb pg_nl pg_rr pg_hh 29) := rfl
set_option maxRecDepth 100000 in
theorem pg_cw30 : lw_tbl[972]? = some (fx_cw pg_yy pg_bb pg_nl pg_rr pg_hh 30) := rfl
set_option maxRecDepth 100000 in
theorem pg_cw31 : lw_tbl[976]? = some (fx_cw pg_yy pg_bb pg_nl pg_rr pg_hh 31) := rfl
set_option maxRecDepth 100000 in
theorem pg_cw32 : lw_tbl[980]? = some (fx_cw pg_yy pg_bb pg_nl pg_rr pg_hh 32) := rfl
set_option maxRecDepth 100000 in
theorem pg_cw33 : lw_tbl[987]? = some (fx_cw pg_yy pg_bb pg_nl pg_rr pg_hh 33) := rfl
set_option maxRecDepth 100000 in
theorem pg_cw34 : lw_tbl[991]? = some (fx_cw pg_yy pg_bb pg_nl pg_rr pg_hh 34) := rfl
set_option maxRecDepth 100000 in
theorem pg_cw35 : lw_tbl[701]? = some (fx_cw pg_yy pg_bb pg_nl pg_rr pg_hh 35) := rfl
set_option maxRecDepth 100000 in
theorem pg_cw36 : lw_tbl[705]? = some (fx_cw pg_yy pg_bb pg_nl pg_rr pg_hh 36) := rfl
set_option maxRecDepth 100000 in
theorem pg_cw37 : lw_tbl[709]? = some (fx_cw pg_yy pg_bb pg_nl pg_rr pg_hh 37) := rfl
set_option maxRecDepth 100000 in
theorem pg_cw38 : lw_tbl[712]? = some (fx_cw pg_yy pg_bb pg_nl pg_rr pg_hh 38) := rfl
set_option maxRecDepth 100000 in
theorem pg_cw39 : lw_tbl[192]? = some (fx_cw pg_yy pg_bb pg_nl pg_rr pg_hh 39) := rfl
set_option maxRecDepth 100000 in
theorem pg_cw40 : lw_tbl[595]? = some (fx_cw pg_yy pg_bb pg_nl pg_rr pg_hh 40) := rfl
set_option maxRecDepth 100000 in
theorem pg_cw41 : lw_tbl[575]? = some (fx_cw pg_yy pg_bb pg_nl pg_rr pg_hh 41) := rfl
set_option maxRecDepth 100000 in
theorem pg_cw42 : lw_tbl[462]? = some (fx_cw pg_yy pg_bb pg_nl pg_rr pg_hh 42) := rfl
set_option maxRecDepth 100000 in
theorem pg_cw43 : lw_tbl[1112]? = some (fx_cw pg_yy pg_bb pg_nl pg_rr pg_hh 43) := rfl
set_option maxRecDepth 100000 in
theorem pg_cw44 : lw_tbl[825]? = some (fx_cw pg_yy pg_bb pg_nl pg_rr pg_hh 44) := rfl
set_option maxRecDepth 100000 in
theorem pg_cw45 : lw_tbl[838]? = some (fx_cw pg_yy pg_bb pg_nl pg_rr pg_hh 45) := rfl
set_option maxRecDepth 100000 in
theorem pg_cw46 : lw_tbl[852]? = some (fx_cw pg_yy pg_bb pg_nl pg_rr pg_hh 46) := rfl
set_option maxRecDepth 100000 in
theorem pg_cw47 : lw_tbl[916]? = some (fx_cw pg_yy pg_bb pg_nl pg_rr pg_hh 47) := rfl
set_option maxRecDepth 100000 in
theorem pg_cw48 : lw_tbl[928]? = some (fx_cw pg_yy pg_bb pg_nl pg_rr pg_hh 48) := rfl
set_option maxRecDepth 100000 in
theorem pg_cw49 : lw_tbl[932]? = some (fx_cw pg_yy pg_bb pg_nl pg_rr pg_hh 49) := rfl
set_option maxRecDepth 100000 in
theorem pg_cw50 : lw_tbl[940]? = some (fx_cw pg_yy pg_bb pg_nl pg_rr pg_hh 50) := rfl
set_option maxRecDepth 100000 in
theorem pg_cw51 : lw_tbl[282]? = some (fx_cw pg_yy pg_bb pg_nl pg_rr pg_hh 51) := rfl
set_option maxRecDepth 100000 in
theorem pg_cw52 : lw_tbl[953]? = some (fx_cw pg_yy pg_bb pg_nl pg_rr pg_hh 52) := rfl
set_option maxRecDepth 100000 in
theorem pg_cw53 : lw_tbl[650]? = some (fx_cw pg_yy pg_bb pg_nl pg_rr pg_hh 53) := rfl
set_option maxRecDepth 100000 in
theorem pg_cw54 : lw_tbl[1123]? = some (fx_cw pg_yy pg_bb pg_nl pg_rr pg_hh 54) := rfl
set_option maxRecDepth 100000 in
theorem pg_cw55 : lw_tbl[1129]? = some (fx_cw pg_yy pg_bb pg_nl pg_rr pg_hh 55) := rfl
set_option maxRecDepth 100000 in
theorem pg_cw56 : lw_tbl[304]? = some (fx_cw pg_yy pg_bb pg_nl pg_rr pg_hh 56) := rfl
set_option maxRecDepth 100000 in
theorem pg_cw57 : lw_tbl[458]? = some (fx_cw pg_yy pg_bb pg_nl pg_rr pg_hh 57) := rfl
set_option maxRecDepth 100000 in
theorem pg_cw58 : lw_tbl[555]? = some (fx_cw pg_yy pg_bb pg_nl pg_rr pg_hh 58) := rfl
set_option maxRecDepth 100000 in
theorem pg_cw59 : lw_tbl[694]? = some (fx_cw pg_yy pg_bb pg_nl pg_rr pg_hh 59) := rfl
set_option maxRecDepth 100000 in
theorem pg_cw60 : lw_tbl[466]? = some (fx_cw pg_yy pg_bb pg_nl pg_rr pg_hh 60) := rfl
set_option maxRecDepth 100000 in
theorem pg_cw61 : lw_tbl[1085]? = some (fx_cw pg_yy pg_bb pg_nl pg_rr pg_hh 61) := rfl
set_option maxRecDepth 100000 in
theorem pg_cw62 : lw_tbl[1150]? = some (fx_cw pg_yy pg_bb pg_nl pg_rr pg_hh 62) := rfl
set_option maxRecDepth 100000 in
theorem pg_cw63 : lw_tbl[1188]? = some (fx_cw pg_yy pg_bb pg_nl pg_rr pg_hh 63) := rfl
set_option maxRecDepth 100000 in
theorem pg_cw64 : lw_tbl[690]? = some (fx_cw pg_yy pg_bb pg_nl pg_rr pg_hh 64) := rfl
set_option maxRecDepth 100000 in
theorem pg_cw65 : lw_tbl[680]? = some (fx_cw pg_yy pg_bb pg_nl pg_rr pg_hh 65) := rfl
set_option maxRecDepth 100000 in
theorem pg_cw66 : lw_tbl[1076]? = some (fx_cw pg_yy pg_bb pg_nl pg_rr pg_hh 66) := rfl
set_option maxRecDepth 100000 in
theorem pg_cw67 : lw_tbl[1081]? = some (fx_cw pg_yy pg_bb pg_nl pg_rr pg_hh 67) := rfl
set_option maxRecDepth 100000 in
theorem pg_cw68 : lw_tbl[1091]? = some (fx_cw pg_yy pg_bb pg_nl pg_rr pg_hh 68) := rfl
set_option maxRecDepth 100000 in
theorem pg_cw69 : lw_tbl[1095]? = some (fx_cw pg_yy pg_bb pg_nl pg_rr pg_hh 69) := rfl
set_option maxRecDepth 100000 in
theorem pg_cw70 : lw_tbl[1100]? = some (fx_cw pg_yy pg_bb pg_nl pg_rr pg_hh 70) := rfl
set_option maxRecDepth 100000 in
theorem pg_cw71 : lw_tbl[1104]? = some (fx_cw pg_yy pg_bb pg_nl pg_rr pg_hh 71) := rfl
set_option maxRecDepth 100000 in
theorem pg_cw72 : lw_tbl[1108]? = some (fx_cw pg_yy pg_bb pg_nl pg_rr pg_hh 72) := rfl
set_option maxRecDepth 100000 in
theorem pg_cw73 : lw_tbl[256]? = some (fx_cw pg_yy pg_bb pg_nl pg_rr pg_hh 73) := rfl
set_option maxRecDepth 100000 in
theorem pg_cw74 : lw_tbl[559]? = some (fx_cw pg_yy pg_bb pg_nl pg_rr pg_hh 74) := rfl
set_option maxRecDepth 100000 in
theorem pg_cw75 : lw_tbl[1046]? = some (fx_cw pg_yy pg_bb pg_nl pg_rr pg_hh 75) := rfl
set_option maxRecDepth 100000 in
theorem pg_cw76 : lw_tbl[1020]? = some (fx_cw pg_yy pg_bb pg_nl pg_rr pg_hh 76) := rfl
set_option maxRecDepth 100000 in
theorem pg_cw77 : lw_tbl[1024]? = some (fx_cw pg_yy pg_bb pg_nl pg_rr pg_hh 77) := rfl
set_option maxRecDepth 100000 in
theorem pg_cw78 : lw_tbl[1030]? = some (fx_cw pg_yy pg_bb pg_nl pg_rr pg_hh 78) := rfl
set_option maxRecDepth 100000 in
theorem pg_cw79 : lw_tbl[1034]? = some (fx_cw pg_yy pg_bb pg_nl pg_rr pg_hh 79) := rfl
set_option maxRecDepth 100000 in
theorem pg_cw80 : lw_tbl[1050]? = some (fx_cw pg_yy pg_bb pg_nl pg_rr pg_hh 80) := rfl
set_option maxRecDepth 100000 in
theorem pg_cw81 : lw_tbl[1054]? = some (fx_cw pg_yy pg_bb pg_nl pg_rr pg_hh 81) := rfl
set_option maxRecDepth 100000 in
theorem pg_cw82 : lw_tbl[1064]? = some (fx_cw pg_yy pg_bb pg_nl pg_rr pg_hh 82) := rfl
set_option maxRecDepth 100000 in
theorem pg_cw83 : lw_tbl[1068]? = some (fx_cw pg_yy pg_bb pg_nl pg_rr pg_hh 83) := rfl
set_option maxRecDepth 100000 in
theorem pg_cw84 : lw_tbl[1072]? = some (fx_cw pg_yy pg_bb pg_nl pg_rr pg_hh 84) := rfl
set_option maxRecDepth 100000 in
theorem pg_cw85 : lw_tbl[298]? = some (fx_cw pg_yy pg_bb pg_nl pg_rr pg_hh 85) := rfl
set_option maxRecDepth 100000 in
theorem pg_cw86 : lw_tbl[454]? = some (fx_cw pg_yy pg_bb pg_nl pg_rr pg_hh 86) := rfl
set_option maxRecDepth 100000 in
theorem pg_cw87 : lw_tbl[1060]? = some (fx_cw pg_yy pg_bb pg_nl pg_rr pg_hh 87) := rfl
set_option maxRecDepth 100000 in
theorem pg_cw88 : lw_tbl[551]? = some (fx_cw pg_yy pg_bb pg_nl pg_rr pg_hh 88) := rfl
set_option maxRecDepth 100000 in
theorem pg_cw89 : lw_tbl[722]? = some (fx_cw pg_yy pg_bb pg_nl pg_rr pg_hh 89) := rfl
set_option maxRecDepth 100000 in
theorem pg_cw90 : lw_tbl[351]? = some (fx_cw pg_yy pg_bb pg_nl pg_rr pg_hh 90) := rfl
set_option maxRecDepth 100000 in
theorem pg_cw91 : lw_tbl[957]? = some (fx_cw pg_yy pg_bb pg_nl pg_rr pg_hh 91) := rfl
set_option maxRecDepth 100000 in
theorem pg_cw92 : lw_tbl[571]? = some (fx_cw pg_yy pg_bb pg_nl pg_rr pg_hh 92) := rfl
set_option maxRecDepth 100000 in
theorem pg_cw93 : lw_tbl[579]? = some (fx_cw pg_yy pg_bb pg_nl pg_rr pg_hh 93) := rfl
set_option maxRecDepth 100000 in
theorem pg_cw94 : lw_tbl[583]? = some (fx_cw pg_yy pg_bb pg_nl pg_rr pg_hh 94) := rfl
set_option maxRecDepth 100000 in
theorem pg_cw95 : lw_tbl[646]? = some (fx_cw pg_yy pg_bb pg_nl pg_rr pg_hh 95) := rfl
set_option maxRecDepth 100000 in
theorem pg_cw96 : lw_tbl[1247]? = some (fx_cw pg_yy pg_bb pg_nl pg_rr pg_hh 96) := rfl
set_option maxRecDepth 100000 in
theorem pg_cw97 : lw_tbl[672]? = some (fx_cw pg_yy pg_bb pg_nl pg_rr pg_hh 97) := rfl
set_option maxRecDepth 100000 in
theorem pg_cw98 : lw_tbl[1395]? = some (fx_cw pg_yy pg_bb pg_nl pg_rr pg_hh 98) := rfl
set_option maxRecDepth 100000 in
theorem pg_cw99 : lw_tbl[1360]? = some (fx_cw pg_yy pg_bb pg_nl pg_rr pg_hh 99) := rfl
set_option maxRecDepth 100000 in
theorem pg_cw100 : lw_tbl[1374]? = some (fx_cw pg_yy pg_bb pg_nl pg_rr pg_hh 100) := rfl
set_option maxRecDepth 100000 in
theorem pg_cw101 : lw_tbl[1366]? = some (fx_cw pg_yy pg_bb pg_nl pg_rr pg_hh 101) := rfl
set_option maxRecDepth 100000 in
theorem pg_cw102 : lw_tbl[1370]? = some (fx_cw pg_yy pg_bb pg_nl pg_rr pg_hh 102) := rfl
set_option maxRecDepth 100000 in
theorem pg_cw103 : lw_tbl[1427]? = some (fx_cw pg_yy pg_bb pg_nl pg_rr pg_hh 103) := rfl
set_option maxRecDepth 100000 in
theorem pg_cw104 : lw_tbl[1378]? = some (fx_cw pg_yy pg_bb pg_nl pg_rr pg_hh 104) := rfl
set_option maxRecDepth 100000 in
theorem pg_cw105 : lw_tbl[381]? = some (fx_cw pg_yy pg_bb pg_nl pg_rr pg_hh 105) := rfl
set_option maxRecDepth 100000 in
theorem pg_cw106 : lw_tbl[587]? = some (fx_cw pg_yy pg_bb pg_nl pg_rr pg_hh 106) := rfl
set_option maxRecDepth 100000 in
theorem pg_cw107 : lw_tbl[1258]? = some (fx_cw pg_yy pg_bb pg_nl pg_rr pg_hh 107) := rfl
set_option maxRecDepth 100000 in
theorem pg_cw108 : lw_tbl[1288]? = some (fx_cw pg_yy pg_bb pg_nl pg_rr pg_hh 108) := rfl
set_option maxRecDepth 100000 in
theorem pg_cw109 : lw_tbl[1292]? = some (fx_cw pg_yy pg_bb pg_nl pg_rr pg_hh 109) := rfl
set_option maxRecDepth 100000 in
theorem pg_cw110 : lw_tbl[1305]? = some (fx_cw pg_yy pg_bb pg_nl pg_rr pg_hh 110) := rfl
set_option maxRecDepth 100000 in
theorem pg_cw111 : lw_tbl[1276]? = some (fx_cw pg_yy pg_bb pg_nl pg_rr pg_hh 111) := rfl
set_option maxRecDepth 100000 in
theorem pg_cw112 : lw_tbl[1266]? = some (fx_cw pg_yy pg_bb pg_nl pg_rr pg_hh 112) := rfl
set_option maxRecDepth 100000 in
theorem pg_cw113 : lw_tbl[1273]? = some (fx_cw pg_yy pg_bb pg_nl pg_rr pg_hh 113) := rfl
set_option maxRecDepth 100000 in
theorem pg_cw114 : lw_tbl[1284]? = some (fx_cw pg_yy pg_bb pg_nl pg_rr pg_hh 114) := rfl
set_option maxRecDepth 100000 in
theorem pg_cw115 : lw_tbl[1262]? = some (fx_cw pg_yy pg_bb pg_nl pg_rr pg_hh 115) := rfl
set_option maxRecDepth 100000 in
theorem pg_cw116 : lw_tbl[1324]? = some (fx_cw pg_yy pg_bb pg_nl pg_rr pg_hh 116) := rfl
set_option maxRecDepth 100000 in
theorem pg_cw117 : lw_tbl[1329]? = some (fx_cw pg_yy pg_bb pg_nl pg_rr pg_hh 117) := rfl
set_option maxRecDepth 100000 in
theorem pg_cw118 : lw_tbl[1334]? = some (fx_cw pg_yy pg_bb pg_nl pg_rr pg_hh 118) := rfl
set_option maxRecDepth 100000 in
theorem pg_cw119 : lw_tbl[419]? = some (fx_cw pg_yy pg_bb pg_nl pg_rr pg_hh 119) := rfl
set_option maxRecDepth 100000 in
theorem pg_cw120 : lw_tbl[611]? = some (fx_cw pg_yy pg_bb pg_nl pg_rr pg_hh 120) := rfl
set_option maxRecDepth 100000 in
theorem pg_cw121 : lw_tbl[599]? = some (fx_cw pg_yy pg_bb pg_nl pg_rr pg_hh 121) := rfl
set_option maxRecDepth 100000 in
theorem pg_cw122 : lw_tbl[603]? = some (fx_cw pg_yy pg_bb pg_nl pg_rr pg_hh 122) := rfl
set_option maxRecDepth 100000 in
theorem pg_cw123 : lw_tbl[624]? = some (fx_cw pg_yy pg_bb pg_nl pg_rr pg_hh 123) := rfl
set_option maxRecDepth 100000 in
theorem pg_cw124 : lw_tbl[619]? = some (fx_cw pg_yy pg_bb pg_nl pg_rr pg_hh 124) := rfl
set_option maxRecDepth 100000 in
theorem pg_cw125 : lw_tbl[591]? = some (fx_cw pg_yy pg_bb pg_nl pg_rr pg_hh 125) := rfl
set_option maxRecDepth 100000 in
theorem pg_cw126 : lw_tbl[607]? = some (fx_cw pg_yy pg_bb pg_nl pg_rr pg_hh 126) := rfl
set_option maxRecDepth 100000 in
theorem pg_cw127 : lw_tbl[615]? = some (fx_cw pg_yy pg_bb pg_nl pg_rr pg_hh 127) := rfl
set_option maxRecDepth 100000 in
theorem pg_cw128 : lw_tbl[1453]? = some (fx_cw pg_yy pg_bb pg_nl pg_rr pg_hh 128) := rfl
set_option maxRecDepth 100000 in
theorem pg_cw129 : lw_tbl[1441]? = some (fx_cw pg_yy pg_bb pg_nl pg_rr pg_hh 129) := rfl
set_option maxRecDepth 100000 in
theorem pg_cw130 : lw_tbl[1445]? = some (fx_cw pg_yy pg_bb pg_nl pg_rr pg_hh 130) := rfl
set_option maxRecDepth 100000 in
theorem pg_cw131 : lw_tbl[1449]? = some (fx_cw pg_yy pg_bb pg_nl pg_rr pg_hh 131) := rfl
set_option maxRecDepth 100000 in
theorem pg_cw132 : lw_tbl[429]? = some (fx_cw pg_yy pg_bb pg_nl pg_rr pg_hh 132) := rfl
set_option maxRecDepth 100000 in
theorem pg_cw133 : lw_tbl[636]? = some (fx_cw pg_yy pg_bb pg_nl pg_rr pg_hh 133) := rfl
set_option maxRecDepth 100000 in
theorem pg_cw134 : lw_tbl[639]? = some (fx_cw pg_yy pg_bb pg_nl pg_rr pg_hh 134) := rfl
set_option maxRecDepth 100000 in
theorem pg_cw135 : lw_tbl[656]? = some (fx_cw pg_yy pg_bb pg_nl pg_rr pg_hh 135) := rfl
set_option maxRecDepth 100000 in
theorem pg_cw136 : lw_tbl[664]? = some (fx_cw pg_yy pg_bb pg_nl pg_rr pg_hh 136) := rfl
set_option maxRecDepth 100000 in
theorem pg_cw137 : lw_tbl[1407]? = some (fx_cw pg_yy pg_bb pg_nl pg_rr pg_hh 137) := rfl
set_option maxRecDepth 100000 in
theorem pg_cw138 : lw_tbl[1412]? = some (fx_cw pg_yy pg_bb pg_nl pg_rr pg_hh 138) := rfl
set_option maxRecDepth 100000 in
theorem pg_cw139 : lw_tbl[1415]? = some (fx_cw pg_yy pg_bb pg_nl pg_rr pg_hh 139) := rfl
set_option maxRecDepth 100000 in
theorem pg_cw140 : lw_tbl[1390]? = some (fx_cw pg_yy pg_bb pg_nl pg_rr pg_hh 140) := rfl
set_option maxRecDepth 100000 in
theorem pg_cw141 : lw_tbl[147]? = some (fx_cw pg_yy pg_bb pg_nl pg_rr pg_hh 141) := rfl
set_option maxRecDepth 100000 in
theorem pg_cw142 : lw_tbl[531]? = some (fx_cw pg_yy pg_bb pg_nl pg_rr pg_hh 142) := rfl
set_option maxRecDepth 100000 in
theorem pg_cw143 : lw_tbl[742]? = some (fx_cw pg_yy pg_bb pg_nl pg_rr pg_hh 143) := rfl
set_option maxRecDepth 100000 in
theorem pg_cw144 : lw_tbl[964]? = some (fx_cw pg_yy pg_bb pg_nl pg_rr pg_hh 144) := rfl
set_option maxRecDepth 100000 in
theorem pg_cw145 : lw_tbl[1016]? = some (fx_cw pg_yy pg_bb pg_nl pg_rr pg_hh 145) := rfl
set_option maxRecDepth 100000 in
theorem pg_cw146 : lw_tbl[1119]? = some (fx_cw pg_yy pg_bb pg_nl pg_rr pg_hh 146) := rfl
set_option maxRecDepth 100000 in
theorem pg_cw147 : lw_tbl[1139]? = some (fx_cw pg_yy pg_bb pg_nl pg_rr pg_hh 147) := rfl
set_option maxRecDepth 100000 in
theorem pg_cw148 : lw_tbl[543]? = some (fx_cw pg_yy pg_bb pg_nl pg_rr pg_hh 148) := rfl
set_option maxRecDepth 100000 in
theorem pg_cw149 : lw_tbl[547]? = some (fx_cw pg_yy pg_bb pg_nl pg_rr pg_hh 149) := rfl
set_option maxRecDepth 100000 in
theorem pg_cw150 : lw_tbl[1146]? = some (fx_cw pg_yy pg_bb pg_nl pg_rr pg_hh 150) := rfl
set_option maxRecDepth 100000 in
theorem pg_cw151 : lw_tbl[1159]? = some (fx_cw pg_yy pg_bb pg_nl pg_rr pg_hh 151) := rfl
set_option maxRecDepth 100000 in
theorem pg_cw152 : lw_tbl[1195]? = some (fx_cw pg_yy pg_bb pg_nl pg_rr pg_hh 152) := rfl
set_option maxRecDepth 100000 in
theorem pg_cw153 : lw_tbl[1207]? = some (fx_cw pg_yy pg_bb pg_nl pg_rr pg_hh 153) := rfl
set_option maxRecDepth 100000 in
theorem pg_cw154 : lw_tbl[1215]? = some (fx_cw pg_yy pg_bb pg_nl pg_rr pg_hh 154) := rfl
set_option maxRecDepth 100000 in
theorem pg_cw155 : lw_tbl[1222]? = some (fx_cw pg_yy pg_bb pg_nl pg_rr pg_hh 155) := rfl
set_option maxRecDepth 100000 in
theorem pg_cw156 : lw_tbl[1230]? = some (fx_cw pg_yy pg_bb pg_nl pg_rr pg_hh 156) := rfl
set_option maxRecDepth 100000 in
theorem pg_cw157 : lw_tbl[1238]? = some (fx_cw pg_yy pg_bb pg_nl pg_rr pg_hh 157) := rfl
set_option maxRecDepth 100000 in
theorem pg_cw158 : lw_tbl[1254]? = some (fx_cw pg_yy pg_bb pg_nl pg_rr pg_hh 158) := rfl
set_option maxRecDepth 100000 in
theorem pg_cw159 : lw_tbl[1300]? = some (fx_cw pg_yy pg_bb pg_nl pg_rr pg_hh 159) := rfl
set_option maxRecDepth 100000 in
theorem pg_cw160 : lw_tbl[1313]? = some (fx_cw pg_yy pg_bb pg_nl pg_rr pg_hh 160) := rfl
set_option maxRecDepth 100000 in
theorem pg_cw161 : lw_tbl[1320]? = some (fx_cw pg_yy pg_bb pg_nl pg_rr pg_hh 161) := rfl
set_option maxRecDepth 100000 in
theorem pg_cw162 : lw_tbl[1341]? = some (fx_cw pg_yy pg_bb pg_nl pg_rr pg_hh 162) := rfl
set_option maxRecDepth 100000 in
theorem pg_cw163 : lw_tbl[1349]? = some (fx_cw pg_yy pg_bb pg_nl pg_rr pg_hh 163) := rfl
set_option maxRecDepth 100000 in
theorem pg_cw164 : lw_tbl[563]? = some (fx_cw pg_yy pg_bb pg_nl pg_rr pg_hh 164) := rfl
set_option maxRecDepth 100000 in
theorem pg_cw165 : lw_tbl[1356]? = some (fx_cw pg_yy pg_bb pg_nl pg_rr pg_hh 165) := rfl
set_option maxRecDepth 100000 in
theorem pg_cw166 : lw_tbl[1386]? = some (fx_cw pg_yy pg_bb pg_nl pg_rr pg_hh 166) := rfl
set_option maxRecDepth 100000 in
theorem pg_cw167 : lw_tbl[628]? = some (fx_cw pg_yy pg_bb pg_nl pg_rr pg_hh 167) := rfl
set_option maxRecDepth 100000 in
theorem pg_cw168 : lw_tbl[660]? = some (fx_cw pg_yy pg_bb pg_nl pg_rr pg_hh 168) := rfl
set_option maxRecDepth 100000 in
theorem pg_cw169 : lw_tbl[1403]? = some (fx_cw pg_yy pg_bb pg_nl pg_rr pg_hh 169) := rfl
set_option maxRecDepth 100000 in
theorem pg_cw170 : lw_tbl[1423]? = some (fx_cw pg_yy pg_bb pg_nl pg_rr pg_hh 170) := rfl
set_option maxRecDepth 100000 in
theorem pg_cw171 : lw_tbl[1437]? = some (fx_cw pg_yy pg_bb pg_nl pg_rr pg_hh 171) := rfl
set_option maxRecDepth 100000 in
theorem pg_cw172 : lw_tbl[1460]? = some (fx_cw pg_yy pg_bb pg_nl pg_rr pg_hh 172) := rfl
set_option maxRecDepth 100000 in
theorem pg_cw173 : lw_tbl[1467]? = some (fx_cw pg_yy pg_bb pg_nl pg_rr pg_hh 173) := rfl
set_option maxRecDepth 100000 in
theorem pg_cw174 : lw_tbl[668]? = some (fx_cw pg_yy pg_bb pg_nl pg_rr pg_hh 174) := rfl
set_option maxRecDepth 100000 in
theorem pg_cw175 : lw_tbl[676]? = some (fx_cw pg_yy pg_bb pg_nl pg_rr pg_hh 175) := rfl
set_option maxRecDepth 100000 in
theorem pg_cw176 : lw_tbl[1475]? = some (fx_cw pg_yy pg_bb pg_nl pg_rr pg_hh 176) := rfl
set_option maxRecDepth 100000 in
theorem pg_cw177 : lw_tbl[1499]? = some (fx_cw pg_yy pg_bb pg_nl pg_rr pg_hh 177) := rfl
set_option maxRecDepth 100000 in
theorem pg_cw178 : lw_tbl[718]? = some (fx_cw pg_yy pg_bb pg_nl pg_rr pg_hh 178) := rfl
set_option maxRecDepth 100000 in
theorem pg_cw179 : lw_tbl[726]? = some (fx_cw pg_yy pg_bb pg_nl pg_rr pg_hh 179) := rfl
set_option maxRecDepth 100000 in
theorem pg_cw180 : lw_tbl[730]? = some (fx_cw pg_yy pg_bb pg_nl pg_rr pg_hh 180) := rfl
set_option maxRecDepth 100000 in
theorem pg_cw181 : lw_tbl[734]? = some (fx_cw pg_yy pg_bb pg_nl pg_rr pg_hh 181) := rfl
set_option maxRecDepth 100000 in
theorem pg_cw182 : lw_tbl[1167]? = some (fx_cw pg_yy pg_bb pg_nl pg_rr pg_hh 182) := rfl
set_option maxRecDepth 100000 in
theorem pg_cw183 : lw_tbl[1163]? = some (fx_cw pg_yy pg_bb pg_nl pg_rr pg_hh 183) := rfl
set_option maxRecDepth 100000 in
theorem pg_cw184 : lw_tbl[751]? = some (fx_cw pg_yy pg_bb pg_nl pg_rr pg_hh 184) := rfl
set_option maxRecDepth 100000 in
theorem pg_cw185 : lw_tbl[1199]? = some (fx_cw pg_yy pg_bb pg_nl pg_rr pg_hh 185) := rfl
set_option maxRecDepth 100000 in
theorem pg_cw186 : lw_tbl[1242]? = some (fx_cw pg_yy pg_bb pg_nl pg_rr pg_hh 186) := rfl
set_option maxRecDepth 100000 in
theorem pg_cw187 : lw_tbl[746]? = some (fx_cw pg_yy pg_bb pg_nl pg_rr pg_hh 187) := rfl
set_option maxRecDepth 100000 in
theorem pg_cw188 : lw_tbl[948]? = some (fx_cw pg_yy pg_bb pg_nl pg_rr pg_hh 188) := rfl
set_option maxRecDepth 100000 in
theorem pg_cw189 : lw_tbl[567]? = some (fx_cw pg_yy pg_bb pg_nl pg_rr pg_hh 189) := rfl
set_option maxRecDepth 100000 in
theorem pg_cw190 : lw_tbl[632]? = some (fx_cw pg_yy pg_bb pg_nl pg_rr pg_hh 190) := rfl
set_option maxRecDepth 100000 in
theorem pg_cw191 : lw_tbl[1479]? = some (fx_cw pg_yy pg_bb pg_nl pg_rr pg_hh 191) := rfl
set_option maxRecDepth 100000 in
theorem pg_cw192 : lw_tbl[1484]? = some (fx_cw pg_yy pg_bb pg_nl pg_rr pg_hh 192) := rfl
set_option maxRecDepth 100000 in
theorem pg_cw193 : lw_tbl[1488]? = some (fx_cw pg_yy pg_bb pg_nl pg_rr pg_hh 193) := rfl
set_option maxRecDepth 100000 in
theorem pg_cw194 : lw_tbl[1430]? = some (fx_cw pg_yy pg_bb pg_nl pg_rr pg_hh 194) := rfl
set_option maxRecDepth 100000 in
theorem pg_cw195 : lw_tbl[1279]? = some (fx_cw pg_yy pg_bb pg_nl pg_rr pg_hh 195) := rfl
set_option maxRecDepth 100000 in
theorem pg_cw196 : lw_tbl[1504]? = some (fx_cw pg_yy pg_bb pg_nl pg_rr pg_hh 196) := rfl
set_option maxRecDepth 100000 in
theorem pg_cw197 : lw_tbl[1716]? = some (fx_cw pg_yy pg_bb pg_nl pg_rr pg_hh 197) := rfl
set_option maxRecDepth 100000 in
theorem pg_cw198 : lw_tbl[1938]? = some (fx_cw pg_yy pg_bb pg_nl pg_rr pg_hh 198) := rfl
set_option maxRecDepth 100000 in
theorem pg_cw199 : lw_tbl[1509]? = some (fx_cw pg_yy pg_bb pg_nl pg_rr pg_hh 199) := rfl
set_option maxRecDepth 100000 in
theorem pg_cw200 : lw_tbl[1704]? = some (fx_cw pg_yy pg_bb pg_nl pg_rr pg_hh 200) := rfl
set_option maxRecDepth 100000 in
theorem pg_cw201 : lw_tbl[1724]? = some (fx_cw pg_yy pg_bb pg_nl pg_rr pg_hh 201) := rfl
set_option maxRecDepth 100000 in
theorem pg_cw202 : lw_tbl[1755]? = some (fx_cw pg_yy pg_bb pg_nl pg_rr pg_hh 202) := rfl
set_option maxRecDepth 100000 in
theorem pg_cw203 : lw_tbl[1732]? = some (fx_cw pg_yy pg_bb pg_nl pg_rr pg_hh 203) := rfl
set_option maxRecDepth 100000 in
theorem pg_cw204 : lw_tbl[1739]? = some (fx_cw pg_yy pg_bb pg_nl pg_rr pg_hh 204) := rfl
set_option maxRecDepth 100000 in
theorem pg_cw205 : lw_tbl[1774]? = some (fx_cw pg_yy pg_bb pg_nl pg_rr pg_hh 205) := rfl
set_option maxRecDepth 100000 in
theorem pg_cw206 : lw_tbl[1736]? = some (fx_cw pg_yy pg_bb pg_nl pg_rr pg_hh 206) := rfl
set_option maxRecDepth 100000 in
theorem pg_cw207 : lw_tbl[1746]? = some (fx_cw pg_yy pg_bb pg_nl pg_rr pg_hh 207) := rfl
set_option maxRecDepth 100000 in
theorem pg_cw208 : lw_tbl[1763]? = some (fx_cw pg_yy pg_bb pg_nl pg_rr pg_hh 208) := rfl
set_option maxRecDepth 100000 in
theorem pg_cw209 : lw_tbl[1771]? = some (fx_cw pg_yy pg_bb pg_nl pg_rr pg_hh 209) := rfl
set_option maxRecDepth 100000 in
theorem pg_cw210 : lw_tbl[1782]? = some (fx_cw pg_yy pg_bb pg_nl pg_rr pg_hh 210) := rfl
set_option maxRecDepth 100000 in
theorem pg_cw211 : lw_tbl[1728]? = some (fx_cw pg_yy pg_bb pg_nl pg_rr pg_hh 211) := rfl
set_option maxRecDepth 100000 in
theorem pg_cw212 : lw_tbl[1720]? = some (fx_cw pg_yy pg_bb pg_nl pg_rr pg_hh 212) := rfl
set_option maxRecDepth 100000 in
theorem pg_cw213 : lw_tbl[1786]? = some (fx_cw pg_yy pg_bb pg_nl pg_rr pg_hh 213) := rfl
set_option maxRecDepth 100000 in
theorem pg_cw214 : lw_tbl[1708]? = some (fx_cw pg_yy pg_bb pg_nl pg_rr pg_hh 214) := rfl
set_option maxRecDepth 100000 in
theorem pg_cw215 : lw_tbl[1522]? = some (fx_cw pg_yy pg_bb pg_nl pg_rr pg_hh 215) := rfl
set_option maxRecDepth 100000 in
theorem pg_cw216 : lw_tbl[1514]? = some (fx_cw pg_yy pg_bb pg_nl pg_rr pg_hh 216) := rfl
set_option maxRecDepth 100000 in
theorem pg_cw217 : lw_tbl[1518]? = some (fx_cw pg_yy pg_bb pg_nl pg_rr pg_hh 217) := rfl
set_option maxRecDepth 100000 in
theorem pg_cw218 : lw_tbl[1742]? = some (fx_cw pg_yy pg_bb pg_nl pg_rr pg_hh 218) := rfl
set_option maxRecDepth 100000 in
theorem pg_cw219 : lw_tbl[1759]? = some (fx_cw pg_yy pg_bb pg_nl pg_rr pg_hh 219) := rfl
set_option maxRecDepth 100000 in
theorem pg_cw220 : lw_tbl[1778]? = some (fx_cw pg_yy pg_bb pg_nl pg_rr pg_hh 220) := rfl
set_option maxRecDepth 100000 in
theorem pg_cw221 : lw_tbl[1767]? = some (fx_cw pg_yy pg_bb pg_nl pg_rr pg_hh 221) := rfl
set_option maxRecDepth 100000 in
theorem pg_cw222 : lw_tbl[1712]? = some (fx_cw pg_yy pg_bb pg_nl pg_rr pg_hh 222) := rfl
set_option maxRecDepth 100000 in
theorem pg_cw223 : lw_tbl[1810]? = some (fx_cw pg_yy pg_bb pg_nl pg_rr pg_hh 223) := rfl
set_option maxRecDepth 100000 in
theorem pg_cw224 : lw_tbl[1806]? = some (fx_cw pg_yy pg_bb pg_nl pg_rr pg_hh 224) := rfl
set_option maxRecDepth 100000 in
theorem pg_cw225 : lw_tbl[1794]? = some (fx_cw pg_yy pg_bb pg_nl pg_rr pg_hh 225) := rfl
set_option maxRecDepth 100000 in
theorem pg_cw226 : lw_tbl[1798]? = some (fx_cw pg_yy pg_bb pg_nl pg_rr pg_hh 226) := rfl
set_option maxRecDepth 100000 in
theorem pg_cw227 : lw_tbl[1815]? = some (fx_cw pg_yy pg_bb pg_nl pg_rr pg_hh 227) := rfl
set_option maxRecDepth 100000 in
theorem pg_cw228 : lw_tbl[1825]? = some (fx_cw pg_yy pg_bb pg_nl pg_rr pg_hh 228) := rfl
set_option maxRecDepth 100000 in
theorem pg_cw229 : lw_tbl[1820]? = some (fx_cw pg_yy pg_bb pg_nl pg_rr pg_hh 229) := rfl
set_option maxRecDepth 100000 in
theorem pg_cw230 : lw_tbl[1802]? = some (fx_cw pg_yy pg_bb pg_nl pg_rr pg_hh 230) := rfl
set_option maxRecDepth 100000 in
theorem pg_cw231 : lw_tbl[1790]? = some (fx_cw pg_yy pg_bb pg_nl pg_rr pg_hh 231) := rfl
set_option maxRecDepth 100000 in
theorem pg_cw232 : lw_tbl[1904]? = some (fx_cw pg_yy pg_bb pg_nl pg_rr pg_hh 232) := rfl
set_option maxRecDepth 100000 in
theorem pg_cw233 : lw_tbl[1907]? = some (fx_cw pg_yy pg_bb pg_nl pg_rr pg_hh 233) := rfl
set_option maxRecDepth 100000 in
theorem pg_cw234 : lw_tbl[1900]? = some (fx_cw pg_yy pg_bb pg_nl pg_rr pg_hh 234) := rfl
set_option maxRecDepth 100000 in
theorem pg_cw235 : lw_tbl[1853]? = some (fx_cw pg_yy pg_bb pg_nl pg_rr pg_hh 235) := rfl
set_option maxRecDepth 100000 in
theorem pg_cw236 : lw_tbl[1841]? = some (fx_cw pg_yy pg_bb pg_nl pg_rr pg_hh 236) := rfl
set_option maxRecDepth 100000 in
theorem pg_cw237 : lw_tbl[1857]? = some (fx_cw pg_yy pg_bb pg_nl pg_rr pg_hh 237) := rfl
set_option maxRecDepth 100000 in
theorem pg_cw238 : lw_tbl[1849]? = some (fx_cw pg_yy pg_bb pg_nl pg_rr pg_hh 238) := rfl
set_option maxRecDepth 100000 in
theorem pg_cw239 : lw_tbl[1838]? = some (fx_cw pg_yy pg_bb pg_nl pg_rr pg_hh 239) := rfl
set_option maxRecDepth 100000 in
theorem pg_cw240 : lw_tbl[1834]? = some (fx_cw pg_yy pg_bb pg_nl pg_rr pg_hh 240) := rfl
set_option maxRecDepth 100000 in
theorem pg_cw241 : lw_tbl[1865]? = some (fx_cw pg_yy pg_bb pg_nl pg_rr pg_hh 241) := rfl
set_option maxRecDepth 100000 in
theorem pg_cw242 : lw_tbl[1923]? = some (fx_cw pg_yy pg_bb pg_nl pg_rr pg_hh 242) := rfl
set_option maxRecDepth 100000 in
theorem pg_cw243 : lw_tbl[1919]? = some (fx_cw pg_yy pg_bb pg_nl pg_rr pg_hh 243) := rfl
set_option maxRecDepth 100000 in
theorem pg_cw244 : lw_tbl[1915]? = some (fx_cw pg_yy pg_bb pg_nl pg_rr pg_hh 244) := rfl
set_option maxRecDepth 100000 in
theorem pg_cw245 : lw_tbl[1927]? = some (fx_cw pg_yy pg_bb pg_nl pg_rr pg_hh 245) := rfl
set_option maxRecDepth 100000 in
theorem pg_cw246 : lw_tbl[1861]? = some (fx_cw pg_yy pg_bb pg_nl pg_rr pg_hh 246) := rfl
set_option maxRecDepth 100000 in
theorem pg_cw247 : lw_tbl[1884]? = some (fx_cw pg_yy pg_bb pg_nl pg_rr pg_hh 247) := rfl
set_option maxRecDepth 100000 in
theorem pg_cw248 : lw_tbl[1881]? = some (fx_cw pg_yy pg_bb pg_nl pg_rr pg_hh 248) := rfl
set_option maxRecDepth 100000 in
theorem pg_cw249 : lw_tbl[1892]? = some (fx_cw pg_yy pg_bb pg_nl pg_rr pg_hh 249) := rfl
set_option maxRecDepth 100000 in
theorem pg_cw250 : lw_tbl[1888]? = some (fx_cw pg_yy pg_bb pg_nl pg_rr pg_hh 250) := rfl
set_option maxRecDepth 100000 in
theorem pg_cw251 : lw_tbl[1896]? = some (fx_cw pg_yy pg_bb pg_nl pg_rr pg_hh 251) := rfl
set_option maxRecDepth 100000 in
theorem pg_cw252 : lw_tbl[1877]? = some (fx_cw pg_yy pg_bb pg_nl pg_rr pg_hh 252) := rfl
set_option maxRecDepth 100000 in
theorem pg_cw253 : lw_tbl[1993]? = some (fx_cw pg_yy pg_bb pg_nl pg_rr pg_hh 253) := rfl
set_option maxRecDepth 100000 in
theorem pg_cw254 : lw_tbl[1873]? = some (fx_cw pg_yy pg_bb pg_nl pg_rr pg_hh 254) := rfl
set_option maxRecDepth 100000 in
theorem pg_cw255 : lw_tbl[1911]? = some (fx_cw pg_yy pg_bb pg_nl pg_rr pg_hh 255) := rfl
set_option maxRecDepth 100000 in
theorem pg_cw256 : lw_tbl[1869]? = some (fx_cw pg_yy pg_bb pg_nl pg_rr pg_hh 256) := rfl
set_option maxRecDepth 100000 in
theorem pg_cw257 : lw_tbl[1931]? = some (fx_cw pg_yy pg_bb pg_nl pg_rr pg_hh 257) := rfl
set_option maxRecDepth 100000 in
theorem pg_cw258 : lw_tbl[1942]? = some (fx_cw pg_yy pg_bb pg_nl pg_rr pg_hh 258) := rfl
set_option maxRecDepth 100000 in
theorem pg_cw259 : lw_tbl[1935]? = some (fx_cw pg_yy pg_bb pg_nl pg_rr pg_hh 259) := rfl
set_option maxRecDepth 100000 in
theorem pg_cw260 : lw_tbl[1950]? = some (fx_cw pg_yy pg_bb pg_nl pg_rr pg_hh 260) := rfl
set_option maxRecDepth 100000 in
theorem pg_cw261 : lw_tbl[1965]? = some (fx_cw pg_yy pg_bb pg_nl pg_rr pg_hh 261) := rfl
set_option maxRecDepth 100000 in
theorem pg_cw262 : lw_tbl[1957]? = some (fx_cw pg_yy pg_bb pg_nl pg_rr pg_hh 262) := rfl
set_option maxRecDepth 100000 in
theorem pg_cw263 : lw_tbl[1985]? = some (fx_cw pg_yy pg_bb pg_nl pg_rr pg_hh 263) := rfl
set_option maxRecDepth 100000 in
theorem pg_cw264 : lw_tbl[1946]? = some (fx_cw pg_yy pg_bb pg_nl pg_rr pg_hh 264) := rfl
set_option maxRecDepth 100000 in
theorem pg_cw265 : lw_tbl[1954]? = some (fx_cw pg_yy pg_bb pg_nl pg_rr pg_hh 265) := rfl
set_option maxRecDepth 100000 in
theorem pg_cw266 : lw_tbl[1961]? = some (fx_cw pg_yy pg_bb pg_nl pg_rr pg_hh 266) := rfl
set_option maxRecDepth 100000 in
theorem pg_cw267 : lw_tbl[1969]? = some (fx_cw pg_yy pg_bb pg_nl pg_rr pg_hh 267) := rfl
set_option maxRecDepth 100000 in
theorem pg_cw268 : lw_tbl[1973]? = some (fx_cw pg_yy pg_bb pg_nl pg_rr pg_hh 268) := rfl
set_option maxRecDepth 100000 in
theorem pg_cw269 : lw_tbl[1977]? = some (fx_cw pg_yy pg_bb pg_nl pg_rr pg_hh 269) := rfl
set_option maxRecDepth 100000 in
theorem pg_cw270 : lw_tbl[1989]? = some (fx_cw pg_yy pg_bb pg_nl pg_rr pg_hh 270) := rfl
set_option maxRecDepth 100000 in
theorem pg_cw271 : lw_tbl[1981]? = some (fx_cw pg_yy pg_bb pg_nl pg_rr pg_hh 271) := rfl
set_option maxRecDepth 100000 in
theorem pg_cw272 : lw_tbl[2001]? = some (fx_cw pg_yy pg_bb pg_nl pg_rr pg_hh 272) := rfl
set_option maxRecDepth 100000 in
theorem pg_cw273 : lw_tbl[2004]? = some (fx_cw pg_yy pg_bb pg_nl pg_rr pg_hh 273) := rfl
set_option maxRecDepth 100000 in
theorem pg_cw274 : lw_tbl[1997]? = some (fx_cw pg_yy pg_bb pg_nl pg_rr pg_hh 274) := rfl
set_option maxRecDepth 100000 in
theorem pg_cw275 : lw_tbl[2008]? = some (fx_cw pg_yy pg_bb pg_nl pg_rr pg_hh 275) := rfl
set_option maxRecDepth 100000 in
theorem pg_cw276 : lw_tbl[2012]? = some (fx_cw pg_yy pg_bb pg_nl pg_rr pg_hh 276) := rfl
set_option maxRecDepth 100000 in
theorem pg_cw277 : lw_tbl[2016]? = some (fx_cw pg_yy pg_bb pg_nl pg_rr pg_hh 277) := rfl
set_option maxRecDepth 100000 in
theorem pg_cw278 : lw_tbl[2025]? = some (fx_cw pg_yy pg_bb pg_nl pg_rr pg_hh 278) := rfl
set_option maxRecDepth 100000 in
theorem pg_cw279 : lw_tbl[2021]? = some (fx_cw pg_yy pg_bb pg_nl pg_rr pg_hh 279) := rfl
set_option maxRecDepth 100000 in
theorem pg_cw280 : lw_tbl[2033]? = some (fx_cw pg_yy pg_bb pg_nl pg_rr pg_hh 280) := rfl
set_option maxRecDepth 100000 in
theorem pg_cw281 : lw_tbl[2029]? = some (fx_cw pg_yy pg_bb pg_nl pg_rr pg_hh 281) := rfl
set_option maxRecDepth 100000 in
theorem pg_cw282 : lw_tbl[2037]? = some (fx_cw pg_yy pg_bb pg_nl pg_rr pg_hh 282) := rfl
set_option maxRecDepth 100000 in
theorem pg_cw283 : lw_tbl[2041]? = some (fx_cw pg_yy pg_bb pg_nl pg_rr pg_hh 283) := rfl
set_option maxRecDepth 100000 in
theorem pg_cw284 : lw_tbl[2049]? = some (fx_cw pg_yy pg_bb pg_nl pg_rr pg_hh 284) := rfl
set_option maxRecDepth 100000 in
theorem pg_cw285 : lw_tbl[2045]? = some (fx_cw pg_yy pg_bb pg_nl pg_rr pg_hh 285) := rfl
set_option maxRecDepth 100000 in
theorem pg_cw286 : lw_tbl[2065]? = some (fx_cw pg_yy pg_bb pg_nl pg_rr pg_hh 286) := rfl
set_option maxRecDepth 100000 in
theorem pg_cw287 : lw_tbl[2061]? = some (fx_cw pg_yy pg_bb pg_nl pg_rr pg_hh 287) := rfl
set_option maxRecDepth 100000 in
theorem pg_cw288 : lw_tbl[2057]? = some (fx_cw pg_yy pg_bb pg_nl pg_rr pg_hh 288) := rfl
set_option maxRecDepth 100000 in
theorem pg_cw289 : lw_tbl[2053]? = some (fx_cw pg_yy pg_bb pg_nl pg_rr pg_hh 289) := rfl
set_option maxRecDepth 100000 in
theorem pg_cw290 : lw_tbl[2073]? = some (fx_cw pg_yy pg_bb pg_nl pg_rr pg_hh 290) := rfl
set_option maxRecDepth 100000 in
theorem pg_cw291 : lw_tbl[2069]? = some (fx_cw pg_yy pg_bb pg_nl pg_rr pg_hh 291) := rfl
set_option maxRecDepth 100000 in
theorem pg_cw292 : lw_tbl[2081]? = some (fx_cw pg_yy pg_bb pg_nl pg_rr pg_hh 292) := rfl
set_option maxRecDepth 100000 in
theorem pg_cw293 : lw_tbl[2077]? = some (fx_cw pg_yy pg_bb pg_nl pg_rr pg_hh 293) := rfl
set_option maxRecDepth 100000 in
theorem pg_cw294 : lw_tbl[2089]? = some (fx_cw pg_yy pg_bb pg_nl pg_rr pg_hh 294) := rfl
set_option maxRecDepth 100000 in
theorem pg_cw295 : lw_tbl[2085]? = some (fx_cw pg_yy pg_bb pg_nl pg_rr pg_hh 295) := rfl
set_option maxRecDepth 100000 in
theorem pg_cw296 : lw_tbl[2097]? = some (fx_cw pg_yy pg_bb pg_nl pg_rr pg_hh 296) := rfl
set_option maxRecDepth 100000 in
theorem pg_cw297 : lw_tbl[2093]? = some (fx_cw pg_yy pg_bb pg_nl pg_rr pg_hh 297) := rfl
set_option maxRecDepth 100000 in
theorem pg_cw298 : lw_tbl[2101]? = some (fx_cw pg_yy pg_bb pg_nl pg_rr pg_hh 298) := rfl
set_option maxRecDepth 100000 in
theorem pg_cw299 : lw_tbl[2105]? = some (fx_cw pg_yy pg_bb pg_nl pg_rr pg_hh 299) := rfl
set_option maxRecDepth 100000 in
theorem pg_cw300 : lw_tbl[2109]? = some (fx_cw pg_yy pg_bb pg_nl pg_rr pg_hh 300) := rfl
set_option maxRecDepth 100000 in
theorem pg_cw301 : lw_tbl[2113]? = some (fx_cw pg_yy pg_bb pg_nl pg_rr pg_hh 301) := rfl
set_option maxRecDepth 100000 in
theorem pg_cw302 : lw_tbl[2128]? = some (fx_cw pg_yy pg_bb pg_nl pg_rr pg_hh 302) := rfl
set_option maxRecDepth 100000 in
theorem pg_cw303 : lw_tbl[2124]? = some (fx_cw pg_yy pg_bb pg_nl pg_rr pg_hh 303) := rfl
set_option maxRecDepth 100000 in
theorem pg_cw304 : lw_tbl[2120]? = some (fx_cw pg_yy pg_bb pg_nl pg_rr pg_hh 304) := rfl
set_option maxRecDepth 100000 in
theorem pg_cw305 : lw_tbl[2117]? = some (fx_cw pg_yy pg_bb pg_nl pg_rr pg_hh 305) := rfl
set_option maxRecDepth 100000 in
theorem pg_cw306 : lw_tbl[2133]? = some (fx_cw pg_yy pg_bb pg_nl pg_rr pg_hh 306) := rfl
set_option maxRecDepth 100000 in
theorem pg_cw307 : lw_tbl[2145]? = some (fx_cw pg_yy pg_bb pg_nl pg_rr pg_hh 307) := rfl
set_option maxRecDepth 100000 in
theorem pg_cw308 : lw_tbl[2141]? = some (fx_cw pg_yy pg_bb pg_nl pg_rr pg_hh 308) := rfl
set_option maxRecDepth 100000 in
theorem pg_cw309 : lw_tbl[2137]? = some (fx_cw pg_yy pg_bb pg_nl pg_rr pg_hh 309) := rfl
set_option maxRecDepth 100000 in
theorem pg_cw310 : lw_tbl[2149]? = some (fx_cw pg_yy pg_bb pg_nl pg_rr pg_hh 310) := rfl
set_option maxRecDepth 100000 in
theorem pg_cw311 : lw_tbl[2153]? = some (fx_cw pg_yy pg_bb pg_nl pg_rr pg_hh 311) := rfl
set_option maxRecDepth 100000 in
theorem pg_cw312 : lw_tbl[2157]? = some (fx_cw pg_yy pg_bb pg_nl pg_rr pg_hh 312) := rfl
set_option maxRecDepth 100000 in
theorem pg_cw313 : lw_tbl[737]? = some (fx_cw pg_yy pg_bb pg_nl pg_rr pg_hh 313) := rfl
set_option maxRecDepth 100000 in
theorem pg_cw314 : lw_tbl[960]? = some (fx_cw pg_yy pg_bb pg_nl pg_rr pg_hh 314) := rfl
set_option maxRecDepth 100000 in
theorem pg_cw315 : lw_tbl[1012]? = some (fx_cw pg_yy pg_bb pg_nl pg_rr pg_hh 315) := rfl
set_option maxRecDepth 100000 in
theorem pg_cw316 : lw_tbl[1115]? = some (fx_cw pg_yy pg_bb pg_nl pg_rr pg_hh 316) := rfl
set_option maxRecDepth 100000 in
theorem pg_cw317 : lw_tbl[1135]? = some (fx_cw pg_yy pg_bb pg_nl pg_rr pg_hh 317) := rfl
set_option maxRecDepth 100000 in
theorem pg_cw318 : lw_tbl[1142]? = some (fx_cw pg_yy pg_bb pg_nl pg_rr pg_hh 318) := rfl
set_option maxRecDepth 100000 in
theorem pg_cw319 : lw_tbl[1154]? = some (fx_cw pg_yy pg_bb pg_nl pg_rr pg_hh 319) := rfl
set_option maxRecDepth 100000 in
theorem pg_cw320 : lw_tbl[1191]? = some (fx_cw pg_yy pg_bb pg_nl pg_rr pg_hh 320) := rfl
set_option maxRecDepth 100000 in
theorem pg_cw321 : lw_tbl[1203]? = some (fx_cw pg_yy pg_bb pg_nl pg_rr pg_hh 321) := rfl
set_option maxRecDepth 100000 in
theorem pg_cw322 : lw_tbl[1211]? = some (fx_cw pg_yy pg_bb pg_nl pg_rr pg_hh 322) := rfl
set_option maxRecDepth 100000 in
theorem pg_cw323 : lw_tbl[1218]? = some (fx_cw pg_yy pg_bb pg_nl pg_rr pg_hh 323) := rfl
set_option maxRecDepth 100000 in
theorem pg_cw324 : lw_tbl[1226]? = some (fx_cw pg_yy pg_bb pg_nl pg_rr pg_hh 324) := rfl
set_option maxRecDepth 100000 in
theorem pg_cw325 : lw_tbl[1234]? = some (fx_cw pg_yy pg_bb pg_nl pg_rr pg_hh 325) := rfl
set_option maxRecDepth 100000 in
theorem pg_cw326 : lw_tbl[1250]? = some (fx_cw pg_yy pg_bb pg_nl pg_rr pg_hh 326) := rfl
set_option maxRecDepth 100000 in
theorem pg_cw327 : lw_tbl[1296]? = some (fx_cw pg_yy pg_bb pg_nl pg_rr pg_hh 327) := rfl
set_option maxRecDepth 100000 in
theorem pg_cw328 : lw_tbl[1309]? = some (fx_cw pg_yy pg_bb pg_nl pg_rr pg_hh 328) := rfl
set_option maxRecDepth 100000 in
theorem pg_cw329 : lw_tbl[1316]? = some (fx_cw pg_yy pg_bb pg_nl pg_rr pg_hh 329) := rfl
set_option maxRecDepth 100000 in
theorem pg_cw330 : lw_tbl[1337]? = some (fx_cw pg_yy pg_bb pg_nl pg_rr pg_hh 330) := rfl
set_option maxRecDepth 100000 in
theorem pg_cw331 : lw_tbl[1345]? = some (fx_cw pg_yy pg_bb pg_nl pg_rr pg_hh 331) := rfl
set_option maxRecDepth 100000 in
theorem pg_cw332 : lw_tbl[1352]? = some (fx_cw pg_yy pg_bb pg_nl pg_rr pg_hh 332) := rfl
set_option maxRecDepth 100000 in
theorem pg_cw333 : lw_tbl[1382]? = some (fx_cw pg_yy pg_bb pg_nl pg_rr pg_hh 333) := rfl
set_option maxRecDepth 100000 in
theorem pg_cw334 : lw_tbl[1399]? = some (fx_cw pg_yy pg_bb pg_nl pg_rr pg_hh 334) := rfl
set_option maxRecDepth 100000 in
theorem pg_cw335 : lw_tbl[1419]? = some (fx_cw pg_yy pg_bb pg_nl pg_rr pg_hh 335) := rfl
set_option maxRecDepth 100000 in
theorem pg_cw336 : lw_tbl[1433]? = some (fx_cw pg_yy pg_bb pg_nl pg_rr pg_hh 336) := rfl
set_option maxRecDepth 100000 in
theorem pg_cw337 : lw_tbl[1456]? = some (fx_cw pg_yy pg_bb pg_nl pg_rr pg_hh 337) := rfl
set_option maxRecDepth 100000 in
theorem pg_cw338 : lw_tbl[1463]? = some (fx_cw pg_yy pg_bb pg_nl pg_rr pg_hh 338) := rfl
set_option maxRecDepth 100000 in
theorem pg_cw339 : lw_tbl[1471]? = some (fx_cw pg_yy pg_bb pg_nl pg_rr pg_hh 339) := rfl
set_option maxRecDepth 100000 in
theorem pg_cw340 : lw_tbl[1495]? = some (fx_cw pg_yy pg_bb pg_nl pg_rr pg_hh 340) := rfl
theorem pg_cwTB {k i : Nat} (h : lw_tbl[i]? = some (fx_cw pg_yy pg_bb pg_nl pg_rr pg_hh k)) : fx_cw pg_yy pg_bb pg_nl pg_rr pg_hh k ∈ pg_TB := by
  refine List.mem_filter.mpr ⟨List.mem_of_getElem? h, ?_⟩
  unfold fx_cw
  split <;> rfl
theorem pg_cwr0 : ∀ k, 0 ≤ k → k < 20 → fx_cw pg_yy pg_bb pg_nl pg_rr pg_hh k ∈ pg_TB := by
  intro k h1 h2
  rcases (show k = 0 ∨ k = 1 ∨ k = 2 ∨ k = 3 ∨ k = 4 ∨ k = 5 ∨ k = 6 ∨ k = 7 ∨ k = 8 ∨ k = 9 ∨ k = 10 ∨ k = 11 ∨ k = 12 ∨ k = 13 ∨ k = 14 ∨ k = 15 ∨ k = 16 ∨ k = 17 ∨ k = 18 ∨ k = 19 by omega) with rfl | rfl | rfl | rfl | rfl | rfl | rfl | rfl | rfl | rfl | rfl | rfl | rfl | rfl | rfl | rfl | rfl | rfl | rfl | rfl
  · exact pg_cwTB pg_cw0
  · exact pg_cwTB pg_cw1
  · exact pg_cwTB pg_cw2
  · exact pg_cwTB pg_cw3
  · exact pg_cwTB pg_cw4
  · exact pg_cwTB pg_cw5
  · exact pg_cwTB pg_cw6
  · exact pg_cwTB pg_cw7
  · exact pg_cwTB pg_cw8
  · exact pg_cwTB pg_cw9
  · exact pg_cwTB pg_cw10
  · exact pg_cwTB pg_cw11
  · exact pg_cwTB pg_cw12
  · exact pg_cwTB pg_cw13
  · exact pg_cwTB pg_cw14
  · exact pg_cwTB pg_cw15
  · exact pg_cwTB pg_cw16
  · exact pg_cwTB pg_cw17
  · exact pg_cwTB pg_cw18
  · exact pg_cwTB pg_cw19
theorem pg_cwr20 : ∀ k, 20 ≤ k → k < 40 → fx_cw pg_yy pg_bb pg_nl pg_rr pg_hh k ∈ pg_TB := by
  intro k h1 h2
  rcases (show k = 20 ∨ k = 21 ∨ k = 22 ∨ k = 23 ∨ k = 24 ∨ k = 25 ∨ k = 26 ∨ k = 27 ∨ k = 28 ∨ k = 29 ∨ k = 30 ∨ k = 31 ∨ k = 32 ∨ k = 33 ∨ k = 34 ∨ k = 35 ∨ k = 36 ∨ k = 37 ∨ k = 38 ∨ k = 39 by omega) with rfl | rfl | rfl | rfl | rfl | rfl | rfl | rfl | rfl | rfl | rfl | rfl | rfl | rfl | rfl | rfl | rfl | rfl | rfl | rfl
  · exact pg_cwTB pg_cw20
  · exact pg_cwTB pg_cw21
  · exact pg_cwTB pg_cw22
  · exact pg_cwTB pg_cw23
  · exact pg_cwTB pg_cw24
  · exact pg_cwTB pg_cw25
  · exact pg_cwTB pg_cw26
  · exact pg_cwTB pg_cw27
  · exact pg_cwTB pg_cw28
  · exact pg_cwTB pg_cw29
  · exact pg_cwTB pg_cw30
  · exact pg_cwTB pg_cw31
  · exact pg_cwTB pg_cw32
  · exact pg_cwTB pg_cw33
  · exact pg_cwTB pg_cw34
  · exact pg_cwTB pg_cw35
  · exact pg_cwTB pg_cw36
  · exact pg_cwTB pg_cw37
  · exact pg_cwTB pg_cw38
  · exact pg_cwTB pg_cw39
theorem pg_cwr40 : ∀ k, 40 ≤ k → k < 60 → fx_cw pg_yy pg_bb pg_nl pg_rr pg_hh k ∈ pg_TB := by
  intro k h1 h2
  rcases (show k = 40 ∨ k = 41 ∨ k = 42 ∨ k = 43 ∨ k = 44 ∨ k = 45 ∨ k = 46 ∨ k = 47 ∨ k = 48 ∨ k = 49 ∨ k = 50 ∨ k = 51 ∨ k = 52 ∨ k = 53 ∨ k = 54 ∨ k = 55 ∨ k = 56 ∨ k = 57 ∨ k = 58 ∨ k = 59 by omega) with rfl | rfl | rfl | rfl | rfl | rfl | rfl | rfl | rfl | rfl | rfl | rfl | rfl | rfl | rfl | rfl | rfl | rfl | rfl | rfl
  · exact pg_cwTB pg_cw40
  · exact pg_cwTB pg_cw41
  · exact pg_cwTB pg_cw42
  · exact pg_cwTB pg_cw43
  · exact pg_cwTB pg_cw44
  · exact pg_cwTB pg_cw45
  · exact pg_cwTB pg_cw46
  · exact pg_cwTB pg_cw47
  · exact pg_cwTB pg_cw48
  · exact pg_cwTB pg_cw49
  · exact pg_cwTB pg_cw50
  · exact pg_cwTB pg_cw51
  · exact pg_cwTB pg_cw52
  · exact pg_cwTB pg_cw53
  · exact pg_cwTB pg_cw54
  · exact pg_cwTB pg_cw55
  · exact pg_cwTB pg_cw56
  · exact pg_cwTB pg_cw57
  · exact pg_cwTB pg_cw58
  · exact pg_cwTB pg_cw59
theorem pg_cwr60 : ∀ k, 60 ≤ k → k < 80 → fx_cw pg_yy pg_bb pg_nl pg_rr pg_hh k ∈ pg_TB := by
  intro k h1 h2
  rcases (show k = 60 ∨ k = 61 ∨ k = 62 ∨ k = 63 ∨ k = 64 ∨ k = 65 ∨ k = 66 ∨ k = 67 ∨ k = 68 ∨ k = 69 ∨ k = 70 ∨ k = 71 ∨ k = 72 ∨ k = 73 ∨ k = 74 ∨ k = 75 ∨ k = 76 ∨ k = 77 ∨ k = 78 ∨ k = 79 by omega) with rfl | rfl | rfl | rfl | rfl | rfl | rfl | rfl | rfl | rfl | rfl | rfl | rfl | rfl | rfl | rfl | rfl | rfl | rfl | rfl
  · exact pg_cwTB pg_cw60
  · exact pg_cwTB pg_cw61
  · exact pg_cwTB pg_cw62
  · exact pg_cwTB pg_cw63
  · exact pg_cwTB pg_cw64
  · exact pg_cwTB pg_cw65
  · exact pg_cwTB pg_cw66
  · exact pg_cwTB pg_cw67
  · exact pg_cwTB pg_cw68
  · exact pg_cwTB pg_cw69
  · exact pg_cwTB pg_cw70
  · exact pg_cwTB pg_cw71
  · exact pg_cwTB pg_cw72
  · exact pg_cwTB pg_cw73
  · exact pg_cwTB pg_cw74
  · exact pg_cwTB pg_cw75
  · exact pg_cwTB pg_cw76
  · exact pg_cwTB pg_cw77
  · exact pg_cwTB pg_cw78
  · exact pg_cwTB pg_cw79
theorem pg_cwr80 : ∀ k, 80 ≤ k → k < 100 → fx_cw pg_yy pg_bb pg_nl pg_rr pg_hh k ∈ pg_TB := by
  intro k h1 h2
  rcases (show k = 80 ∨ k = 81 ∨ k = 82 ∨ k = 83 ∨ k = 84 ∨ k = 85 ∨ k = 86 ∨ k = 87 ∨ k = 88 ∨ k = 89 ∨ k = 90 ∨ k = 91 ∨ k = 92 ∨ k = 93 ∨ k = 94 ∨ k = 95 ∨ k = 96 ∨ k = 97 ∨ k = 98 ∨ k = 99 by omega) with rfl | rfl | rfl | rfl | rfl | rfl | rfl | rfl | rfl | rfl | rfl | rfl | rfl | rfl | rfl | rfl | rfl | rfl | rfl | rfl
  · exact pg_cwTB pg_cw80
  · exact pg_cwTB pg_cw81
  · exact pg_cwTB pg_cw82
  · exact pg_cwTB pg_cw83
  · exact pg_cwTB pg_cw84
  · exact pg_cwTB pg_cw85
  · exact pg_cwTB pg_cw86
  · exact pg_cwTB pg_cw87
  · exact pg_cwTB pg_cw88
  · exact pg_cwTB pg_cw89
  · exact pg_cwTB pg_cw90
  · exact pg_cwTB pg_cw91
  · exact pg_cwTB pg_cw92
  · exact pg_cwTB pg_cw93
  · exact pg_cwTB pg_cw94
  · exact pg_cwTB pg_cw95
  · exact pg_cwTB pg_cw96
  · exact pg_cwTB pg_cw97
  · exact pg_cwTB pg_cw98
  · exact pg_cwTB pg_cw99
theorem pg_cwr100 : ∀ k, 100 ≤ k → k < 120 → fx_cw pg_yy pg_bb pg_nl pg_rr pg_hh k ∈ pg_TB := by
  intro k h1 h2
  rcases (show k = 100 ∨ k = 101 ∨ k = 102 ∨ k = 103 ∨ k = 104 ∨ k = 105 ∨ k = 106 ∨ k = 107 ∨ k = 108 ∨ k = 109 ∨ k = 110 ∨ k = 111 ∨ k = 112 ∨ k = 113 ∨ k = 114 ∨ k = 115 ∨ k = 116 ∨ k = 117 ∨ k = 118 ∨ k = 119 by omega) with rfl | rfl | rfl | rfl | rfl | rfl | rfl | rfl | rfl | rfl | rfl | rfl | rfl | rfl | rfl | rfl | rfl | rfl | rfl | rfl
  · exact pg_cwTB pg_cw100
  · exact pg_cwTB pg_cw101
  · exact pg_cwTB pg_cw102
  · exact pg_cwTB pg_cw103
  · exact pg_cwTB pg_cw104
  · exact pg_cwTB pg_cw105
  · exact pg_cwTB pg_cw106
  · exact pg_cwTB pg_cw107
  · exact pg_cwTB pg_cw108
  · exact pg_cwTB pg_cw109
  · exact pg_cwTB pg_cw110
  · exact pg_cwTB pg_cw111
  · exact pg_cwTB pg_cw112
  · exact pg_cwTB pg_cw113
  · exact pg_cwTB pg_cw114
  · exact pg_cwTB pg_cw115
  · exact pg_cwTB pg_cw116
  · exact pg_cwTB pg_cw117
  · exact pg_cwTB pg_cw118
  · exact pg_cwTB pg_cw119
theorem pg_cwr120 : ∀ k, 120 ≤ k → k < 140 → fx_cw pg_yy pg_bb pg_nl pg_rr pg_hh k ∈ pg_TB := by
  intro k h1 h2
  rcases (show k = 120 ∨ k = 121 ∨ k = 122 ∨ k = 123 ∨ k = 124 ∨ k = 125 ∨ k = 126 ∨ k = 127 ∨ k = 128 ∨ k = 129 ∨ k = 130 ∨ k = 131 ∨ k = 132 ∨ k = 133 ∨ k = 134 ∨ k = 135 ∨ k = 136 ∨ k = 137 ∨ k = 138 ∨ k = 139 by omega) with rfl | rfl | rfl | rfl | rfl | rfl | rfl | rfl | rfl | rfl | rfl | rfl | rfl | rfl | rfl | rfl | rfl | rfl | rfl | rfl
  · exact pg_cwTB pg_cw120
  · exact pg_cwTB pg_cw121
  · exact pg_cwTB pg_cw122
  · exact pg_cwTB pg_cw123
  · exact pg_cwTB pg_cw124
  · exact pg_cwTB pg_cw125
  · exact pg_cwTB pg_cw126
  · exact pg_cwTB pg_cw127
  · exact pg_cwTB pg_cw128
  · exact pg_cwTB pg_cw129
  · exact pg_cwTB pg_cw130
  · exact pg_cwTB pg_cw131
  · exact pg_cwTB pg_cw132
  · exact pg_cwTB pg_cw133
  · exact pg_cwTB pg_cw134
  · exact pg_cwTB pg_cw135
  · exact pg_cwTB pg_cw136
  · exact pg_cwTB pg_cw137
  · exact pg_cwTB pg_cw138
  · exact pg_cwTB pg_cw139
theorem pg_cwr140 : ∀ k, 140 ≤ k → k < 160 → fx_cw pg_yy pg_bb pg_nl pg_rr pg_hh k ∈ pg_TB := by
  intro k h1 h2
  rcases (show k = 140 ∨ k = 141 ∨ k = 142 ∨ k = 143 ∨ k = 144 ∨ k = 145 ∨ k = 146 ∨ k = 147 ∨ k = 148 ∨ k = 149 ∨ k = 150 ∨ k = 151 ∨ k = 152 ∨ k = 153 ∨ k = 154 ∨ k = 155 ∨ k = 156 ∨ k = 157 ∨ k = 158 ∨ k = 159 by omega) with rfl | rfl | rfl | rfl | rfl | rfl | rfl | rfl | rfl | rfl | rfl | rfl | rfl | rfl | rfl | rfl | rfl | rfl | rfl | rfl
  · exact pg_cwTB pg_cw140
  · exact pg_cwTB pg_cw141
  · exact pg_cwTB pg_cw142
  · exact pg_cwTB pg_cw143
  · exact pg_cwTB pg_cw144
  · exact pg_cwTB pg_cw145
  · exact pg_cwTB pg_cw146
  · exact pg_cwTB pg_cw147
  · exact pg_cwTB pg_cw148
  · exact pg_cwTB pg_cw149
  · exact pg_cwTB pg_cw150
  · exact pg_cwTB pg_cw151
  · exact pg_cwTB pg_cw152
  · exact pg_cwTB pg_cw153
  · exact pg_cwTB pg_cw154
  · exact pg_cwTB pg_cw155
  · exact pg_cwTB pg_cw156
  · exact pg_cwTB pg_cw157
  · exact pg_cwTB pg_cw158
  · exact pg_cwTB pg_cw159
theorem pg_cwr160 : ∀ k, 160 ≤ k → k < 180 → fx_cw pg_yy pg_bb pg_nl pg_rr pg_hh k ∈ pg_TB := by
  intro k h1 h2
  rcases (show k = 160 ∨ k = 161 ∨ k = 162 ∨ k = 163 ∨ k = 164 ∨ k = 165 ∨ k = 166 ∨ k = 167 ∨ k = 168 ∨ k = 169 ∨ k = 170 ∨ k = 171 ∨ k = 172 ∨ k = 173 ∨ k = 174 ∨ k = 175 ∨ k = 176 ∨ k = 177 ∨ k = 178 ∨ k = 179 by omega) with rfl | rfl | rfl | rfl | rfl | rfl | rfl | rfl | rfl | rfl | rfl | rfl | rfl | rfl | rfl | rfl | rfl | rfl | rfl | rfl
  · exact pg_cwTB pg_cw160
  · exact pg_cwTB pg_cw161
  · exact pg_cwTB pg_cw162
  · exact pg_cwTB pg_cw163
  · exact pg_cwTB pg_cw164
  · exact pg_cwTB pg_cw165
  · exact pg_cwTB pg_cw166
  · exact pg_cwTB pg_cw167
  · exact pg_cwTB pg_cw168
  · exact pg_cwTB pg_cw169
  · exact pg_cwTB pg_cw170
  · exact pg_cwTB pg_cw171
  · exact pg_cwTB pg_cw172
  · exact pg_cwTB pg_cw173
  · exact pg_cwTB pg_cw174
  · exact pg_cwTB pg_cw175
  · exact pg_cwTB pg_cw176
  · exact pg_cwTB pg_cw177
  · exact pg_cwTB pg_cw178
  · exact pg_cwTB pg_cw179
theorem pg_cwr180 : ∀ k, 180 ≤ k → k < 200 → fx_cw pg_yy pg_bb pg_nl pg_rr pg_hh k ∈ pg_TB := by
  intro k h1 h2
  rcases (show k = 180 ∨ k = 181 ∨ k = 182 ∨ k = 183 ∨ k = 184 ∨ k = 185 ∨ k = 186 ∨ k = 187 ∨ k = 188 ∨ k = 189 ∨ k = 190 ∨ k = 191 ∨ k = 192 ∨ k = 193 ∨ k = 194 ∨ k = 195 ∨ k = 196 ∨ k = 197 ∨ k = 198 ∨ k = 199 by omega) with rfl | rfl | rfl | rfl | rfl | rfl | rfl | rfl | rfl | rfl | rfl | rfl | rfl | rfl | rfl | rfl | rfl | rfl | rfl | rfl
  · exact pg_cwTB pg_cw180
  · exact pg_cwTB pg_cw181
  · exact pg_cwTB pg_cw182
  · exact pg_cwTB pg_cw183
  · exact pg_cwTB pg_cw184
  · exact pg_cwTB pg_cw185
  · exact pg_cwTB pg_cw186
  · exact pg_cwTB pg_cw187
  · exact pg_cwTB pg_cw188
  · exact pg_cwTB pg_cw189
  · exact pg_cwTB pg_cw190
  · exact pg_cwTB pg_cw191
  · exact pg_cwTB pg_cw192
  · exact pg_cwTB pg_cw193
  · exact pg_cwTB pg_cw194
  · exact pg_cwTB pg_cw195
  · exact pg_cwTB pg_cw196
  · exact pg_cwTB pg_cw197
  · exact pg_cwTB pg_cw198
  · exact pg_cwTB pg_cw199
theorem pg_cwr200 : ∀ k, 200 ≤ k → k < 220 → fx_cw pg_yy pg_bb pg_nl pg_rr pg_hh k ∈ pg_TB := by
  intro k h1 h2
  rcases (show k = 200 ∨ k = 201 ∨ k = 202 ∨ k = 203 ∨ k = 204 ∨ k = 205 ∨ k = 206 ∨ k = 207 ∨ k = 208 ∨ k = 209 ∨ k = 210 ∨ k = 211 ∨ k = 212 ∨ k = 213 ∨ k = 214 ∨ k = 215 ∨ k = 216 ∨ k = 217 ∨ k = 218 ∨ k = 219 by omega) with rfl | rfl | rfl | rfl | rfl | rfl | rfl | rfl | rfl | rfl | rfl | rfl | rfl | rfl | rfl | rfl | rfl | rfl | rfl | rfl
  · exact pg_cwTB pg_cw200
  · exact pg_cwTB pg_cw201
  · exact pg_cwTB pg_cw202
  · exact pg_cwTB pg_cw203
  · exact pg_cwTB pg_cw204
  · exact pg_cwTB pg_cw205
  · exact pg_cwTB pg_cw206
  · exact pg_cwTB pg_cw207
  · exact pg_cwTB pg_cw208
  · exact pg_cwTB pg_cw209
  · exact pg_cwTB pg_cw210
  · exact pg_cwTB pg_cw211
  · exact pg_cwTB pg_cw212
  · exact pg_cwTB pg_cw213
  · exact pg_cwTB pg_cw214
  · exact pg_cwTB pg_cw215
  · exact pg_cwTB pg_cw216
  · exact pg_cwTB pg_cw217
  · exact pg_cwTB pg_cw218
  · exact pg_cwTB pg_cw219
theorem pg_cwr220 : ∀ k, 220 ≤ k → k < 240 → fx_cw pg_yy pg_bb pg_nl pg_rr pg_hh k ∈ pg_TB := by
  intro k h1 h2
  rcases (show k = 220 ∨ k = 221 ∨ k = 222 ∨ k = 223 ∨ k = 224 ∨ k = 225 ∨ k = 226 ∨ k = 227 ∨ k = 228 ∨ k = 229 ∨ k = 230 ∨ k = 231 ∨ k = 232 ∨ k = 233 ∨ k = 234 ∨ k = 235 ∨ k = 236 ∨ k = 237 ∨ k = 238 ∨ k = 239 by omega) with rfl | rfl | rfl | rfl | rfl | rfl | rfl | rfl | rfl | rfl | rfl | rfl | rfl | rfl | rfl | rfl | rfl | rfl | rfl | rfl
  · exact pg_cwTB pg_cw220
  · exact pg_cwTB pg_cw221
  · exact pg_cwTB pg_cw222
  · exact pg_cwTB pg_cw223
  · exact pg_cwTB pg_cw224
  · exact pg_cwTB pg_cw225
  · exact pg_cwTB pg_cw226
  · exact pg_cwTB pg_cw227
  · exact pg_cwTB pg_cw228
  · exact pg_cwTB pg_cw229
  · exact pg_cwTB pg_cw230
  · exact pg_cwTB pg_cw231
  · exact pg_cwTB pg_cw232
  · exact pg_cwTB pg_cw233
  · exact pg_cwTB pg_cw234
  · exact pg_cwTB pg_cw235
  · exact pg_cwTB pg_cw236
  · exact pg_cwTB pg_cw237
  · exact pg_cwTB pg_cw238
  · exact pg_cwTB pg_cw239
theorem pg_cwr240 : ∀ k, 240 ≤ k → k < 260 → fx_cw pg_yy pg_bb pg_nl pg_rr pg_hh k ∈ pg_TB := by
  intro k h1 h2
  rcases (show k = 240 ∨ k = 241 ∨ k = 242 ∨ k = 243 ∨ k = 244 ∨ k = 245 ∨ k = 246 ∨ k = 247 ∨ k = 248 ∨ k = 249 ∨ k = 250 ∨ k = 251 ∨ k = 252 ∨ k = 253 ∨ k = 254 ∨ k = 255 ∨ k = 256 ∨ k = 257 ∨ k = 258 ∨ k = 259 by omega) with rfl | rfl | rfl | rfl | rfl | rfl | rfl | rfl | rfl | rfl | rfl | rfl | rfl | rfl | rfl | rfl | rfl | rfl | rfl | rfl
  · exact pg_cwTB pg_cw240
  · exact pg_cwTB pg_cw241
  · exact pg_cwTB pg_cw242
  · exact pg_cwTB pg_cw243
  · exact pg_cwTB pg_cw244
  · exact pg_cwTB pg_cw245
  · exact pg_cwTB pg_cw246
  · exact pg_cwTB pg_cw247
  · exact pg_cwTB pg_cw248
  · exact pg_cwTB pg_cw249
  · exact pg_cwTB pg_cw250
  · exact pg_cwTB pg_cw251
  · exact pg_cwTB pg_cw252
  · exact pg_cwTB pg_cw253
  · exact pg_cwTB pg_cw254
  · exact pg_cwTB pg_cw255
  · exact pg_cwTB pg_cw256
  · exact pg_cwTB pg_cw257
  · exact pg_cwTB pg_cw258
  · exact pg_cwTB pg_cw259
theorem pg_cwr260 : ∀ k, 260 ≤ k → k < 280 → fx_cw pg_yy pg_bb pg_nl pg_rr pg_hh k ∈ pg_TB := by
  intro k h1 h2
  rcases (show k = 260 ∨ k = 261 ∨ k = 262 ∨ k = 263 ∨ k = 264 ∨ k = 265 ∨ k = 266 ∨ k = 267 ∨ k = 268 ∨ k = 269 ∨ k = 270 ∨ k = 271 ∨ k = 272 ∨ k = 273 ∨ k = 274 ∨ k = 275 ∨ k = 276 ∨ k = 277 ∨ k = 278 ∨ k = 279 by omega) with rfl | rfl | rfl | rfl | rfl | rfl | rfl | rfl | rfl | rfl | rfl | rfl | rfl | rfl | rfl | rfl | rfl | rfl | rfl | rfl
  · exact pg_cwTB pg_cw260
  · exact pg_cwTB pg_cw261
  · exact pg_cwTB pg_cw262
  · exact pg_cwTB pg_cw263
  · exact pg_cwTB pg_cw264
  · exact pg_cwTB pg_cw265
  · exact pg_cwTB pg_cw266
  · exact pg_cwTB pg_cw267
  · exact pg_cwTB pg_cw268
  · exact pg_cwTB pg_cw269
  · exact pg_cwTB pg_cw270
  · exact pg_cwTB pg_cw271
  · exact pg_cwTB pg_cw272
  · exact pg_cwTB pg_cw273
  · exact pg_cwTB pg_cw274
  · exact pg_cwTB pg_cw275
  · exact pg_cwTB pg_cw276
  · exact pg_cwTB pg_cw277
  · exact pg_cwTB pg_cw278
  · exact pg_cwTB pg_cw279
theorem pg_cwr280 : ∀ k, 280 ≤ k → k < 300 → fx_cw pg_yy pg_bb pg_nl pg_rr pg_hh k ∈ pg_TB := by
  intro k h1 h2
  rcases (show k = 280 ∨ k = 281 ∨ k = 282 ∨ k = 283 ∨ k = 284 ∨ k = 285 ∨ k = 286 ∨ k = 287 ∨ k = 288 ∨ k = 289 ∨ k = 290 ∨ k = 291 ∨ k = 292 ∨ k = 293 ∨ k = 294 ∨ k = 295 ∨ k = 296 ∨ k = 297 ∨ k = 298 ∨ k = 299 by omega) with rfl | rfl | rfl | rfl | rfl | rfl | rfl | rfl | rfl | rfl | rfl | rfl | rfl | rfl | rfl | rfl | rfl | rfl | rfl | rfl
  · exact pg_cwTB pg_cw280
  · exact pg_cwTB pg_cw281
  · exact pg_cwTB pg_cw282
  · exact pg_cwTB pg_cw283
  · exact pg_cwTB pg_cw284
  · exact pg_cwTB pg_cw285
  · exact pg_cwTB pg_cw286
  · exact pg_cwTB pg_cw287
  · exact pg_cwTB pg_cw288
  · exact pg_cwTB pg_cw289
  · exact pg_cwTB pg_cw290
  · exact pg_cwTB pg_cw291
  · exact pg_cwTB pg_cw292
  · exact pg_cwTB pg_cw293
  · exact pg_cwTB pg_cw294
  · exact pg_cwTB pg_cw295
  · exact pg_cwTB pg_cw296
  · exact pg_cwTB pg_cw297
  · exact pg_cwTB pg_cw298
  · exact pg_cwTB pg_cw299
theorem pg_cwr300 : ∀ k, 300 ≤ k → k < 320 → fx_cw pg_yy pg_bb pg_nl pg_rr pg_hh k ∈ pg_TB := by
  intro k h1 h2
  rcases (show k = 300 ∨ k = 301 ∨ k = 302 ∨ k = 303 ∨ k = 304 ∨ k = 305 ∨ k = 306 ∨ k = 307 ∨ k = 308 ∨ k = 309 ∨ k = 310 ∨ k = 311 ∨ k = 312 ∨ k = 313 ∨ k = 314 ∨ k = 315 ∨ k = 316 ∨ k = 317 ∨ k = 318 ∨ k = 319 by omega) with rfl | rfl | rfl | rfl | rfl | rfl | rfl | rfl | rfl | rfl | rfl | rfl | rfl | rfl | rfl | rfl | rfl | rfl | rfl | rfl
  · exact pg_cwTB pg_cw300
  · exact pg_cwTB pg_cw301
  · exact pg_cwTB pg_cw302
  · exact pg_cwTB pg_cw303
  · exact pg_cwTB pg_cw304
  · exact pg_cwTB pg_cw305
  · exact pg_cwTB pg_cw306
  · exact pg_cwTB pg_cw307
  · exact pg_cwTB pg_cw308
  · exact pg_cwTB pg_cw309
  · exact pg_cwTB pg_cw310
  · exact pg_cwTB pg_cw311
  · exact pg_cwTB pg_cw312
  · exact pg_cwTB pg_cw313
  · exact pg_cwTB pg_cw314
  · exact pg_cwTB pg_cw315
  · exact pg_cwTB pg_cw316
  · exact pg_cwTB pg_cw317
  · exact pg_cwTB pg_cw318
  · exact pg_cwTB pg_cw319
theorem pg_cwr320 : ∀ k, 320 ≤ k → k < 340 → fx_cw pg_yy pg_bb pg_nl pg_rr pg_hh k ∈ pg_TB := by
  intro k h1 h2
  rcases (show k = 320 ∨ k = 321 ∨ k = 322 ∨ k = 323 ∨ k = 324 ∨ k = 325 ∨ k = 326 ∨ k = 327 ∨ k = 328 ∨ k = 329 ∨ k = 330 ∨ k = 331 ∨ k = 332 ∨ k = 333 ∨ k = 334 ∨ k = 335 ∨ k = 336 ∨ k = 337 ∨ k = 338 ∨ k = 339 by omega) with rfl | rfl | rfl | rfl | rfl | rfl | rfl | rfl | rfl | rfl | rfl | rfl | rfl | rfl | rfl | rfl | rfl | rfl | rfl | rfl
  · exact pg_cwTB pg_cw320
  · exact pg_cwTB pg_cw321
  · exact pg_cwTB pg_cw322
  · exact pg_cwTB pg_cw323
  · exact pg_cwTB pg_cw324
  · exact pg_cwTB pg_cw325
  · exact pg_cwTB pg_cw326
  · exact pg_cwTB pg_cw327
  · exact pg_cwTB pg_cw328
  · exact pg_cwTB pg_cw329
  · exact pg_cwTB pg_cw330
  · exact pg_cwTB pg_cw331
  · exact pg_cwTB pg_cw332
  · exact pg_cwTB pg_cw333
  · exact pg_cwTB pg_cw334
  · exact pg_cwTB pg_cw335
  · exact pg_cwTB pg_cw336
  · exact pg_cwTB pg_cw337
  · exact pg_cwTB pg_cw338
  · exact pg_cwTB pg_cw339
theorem pg_cwr340 : ∀ k, 340 ≤ k → k < 341 → fx_cw pg_yy pg_bb pg_nl pg_rr pg_hh k ∈ pg_TB := by
  intro k h1 h2
  rcases (show k = 340 by omega) with rfl
  · exact pg_cwTB pg_cw340
theorem pg_cw_in : ∀ k, k < 341 → fx_cw pg_yy pg_bb pg_nl pg_rr pg_hh k ∈ pg_TB := by
  intro k h
  by_cases h0 : k < 20
  · exact pg_cwr0 k (by omega) h0
  by_cases h20 : k < 40
  · exact pg_cwr20 k (by omega) h20
  by_cases h40 : k < 60
  · exact pg_cwr40 k (by omega) h40
  by_cases h60 : k < 80
  · exact pg_cwr60 k (by omega) h60
  by_cases h80 : k < 100
  · exact pg_cwr80 k (by omega) h80
  by_cases h100 : k < 120
  · exact pg_cwr100 k (by omega) h100
  by_cases h120 : k < 140
  · exact pg_cwr120 k (by omega) h120
  by_cases h140 : k < 160
  · exact pg_cwr140 k (by omega) h140
  by_cases h160 : k < 180
  · exact pg_cwr160 k (by omega) h160
  by_cases h180 : k < 200
  · exact pg_cwr180 k (by omega) h180
  by_cases h200 : k < 220
  · exact pg_cwr200 k (by omega) h200
  by_cases h220 : k < 240
  · exact pg_cwr220 k (by omega) h220
  by_cases h240 : k < 260
  · exact pg_cwr240 k (by omega) h240
  by_cases h260 : k < 280
  · exact pg_cwr260 k (by omega) h260
  by_cases h280 : k < 300
  · exact pg_cwr280 k (by omega) h280
  by_cases h300 : k < 320
  · exact pg_cwr300 k (by omega) h300
  by_cases h320 : k < 340
  · exact pg_cwr320 k (by omega) h320
  by_cases h340 : k < 341
  · exact pg_cwr340 k (by omega) h340
  omega
