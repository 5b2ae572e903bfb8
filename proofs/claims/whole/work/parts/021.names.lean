set_option maxRecDepth 20000 in
theorem pm_co0 : lw_tbl[728]? = some (.code (pm_y 0) (pm_b 0) (pm_mL 0) (pm_rt 0)) := rfl
set_option maxRecDepth 20000 in
theorem pm_co1 : lw_tbl[248]? = some (.code (pm_y 1) (pm_b 1) (pm_mL 1) (pm_rt 1)) := rfl
set_option maxRecDepth 20000 in
theorem pm_co2 : lw_tbl[611]? = some (.code (pm_y 2) (pm_b 2) (pm_mL 2) (pm_rt 2)) := rfl
set_option maxRecDepth 20000 in
theorem pm_co3 : lw_tbl[615]? = some (.code (pm_y 3) (pm_b 3) (pm_mL 3) (pm_rt 3)) := rfl
set_option maxRecDepth 20000 in
theorem pm_co4 : lw_tbl[619]? = some (.code (pm_y 4) (pm_b 4) (pm_mL 4) (pm_rt 4)) := rfl
set_option maxRecDepth 20000 in
theorem pm_co5 : lw_tbl[646]? = some (.code (pm_y 5) (pm_b 5) (pm_mL 5) (pm_rt 5)) := rfl
set_option maxRecDepth 20000 in
theorem pm_co6 : lw_tbl[656]? = some (.code (pm_y 6) (pm_b 6) (pm_mL 6) (pm_rt 6)) := rfl
set_option maxRecDepth 20000 in
theorem pm_co7 : lw_tbl[660]? = some (.code (pm_y 7) (pm_b 7) (pm_mL 7) (pm_rt 7)) := rfl
set_option maxRecDepth 20000 in
theorem pm_co8 : lw_tbl[668]? = some (.code (pm_y 8) (pm_b 8) (pm_mL 8) (pm_rt 8)) := rfl
set_option maxRecDepth 20000 in
theorem pm_co9 : lw_tbl[676]? = some (.code (pm_y 9) (pm_b 9) (pm_mL 9) (pm_rt 9)) := rfl
set_option maxRecDepth 20000 in
theorem pm_co10 : lw_tbl[942]? = some (.code (pm_y 10) (pm_b 10) (pm_mL 10) (pm_rt 10)) := rfl
set_option maxRecDepth 20000 in
theorem pm_co11 : lw_tbl[966]? = some (.code (pm_y 11) (pm_b 11) (pm_mL 11) (pm_rt 11)) := rfl
set_option maxRecDepth 20000 in
theorem pm_co12 : lw_tbl[987]? = some (.code (pm_y 12) (pm_b 12) (pm_mL 12) (pm_rt 12)) := rfl
set_option maxRecDepth 20000 in
theorem pm_co13 : lw_tbl[296]? = some (.code (pm_y 13) (pm_b 13) (pm_mL 13) (pm_rt 13)) := rfl
set_option maxRecDepth 20000 in
theorem pm_co14 : lw_tbl[1002]? = some (.code (pm_y 14) (pm_b 14) (pm_mL 14) (pm_rt 14)) := rfl
set_option maxRecDepth 20000 in
theorem pm_co15 : lw_tbl[1010]? = some (.code (pm_y 15) (pm_b 15) (pm_mL 15) (pm_rt 15)) := rfl
set_option maxRecDepth 20000 in
theorem pm_co16 : lw_tbl[1018]? = some (.code (pm_y 16) (pm_b 16) (pm_mL 16) (pm_rt 16)) := rfl
set_option maxRecDepth 20000 in
theorem pm_co17 : lw_tbl[1022]? = some (.code (pm_y 17) (pm_b 17) (pm_mL 17) (pm_rt 17)) := rfl
set_option maxRecDepth 20000 in
theorem pm_co18 : lw_tbl[1027]? = some (.code (pm_y 18) (pm_b 18) (pm_mL 18) (pm_rt 18)) := rfl
set_option maxRecDepth 20000 in
theorem pm_co19 : lw_tbl[1031]? = some (.code (pm_y 19) (pm_b 19) (pm_mL 19) (pm_rt 19)) := rfl
set_option maxRecDepth 20000 in
theorem pm_co20 : lw_tbl[108]? = some (.code (pm_y 20) (pm_b 20) (pm_mL 20) (pm_rt 20)) := rfl
set_option maxRecDepth 20000 in
theorem pm_co21 : lw_tbl[461]? = some (.code (pm_y 21) (pm_b 21) (pm_mL 21) (pm_rt 21)) := rfl
set_option maxRecDepth 20000 in
theorem pm_co22 : lw_tbl[465]? = some (.code (pm_y 22) (pm_b 22) (pm_mL 22) (pm_rt 22)) := rfl
set_option maxRecDepth 20000 in
theorem pm_co23 : lw_tbl[469]? = some (.code (pm_y 23) (pm_b 23) (pm_mL 23) (pm_rt 23)) := rfl
set_option maxRecDepth 20000 in
theorem pm_co24 : lw_tbl[477]? = some (.code (pm_y 24) (pm_b 24) (pm_mL 24) (pm_rt 24)) := rfl
set_option maxRecDepth 20000 in
theorem pm_co25 : lw_tbl[480]? = some (.code (pm_y 25) (pm_b 25) (pm_mL 25) (pm_rt 25)) := rfl
set_option maxRecDepth 20000 in
theorem pm_co26 : lw_tbl[373]? = some (.code (pm_y 26) (pm_b 26) (pm_mL 26) (pm_rt 26)) := rfl
set_option maxRecDepth 20000 in
theorem pm_co27 : lw_tbl[1176]? = some (.code (pm_y 27) (pm_b 27) (pm_mL 27) (pm_rt 27)) := rfl
set_option maxRecDepth 20000 in
theorem pm_co28 : lw_tbl[1180]? = some (.code (pm_y 28) (pm_b 28) (pm_mL 28) (pm_rt 28)) := rfl
set_option maxRecDepth 20000 in
theorem pm_co29 : lw_tbl[1184]? = some (.code (pm_y 29) (pm_b 29) (pm_mL 29) (pm_rt 29)) := rfl
set_option maxRecDepth 20000 in
theorem pm_co30 : lw_tbl[1188]? = some (.code (pm_y 30) (pm_b 30) (pm_mL 30) (pm_rt 30)) := rfl
set_option maxRecDepth 20000 in
theorem pm_co31 : lw_tbl[1200]? = some (.code (pm_y 31) (pm_b 31) (pm_mL 31) (pm_rt 31)) := rfl
set_option maxRecDepth 20000 in
theorem pm_co32 : lw_tbl[136]? = some (.code (pm_y 32) (pm_b 32) (pm_mL 32) (pm_rt 32)) := rfl
set_option maxRecDepth 20000 in
theorem pm_co33 : lw_tbl[141]? = some (.code (pm_y 33) (pm_b 33) (pm_mL 33) (pm_rt 33)) := rfl
set_option maxRecDepth 20000 in
theorem pm_co34 : lw_tbl[623]? = some (.code (pm_y 34) (pm_b 34) (pm_mL 34) (pm_rt 34)) := rfl
set_option maxRecDepth 20000 in
theorem pm_co35 : lw_tbl[627]? = some (.code (pm_y 35) (pm_b 35) (pm_mL 35) (pm_rt 35)) := rfl
set_option maxRecDepth 20000 in
theorem pm_co36 : lw_tbl[630]? = some (.code (pm_y 36) (pm_b 36) (pm_mL 36) (pm_rt 36)) := rfl
set_option maxRecDepth 20000 in
theorem pm_co37 : lw_tbl[664]? = some (.code (pm_y 37) (pm_b 37) (pm_mL 37) (pm_rt 37)) := rfl
set_option maxRecDepth 20000 in
theorem pm_co38 : lw_tbl[911]? = some (.code (pm_y 38) (pm_b 38) (pm_mL 38) (pm_rt 38)) := rfl
set_option maxRecDepth 20000 in
theorem pm_co39 : lw_tbl[915]? = some (.code (pm_y 39) (pm_b 39) (pm_mL 39) (pm_rt 39)) := rfl
set_option maxRecDepth 20000 in
theorem pm_co40 : lw_tbl[130]? = some (.code (pm_y 40) (pm_b 40) (pm_mL 40) (pm_rt 40)) := rfl
set_option maxRecDepth 20000 in
theorem pm_co41 : lw_tbl[805]? = some (.code (pm_y 41) (pm_b 41) (pm_mL 41) (pm_rt 41)) := rfl
set_option maxRecDepth 20000 in
theorem pm_co42 : lw_tbl[813]? = some (.code (pm_y 42) (pm_b 42) (pm_mL 42) (pm_rt 42)) := rfl
set_option maxRecDepth 20000 in
theorem pm_co43 : lw_tbl[818]? = some (.code (pm_y 43) (pm_b 43) (pm_mL 43) (pm_rt 43)) := rfl
set_option maxRecDepth 20000 in
theorem pm_co44 : lw_tbl[822]? = some (.code (pm_y 44) (pm_b 44) (pm_mL 44) (pm_rt 44)) := rfl
set_option maxRecDepth 20000 in
theorem pm_co45 : lw_tbl[827]? = some (.code (pm_y 45) (pm_b 45) (pm_mL 45) (pm_rt 45)) := rfl
set_option maxRecDepth 20000 in
theorem pm_co46 : lw_tbl[879]? = some (.code (pm_y 46) (pm_b 46) (pm_mL 46) (pm_rt 46)) := rfl
set_option maxRecDepth 20000 in
theorem pm_co47 : lw_tbl[883]? = some (.code (pm_y 47) (pm_b 47) (pm_mL 47) (pm_rt 47)) := rfl
set_option maxRecDepth 20000 in
theorem pm_co48 : lw_tbl[887]? = some (.code (pm_y 48) (pm_b 48) (pm_mL 48) (pm_rt 48)) := rfl
set_option maxRecDepth 20000 in
theorem pm_co49 : lw_tbl[893]? = some (.code (pm_y 49) (pm_b 49) (pm_mL 49) (pm_rt 49)) := rfl
set_option maxRecDepth 20000 in
theorem pm_co50 : lw_tbl[897]? = some (.code (pm_y 50) (pm_b 50) (pm_mL 50) (pm_rt 50)) := rfl
set_option maxRecDepth 20000 in
theorem pm_co51 : lw_tbl[901]? = some (.code (pm_y 51) (pm_b 51) (pm_mL 51) (pm_rt 51)) := rfl
set_option maxRecDepth 20000 in
theorem pm_co52 : lw_tbl[904]? = some (.code (pm_y 52) (pm_b 52) (pm_mL 52) (pm_rt 52)) := rfl
set_option maxRecDepth 20000 in
theorem pm_co53 : lw_tbl[907]? = some (.code (pm_y 53) (pm_b 53) (pm_mL 53) (pm_rt 53)) := rfl
set_option maxRecDepth 20000 in
theorem pm_co54 : lw_tbl[919]? = some (.code (pm_y 54) (pm_b 54) (pm_mL 54) (pm_rt 54)) := rfl
set_option maxRecDepth 20000 in
theorem pm_co55 : lw_tbl[924]? = some (.code (pm_y 55) (pm_b 55) (pm_mL 55) (pm_rt 55)) := rfl
set_option maxRecDepth 20000 in
theorem pm_co56 : lw_tbl[929]? = some (.code (pm_y 56) (pm_b 56) (pm_mL 56) (pm_rt 56)) := rfl
set_option maxRecDepth 20000 in
theorem pm_co57 : lw_tbl[938]? = some (.code (pm_y 57) (pm_b 57) (pm_mL 57) (pm_rt 57)) := rfl
set_option maxRecDepth 20000 in
theorem pm_co58 : lw_tbl[509]? = some (.code (pm_y 58) (pm_b 58) (pm_mL 58) (pm_rt 58)) := rfl
set_option maxRecDepth 20000 in
theorem pm_co59 : lw_tbl[634]? = some (.code (pm_y 59) (pm_b 59) (pm_mL 59) (pm_rt 59)) := rfl
set_option maxRecDepth 20000 in
theorem pm_co60 : lw_tbl[638]? = some (.code (pm_y 60) (pm_b 60) (pm_mL 60) (pm_rt 60)) := rfl
set_option maxRecDepth 20000 in
theorem pm_co61 : lw_tbl[672]? = some (.code (pm_y 61) (pm_b 61) (pm_mL 61) (pm_rt 61)) := rfl
set_option maxRecDepth 20000 in
theorem pm_co62 : lw_tbl[695]? = some (.code (pm_y 62) (pm_b 62) (pm_mL 62) (pm_rt 62)) := rfl
set_option maxRecDepth 20000 in
theorem pm_co63 : lw_tbl[703]? = some (.code (pm_y 63) (pm_b 63) (pm_mL 63) (pm_rt 63)) := rfl
set_option maxRecDepth 20000 in
theorem pm_co64 : lw_tbl[715]? = some (.code (pm_y 64) (pm_b 64) (pm_mL 64) (pm_rt 64)) := rfl
set_option maxRecDepth 20000 in
theorem pm_co65 : lw_tbl[761]? = some (.code (pm_y 65) (pm_b 65) (pm_mL 65) (pm_rt 65)) := rfl
set_option maxRecDepth 20000 in
theorem pm_co66 : lw_tbl[778]? = some (.code (pm_y 66) (pm_b 66) (pm_mL 66) (pm_rt 66)) := rfl
set_option maxRecDepth 20000 in
theorem pm_co67 : lw_tbl[795]? = some (.code (pm_y 67) (pm_b 67) (pm_mL 67) (pm_rt 67)) := rfl
set_option maxRecDepth 20000 in
theorem pm_co68 : lw_tbl[979]? = some (.code (pm_y 68) (pm_b 68) (pm_mL 68) (pm_rt 68)) := rfl
set_option maxRecDepth 20000 in
theorem pm_co69 : lw_tbl[1083]? = some (.code (pm_y 69) (pm_b 69) (pm_mL 69) (pm_rt 69)) := rfl
set_option maxRecDepth 20000 in
theorem pm_co70 : lw_tbl[1087]? = some (.code (pm_y 70) (pm_b 70) (pm_mL 70) (pm_rt 70)) := rfl
set_option maxRecDepth 20000 in
theorem pm_co71 : lw_tbl[1091]? = some (.code (pm_y 71) (pm_b 71) (pm_mL 71) (pm_rt 71)) := rfl
set_option maxRecDepth 20000 in
theorem pm_co72 : lw_tbl[320]? = some (.code (pm_y 72) (pm_b 72) (pm_mL 72) (pm_rt 72)) := rfl
set_option maxRecDepth 20000 in
theorem pm_co73 : lw_tbl[1045]? = some (.code (pm_y 73) (pm_b 73) (pm_mL 73) (pm_rt 73)) := rfl
set_option maxRecDepth 20000 in
theorem pm_co74 : lw_tbl[1048]? = some (.code (pm_y 74) (pm_b 74) (pm_mL 74) (pm_rt 74)) := rfl
set_option maxRecDepth 20000 in
theorem pm_co75 : lw_tbl[1051]? = some (.code (pm_y 75) (pm_b 75) (pm_mL 75) (pm_rt 75)) := rfl
set_option maxRecDepth 20000 in
theorem pm_co76 : lw_tbl[1055]? = some (.code (pm_y 76) (pm_b 76) (pm_mL 76) (pm_rt 76)) := rfl
set_option maxRecDepth 20000 in
theorem pm_co77 : lw_tbl[1059]? = some (.code (pm_y 77) (pm_b 77) (pm_mL 77) (pm_rt 77)) := rfl
set_option maxRecDepth 20000 in
theorem pm_co78 : lw_tbl[1063]? = some (.code (pm_y 78) (pm_b 78) (pm_mL 78) (pm_rt 78)) := rfl
set_option maxRecDepth 20000 in
theorem pm_co79 : lw_tbl[389]? = some (.code (pm_y 79) (pm_b 79) (pm_mL 79) (pm_rt 79)) := rfl
set_option maxRecDepth 20000 in
theorem pm_co80 : lw_tbl[774]? = some (.code (pm_y 80) (pm_b 80) (pm_mL 80) (pm_rt 80)) := rfl
set_option maxRecDepth 20000 in
theorem pm_co81 : lw_tbl[782]? = some (.code (pm_y 81) (pm_b 81) (pm_mL 81) (pm_rt 81)) := rfl
set_option maxRecDepth 20000 in
theorem pm_co82 : lw_tbl[1214]? = some (.code (pm_y 82) (pm_b 82) (pm_mL 82) (pm_rt 82)) := rfl
set_option maxRecDepth 20000 in
theorem pm_co83 : lw_tbl[1222]? = some (.code (pm_y 83) (pm_b 83) (pm_mL 83) (pm_rt 83)) := rfl
set_option maxRecDepth 20000 in
theorem pm_co84 : lw_tbl[347]? = some (.code (pm_y 84) (pm_b 84) (pm_mL 84) (pm_rt 84)) := rfl
set_option maxRecDepth 20000 in
theorem pm_co85 : lw_tbl[1113]? = some (.code (pm_y 85) (pm_b 85) (pm_mL 85) (pm_rt 85)) := rfl
set_option maxRecDepth 20000 in
theorem pm_co86 : lw_tbl[1117]? = some (.code (pm_y 86) (pm_b 86) (pm_mL 86) (pm_rt 86)) := rfl
set_option maxRecDepth 20000 in
theorem pm_co87 : lw_tbl[1129]? = some (.code (pm_y 87) (pm_b 87) (pm_mL 87) (pm_rt 87)) := rfl
set_option maxRecDepth 20000 in
theorem pm_co88 : lw_tbl[1133]? = some (.code (pm_y 88) (pm_b 88) (pm_mL 88) (pm_rt 88)) := rfl
set_option maxRecDepth 20000 in
theorem pm_co89 : lw_tbl[1136]? = some (.code (pm_y 89) (pm_b 89) (pm_mL 89) (pm_rt 89)) := rfl
set_option maxRecDepth 20000 in
theorem pm_co90 : lw_tbl[1142]? = some (.code (pm_y 90) (pm_b 90) (pm_mL 90) (pm_rt 90)) := rfl
set_option maxRecDepth 20000 in
theorem pm_co91 : lw_tbl[1148]? = some (.code (pm_y 91) (pm_b 91) (pm_mL 91) (pm_rt 91)) := rfl
set_option maxRecDepth 20000 in
theorem pm_co92 : lw_tbl[1152]? = some (.code (pm_y 92) (pm_b 92) (pm_mL 92) (pm_rt 92)) := rfl
set_option maxRecDepth 20000 in
theorem pm_co93 : lw_tbl[1156]? = some (.code (pm_y 93) (pm_b 93) (pm_mL 93) (pm_rt 93)) := rfl
set_option maxRecDepth 20000 in
theorem pm_co94 : lw_tbl[1160]? = some (.code (pm_y 94) (pm_b 94) (pm_mL 94) (pm_rt 94)) := rfl
set_option maxRecDepth 20000 in
theorem pm_co95 : lw_tbl[1168]? = some (.code (pm_y 95) (pm_b 95) (pm_mL 95) (pm_rt 95)) := rfl
set_option maxRecDepth 20000 in
theorem pm_co96 : lw_tbl[100]? = some (.code (pm_y 96) (pm_b 96) (pm_mL 96) (pm_rt 96)) := rfl
set_option maxRecDepth 20000 in
theorem pm_co97 : lw_tbl[450]? = some (.code (pm_y 97) (pm_b 97) (pm_mL 97) (pm_rt 97)) := rfl
set_option maxRecDepth 20000 in
theorem pm_co98 : lw_tbl[454]? = some (.code (pm_y 98) (pm_b 98) (pm_mL 98) (pm_rt 98)) := rfl
set_option maxRecDepth 20000 in
theorem pm_co99 : lw_tbl[457]? = some (.code (pm_y 99) (pm_b 99) (pm_mL 99) (pm_rt 99)) := rfl
set_option maxRecDepth 20000 in
theorem pm_co100 : lw_tbl[473]? = some (.code (pm_y 100) (pm_b 100) (pm_mL 100) (pm_rt 100)) := rfl
set_option maxRecDepth 20000 in
theorem pm_co101 : lw_tbl[487]? = some (.code (pm_y 101) (pm_b 101) (pm_mL 101) (pm_rt 101)) := rfl
set_option maxRecDepth 20000 in
theorem pm_co102 : lw_tbl[490]? = some (.code (pm_y 102) (pm_b 102) (pm_mL 102) (pm_rt 102)) := rfl
set_option maxRecDepth 20000 in
theorem pm_co103 : lw_tbl[494]? = some (.code (pm_y 103) (pm_b 103) (pm_mL 103) (pm_rt 103)) := rfl
set_option maxRecDepth 20000 in
theorem pm_co104 : lw_tbl[498]? = some (.code (pm_y 104) (pm_b 104) (pm_mL 104) (pm_rt 104)) := rfl
set_option maxRecDepth 20000 in
theorem pm_co105 : lw_tbl[502]? = some (.code (pm_y 105) (pm_b 105) (pm_mL 105) (pm_rt 105)) := rfl
set_option maxRecDepth 20000 in
theorem pm_co106 : lw_tbl[505]? = some (.code (pm_y 106) (pm_b 106) (pm_mL 106) (pm_rt 106)) := rfl
set_option maxRecDepth 20000 in
theorem pm_co107 : lw_tbl[599]? = some (.code (pm_y 107) (pm_b 107) (pm_mL 107) (pm_rt 107)) := rfl
set_option maxRecDepth 20000 in
theorem pm_co108 : lw_tbl[603]? = some (.code (pm_y 108) (pm_b 108) (pm_mL 108) (pm_rt 108)) := rfl
set_option maxRecDepth 20000 in
theorem pm_co109 : lw_tbl[607]? = some (.code (pm_y 109) (pm_b 109) (pm_mL 109) (pm_rt 109)) := rfl
set_option maxRecDepth 20000 in
theorem pm_co110 : lw_tbl[642]? = some (.code (pm_y 110) (pm_b 110) (pm_mL 110) (pm_rt 110)) := rfl
set_option maxRecDepth 20000 in
theorem pm_co111 : lw_tbl[651]? = some (.code (pm_y 111) (pm_b 111) (pm_mL 111) (pm_rt 111)) := rfl
set_option maxRecDepth 20000 in
theorem pm_co112 : lw_tbl[680]? = some (.code (pm_y 112) (pm_b 112) (pm_mL 112) (pm_rt 112)) := rfl
set_option maxRecDepth 20000 in
theorem pm_co113 : lw_tbl[684]? = some (.code (pm_y 113) (pm_b 113) (pm_mL 113) (pm_rt 113)) := rfl
set_option maxRecDepth 20000 in
theorem pm_co114 : lw_tbl[688]? = some (.code (pm_y 114) (pm_b 114) (pm_mL 114) (pm_rt 114)) := rfl
set_option maxRecDepth 20000 in
theorem pm_co115 : lw_tbl[691]? = some (.code (pm_y 115) (pm_b 115) (pm_mL 115) (pm_rt 115)) := rfl
set_option maxRecDepth 20000 in
theorem pm_co116 : lw_tbl[699]? = some (.code (pm_y 116) (pm_b 116) (pm_mL 116) (pm_rt 116)) := rfl
set_option maxRecDepth 20000 in
theorem pm_co117 : lw_tbl[707]? = some (.code (pm_y 117) (pm_b 117) (pm_mL 117) (pm_rt 117)) := rfl
set_option maxRecDepth 20000 in
theorem pm_co118 : lw_tbl[711]? = some (.code (pm_y 118) (pm_b 118) (pm_mL 118) (pm_rt 118)) := rfl
set_option maxRecDepth 20000 in
theorem pm_co119 : lw_tbl[719]? = some (.code (pm_y 119) (pm_b 119) (pm_mL 119) (pm_rt 119)) := rfl
set_option maxRecDepth 20000 in
theorem pm_co120 : lw_tbl[723]? = some (.code (pm_y 120) (pm_b 120) (pm_mL 120) (pm_rt 120)) := rfl
set_option maxRecDepth 20000 in
theorem pm_co121 : lw_tbl[765]? = some (.code (pm_y 121) (pm_b 121) (pm_mL 121) (pm_rt 121)) := rfl
set_option maxRecDepth 20000 in
theorem pm_co122 : lw_tbl[769]? = some (.code (pm_y 122) (pm_b 122) (pm_mL 122) (pm_rt 122)) := rfl
set_option maxRecDepth 20000 in
theorem pm_co123 : lw_tbl[787]? = some (.code (pm_y 123) (pm_b 123) (pm_mL 123) (pm_rt 123)) := rfl
set_option maxRecDepth 20000 in
theorem pm_co124 : lw_tbl[791]? = some (.code (pm_y 124) (pm_b 124) (pm_mL 124) (pm_rt 124)) := rfl
set_option maxRecDepth 20000 in
theorem pm_co125 : lw_tbl[801]? = some (.code (pm_y 125) (pm_b 125) (pm_mL 125) (pm_rt 125)) := rfl
set_option maxRecDepth 20000 in
theorem pm_co126 : lw_tbl[809]? = some (.code (pm_y 126) (pm_b 126) (pm_mL 126) (pm_rt 126)) := rfl
set_option maxRecDepth 20000 in
theorem pm_co127 : lw_tbl[947]? = some (.code (pm_y 127) (pm_b 127) (pm_mL 127) (pm_rt 127)) := rfl
set_option maxRecDepth 20000 in
theorem pm_co128 : lw_tbl[953]? = some (.code (pm_y 128) (pm_b 128) (pm_mL 128) (pm_rt 128)) := rfl
set_option maxRecDepth 20000 in
theorem pm_co129 : lw_tbl[958]? = some (.code (pm_y 129) (pm_b 129) (pm_mL 129) (pm_rt 129)) := rfl
set_option maxRecDepth 20000 in
theorem pm_co130 : lw_tbl[962]? = some (.code (pm_y 130) (pm_b 130) (pm_mL 130) (pm_rt 130)) := rfl
set_option maxRecDepth 20000 in
theorem pm_co131 : lw_tbl[975]? = some (.code (pm_y 131) (pm_b 131) (pm_mL 131) (pm_rt 131)) := rfl
set_option maxRecDepth 20000 in
theorem pm_co132 : lw_tbl[983]? = some (.code (pm_y 132) (pm_b 132) (pm_mL 132) (pm_rt 132)) := rfl
set_option maxRecDepth 20000 in
theorem pm_co133 : lw_tbl[990]? = some (.code (pm_y 133) (pm_b 133) (pm_mL 133) (pm_rt 133)) := rfl
set_option maxRecDepth 20000 in
theorem pm_co134 : lw_tbl[994]? = some (.code (pm_y 134) (pm_b 134) (pm_mL 134) (pm_rt 134)) := rfl
set_option maxRecDepth 20000 in
theorem pm_co135 : lw_tbl[998]? = some (.code (pm_y 135) (pm_b 135) (pm_mL 135) (pm_rt 135)) := rfl
set_option maxRecDepth 20000 in
theorem pm_co136 : lw_tbl[1006]? = some (.code (pm_y 136) (pm_b 136) (pm_mL 136) (pm_rt 136)) := rfl
set_option maxRecDepth 20000 in
theorem pm_co137 : lw_tbl[1014]? = some (.code (pm_y 137) (pm_b 137) (pm_mL 137) (pm_rt 137)) := rfl
set_option maxRecDepth 20000 in
theorem pm_co138 : lw_tbl[1041]? = some (.code (pm_y 138) (pm_b 138) (pm_mL 138) (pm_rt 138)) := rfl
set_option maxRecDepth 20000 in
theorem pm_co139 : lw_tbl[1067]? = some (.code (pm_y 139) (pm_b 139) (pm_mL 139) (pm_rt 139)) := rfl
set_option maxRecDepth 20000 in
theorem pm_co140 : lw_tbl[1071]? = some (.code (pm_y 140) (pm_b 140) (pm_mL 140) (pm_rt 140)) := rfl
set_option maxRecDepth 20000 in
theorem pm_co141 : lw_tbl[1074]? = some (.code (pm_y 141) (pm_b 141) (pm_mL 141) (pm_rt 141)) := rfl
