section XCW
set_option maxRecDepth 100000 in
theorem xcw0 : Jvm.Cond.code (xmy 0) (xmb 0) (xml 0) (xmr 0) ∈ xgw := xig_mem (p := 44) (by decide +kernel)
set_option maxRecDepth 100000 in
theorem xcw1 : Jvm.Cond.code (xmy 1) (xmb 1) (xml 1) (xmr 1) ∈ xgw := xig_mem (p := 49) (by decide +kernel)
set_option maxRecDepth 100000 in
theorem xcw2 : Jvm.Cond.code (xmy 2) (xmb 2) (xml 2) (xmr 2) ∈ xgw := xig_mem (p := 53) (by decide +kernel)
set_option maxRecDepth 100000 in
theorem xcw3 : Jvm.Cond.code (xmy 3) (xmb 3) (xml 3) (xmr 3) ∈ xgw := xig_mem (p := 57) (by decide +kernel)
set_option maxRecDepth 100000 in
theorem xcw4 : Jvm.Cond.code (xmy 4) (xmb 4) (xml 4) (xmr 4) ∈ xgw := xig_mem (p := 61) (by decide +kernel)
set_option maxRecDepth 100000 in
theorem xcw5 : Jvm.Cond.code (xmy 5) (xmb 5) (xml 5) (xmr 5) ∈ xgw := xig_mem (p := 135) (by decide +kernel)
set_option maxRecDepth 100000 in
theorem xcw6 : Jvm.Cond.code (xmy 6) (xmb 6) (xml 6) (xmr 6) ∈ xgw := xig_mem (p := 139) (by decide +kernel)
set_option maxRecDepth 100000 in
theorem xcw7 : Jvm.Cond.code (xmy 7) (xmb 7) (xml 7) (xmr 7) ∈ xgw := xig_mem (p := 143) (by decide +kernel)
set_option maxRecDepth 100000 in
theorem xcw8 : Jvm.Cond.code (xmy 8) (xmb 8) (xml 8) (xmr 8) ∈ xgw := xig_mem (p := 147) (by decide +kernel)
set_option maxRecDepth 100000 in
theorem xcw9 : Jvm.Cond.code (xmy 9) (xmb 9) (xml 9) (xmr 9) ∈ xgw := xig_mem (p := 151) (by decide +kernel)
set_option maxRecDepth 100000 in
theorem xcw10 : Jvm.Cond.code (xmy 10) (xmb 10) (xml 10) (xmr 10) ∈ xgw := xig_mem (p := 155) (by decide +kernel)
set_option maxRecDepth 100000 in
theorem xcw11 : Jvm.Cond.code (xmy 11) (xmb 11) (xml 11) (xmr 11) ∈ xgw := xig_mem (p := 159) (by decide +kernel)
set_option maxRecDepth 100000 in
theorem xcw12 : Jvm.Cond.code (xmy 12) (xmb 12) (xml 12) (xmr 12) ∈ xgw := xig_mem (p := 162) (by decide +kernel)
set_option maxRecDepth 100000 in
theorem xcw13 : Jvm.Cond.code (xmy 13) (xmb 13) (xml 13) (xmr 13) ∈ xgw := xig_mem (p := 167) (by decide +kernel)
set_option maxRecDepth 100000 in
theorem xcw14 : Jvm.Cond.code (xmy 14) (xmb 14) (xml 14) (xmr 14) ∈ xgw := xig_mem (p := 172) (by decide +kernel)
set_option maxRecDepth 100000 in
theorem xcw15 : Jvm.Cond.code (xmy 15) (xmb 15) (xml 15) (xmr 15) ∈ xgw := xig_mem (p := 175) (by decide +kernel)
set_option maxRecDepth 100000 in
theorem xcw16 : Jvm.Cond.code (xmy 16) (xmb 16) (xml 16) (xmr 16) ∈ xgw := xig_mem (p := 180) (by decide +kernel)
set_option maxRecDepth 100000 in
theorem xcw17 : Jvm.Cond.code (xmy 17) (xmb 17) (xml 17) (xmr 17) ∈ xgw := xig_mem (p := 184) (by decide +kernel)
set_option maxRecDepth 100000 in
theorem xcw18 : Jvm.Cond.code (xmy 18) (xmb 18) (xml 18) (xmr 18) ∈ xgw := xig_mem (p := 188) (by decide +kernel)
set_option maxRecDepth 100000 in
theorem xcw19 : Jvm.Cond.code (xmy 19) (xmb 19) (xml 19) (xmr 19) ∈ xgw := xig_mem (p := 192) (by decide +kernel)
set_option maxRecDepth 100000 in
theorem xcw20 : Jvm.Cond.code (xmy 20) (xmb 20) (xml 20) (xmr 20) ∈ xgw := xig_mem (p := 198) (by decide +kernel)
set_option maxRecDepth 100000 in
theorem xcw21 : Jvm.Cond.code (xmy 21) (xmb 21) (xml 21) (xmr 21) ∈ xgw := xig_mem (p := 202) (by decide +kernel)
set_option maxRecDepth 100000 in
theorem xcw22 : Jvm.Cond.code (xmy 22) (xmb 22) (xml 22) (xmr 22) ∈ xgw := xig_mem (p := 207) (by decide +kernel)
set_option maxRecDepth 100000 in
theorem xcw23 : Jvm.Cond.code (xmy 23) (xmb 23) (xml 23) (xmr 23) ∈ xgw := xig_mem (p := 212) (by decide +kernel)
set_option maxRecDepth 100000 in
theorem xcw24 : Jvm.Cond.code (xmy 24) (xmb 24) (xml 24) (xmr 24) ∈ xgw := xig_mem (p := 216) (by decide +kernel)
set_option maxRecDepth 100000 in
theorem xcw25 : Jvm.Cond.code (xmy 25) (xmb 25) (xml 25) (xmr 25) ∈ xgw := xig_mem (p := 220) (by decide +kernel)
set_option maxRecDepth 100000 in
theorem xcw26 : Jvm.Cond.code (xmy 26) (xmb 26) (xml 26) (xmr 26) ∈ xgw := xig_mem (p := 224) (by decide +kernel)
set_option maxRecDepth 100000 in
theorem xcw27 : Jvm.Cond.code (xmy 27) (xmb 27) (xml 27) (xmr 27) ∈ xgw := xig_mem (p := 227) (by decide +kernel)
set_option maxRecDepth 100000 in
theorem xcw28 : Jvm.Cond.code (xmy 28) (xmb 28) (xml 28) (xmr 28) ∈ xgw := xig_mem (p := 232) (by decide +kernel)
set_option maxRecDepth 100000 in
theorem xcw29 : Jvm.Cond.code (xmy 29) (xmb 29) (xml 29) (xmr 29) ∈ xgw := xig_mem (p := 236) (by decide +kernel)
set_option maxRecDepth 100000 in
theorem xcw30 : Jvm.Cond.code (xmy 30) (xmb 30) (xml 30) (xmr 30) ∈ xgw := xig_mem (p := 243) (by decide +kernel)
set_option maxRecDepth 100000 in
theorem xcw31 : Jvm.Cond.code (xmy 31) (xmb 31) (xml 31) (xmr 31) ∈ xgw := xig_mem (p := 248) (by decide +kernel)
set_option maxRecDepth 100000 in
theorem xcw32 : Jvm.Cond.code (xmy 32) (xmb 32) (xml 32) (xmr 32) ∈ xgw := xig_mem (p := 252) (by decide +kernel)
set_option maxRecDepth 100000 in
theorem xcw33 : Jvm.Cond.code (xmy 33) (xmb 33) (xml 33) (xmr 33) ∈ xgw := xig_mem (p := 256) (by decide +kernel)
set_option maxRecDepth 100000 in
theorem xcw34 : Jvm.Cond.code (xmy 34) (xmb 34) (xml 34) (xmr 34) ∈ xgw := xig_mem (p := 259) (by decide +kernel)
set_option maxRecDepth 100000 in
theorem xcw35 : Jvm.Cond.code (xmy 35) (xmb 35) (xml 35) (xmr 35) ∈ xgw := xig_mem (p := 266) (by decide +kernel)
set_option maxRecDepth 100000 in
theorem xcw36 : Jvm.Cond.code (xmy 36) (xmb 36) (xml 36) (xmr 36) ∈ xgw := xig_mem (p := 270) (by decide +kernel)
set_option maxRecDepth 100000 in
theorem xcw37 : Jvm.Cond.code (xmy 37) (xmb 37) (xml 37) (xmr 37) ∈ xgw := xig_mem (p := 274) (by decide +kernel)
set_option maxRecDepth 100000 in
theorem xcw38 : Jvm.Cond.code (xmy 38) (xmb 38) (xml 38) (xmr 38) ∈ xgw := xig_mem (p := 278) (by decide +kernel)
set_option maxRecDepth 100000 in
theorem xcw39 : Jvm.Cond.code (xmy 39) (xmb 39) (xml 39) (xmr 39) ∈ xgw := xig_mem (p := 283) (by decide +kernel)
set_option maxRecDepth 100000 in
theorem xcw40 : Jvm.Cond.code (xmy 40) (xmb 40) (xml 40) (xmr 40) ∈ xgw := xig_mem (p := 287) (by decide +kernel)
set_option maxRecDepth 100000 in
theorem xcw41 : Jvm.Cond.code (xmy 41) (xmb 41) (xml 41) (xmr 41) ∈ xgw := xig_mem (p := 293) (by decide +kernel)
set_option maxRecDepth 100000 in
theorem xcw42 : Jvm.Cond.code (xmy 42) (xmb 42) (xml 42) (xmr 42) ∈ xgw := xig_mem (p := 315) (by decide +kernel)
set_option maxRecDepth 100000 in
theorem xcw43 : Jvm.Cond.code (xmy 43) (xmb 43) (xml 43) (xmr 43) ∈ xgw := xig_mem (p := 319) (by decide +kernel)
set_option maxRecDepth 100000 in
theorem xcw44 : Jvm.Cond.code (xmy 44) (xmb 44) (xml 44) (xmr 44) ∈ xgw := xig_mem (p := 323) (by decide +kernel)
set_option maxRecDepth 100000 in
theorem xcw45 : Jvm.Cond.code (xmy 45) (xmb 45) (xml 45) (xmr 45) ∈ xgw := xig_mem (p := 327) (by decide +kernel)
set_option maxRecDepth 100000 in
theorem xcw46 : Jvm.Cond.code (xmy 46) (xmb 46) (xml 46) (xmr 46) ∈ xgw := xig_mem (p := 331) (by decide +kernel)
set_option maxRecDepth 100000 in
theorem xcw47 : Jvm.Cond.code (xmy 47) (xmb 47) (xml 47) (xmr 47) ∈ xgw := xig_mem (p := 337) (by decide +kernel)
set_option maxRecDepth 100000 in
theorem xcw48 : Jvm.Cond.code (xmy 48) (xmb 48) (xml 48) (xmr 48) ∈ xgw := xig_mem (p := 342) (by decide +kernel)
set_option maxRecDepth 100000 in
theorem xcw49 : Jvm.Cond.code (xmy 49) (xmb 49) (xml 49) (xmr 49) ∈ xgw := xig_mem (p := 346) (by decide +kernel)
set_option maxRecDepth 100000 in
theorem xcw50 : Jvm.Cond.code (xmy 50) (xmb 50) (xml 50) (xmr 50) ∈ xgw := xig_mem (p := 354) (by decide +kernel)
set_option maxRecDepth 100000 in
theorem xcw51 : Jvm.Cond.code (xmy 51) (xmb 51) (xml 51) (xmr 51) ∈ xgw := xig_mem (p := 360) (by decide +kernel)
set_option maxRecDepth 100000 in
theorem xcw52 : Jvm.Cond.code (xmy 52) (xmb 52) (xml 52) (xmr 52) ∈ xgw := xig_mem (p := 364) (by decide +kernel)
set_option maxRecDepth 100000 in
theorem xcw53 : Jvm.Cond.code (xmy 53) (xmb 53) (xml 53) (xmr 53) ∈ xgw := xig_mem (p := 370) (by decide +kernel)
set_option maxRecDepth 100000 in
theorem xcw54 : Jvm.Cond.code (xmy 54) (xmb 54) (xml 54) (xmr 54) ∈ xgw := xig_mem (p := 374) (by decide +kernel)
set_option maxRecDepth 100000 in
theorem xcw55 : Jvm.Cond.code (xmy 55) (xmb 55) (xml 55) (xmr 55) ∈ xgw := xig_mem (p := 378) (by decide +kernel)
set_option maxRecDepth 100000 in
theorem xcw56 : Jvm.Cond.code (xmy 56) (xmb 56) (xml 56) (xmr 56) ∈ xgw := xig_mem (p := 383) (by decide +kernel)
set_option maxRecDepth 100000 in
theorem xcw57 : Jvm.Cond.code (xmy 57) (xmb 57) (xml 57) (xmr 57) ∈ xgw := xig_mem (p := 388) (by decide +kernel)
set_option maxRecDepth 100000 in
theorem xcw58 : Jvm.Cond.code (xmy 58) (xmb 58) (xml 58) (xmr 58) ∈ xgw := xig_mem (p := 392) (by decide +kernel)
set_option maxRecDepth 100000 in
theorem xcw59 : Jvm.Cond.code (xmy 59) (xmb 59) (xml 59) (xmr 59) ∈ xgw := xig_mem (p := 399) (by decide +kernel)
set_option maxRecDepth 100000 in
theorem xcw60 : Jvm.Cond.code (xmy 60) (xmb 60) (xml 60) (xmr 60) ∈ xgw := xig_mem (p := 404) (by decide +kernel)
set_option maxRecDepth 100000 in
theorem xcw61 : Jvm.Cond.code (xmy 61) (xmb 61) (xml 61) (xmr 61) ∈ xgw := xig_mem (p := 409) (by decide +kernel)
set_option maxRecDepth 100000 in
theorem xcw62 : Jvm.Cond.code (xmy 62) (xmb 62) (xml 62) (xmr 62) ∈ xgw := xig_mem (p := 413) (by decide +kernel)
set_option maxRecDepth 100000 in
theorem xcw63 : Jvm.Cond.code (xmy 63) (xmb 63) (xml 63) (xmr 63) ∈ xgw := xig_mem (p := 419) (by decide +kernel)
set_option maxRecDepth 100000 in
theorem xcw64 : Jvm.Cond.code (xmy 64) (xmb 64) (xml 64) (xmr 64) ∈ xgw := xig_mem (p := 424) (by decide +kernel)
set_option maxRecDepth 100000 in
theorem xcw65 : Jvm.Cond.code (xmy 65) (xmb 65) (xml 65) (xmr 65) ∈ xgw := xig_mem (p := 428) (by decide +kernel)
set_option maxRecDepth 100000 in
theorem xcw66 : Jvm.Cond.code (xmy 66) (xmb 66) (xml 66) (xmr 66) ∈ xgw := xig_mem (p := 433) (by decide +kernel)
set_option maxRecDepth 100000 in
theorem xcw67 : Jvm.Cond.code (xmy 67) (xmb 67) (xml 67) (xmr 67) ∈ xgw := xig_mem (p := 440) (by decide +kernel)
set_option maxRecDepth 100000 in
theorem xcw68 : Jvm.Cond.code (xmy 68) (xmb 68) (xml 68) (xmr 68) ∈ xgw := xig_mem (p := 445) (by decide +kernel)
set_option maxRecDepth 100000 in
theorem xcw69 : Jvm.Cond.code (xmy 69) (xmb 69) (xml 69) (xmr 69) ∈ xgw := xig_mem (p := 451) (by decide +kernel)
set_option maxRecDepth 100000 in
theorem xcw70 : Jvm.Cond.code (xmy 70) (xmb 70) (xml 70) (xmr 70) ∈ xgw := xig_mem (p := 457) (by decide +kernel)
set_option maxRecDepth 100000 in
theorem xcw71 : Jvm.Cond.code (xmy 71) (xmb 71) (xml 71) (xmr 71) ∈ xgw := xig_mem (p := 468) (by decide +kernel)
set_option maxRecDepth 100000 in
theorem xcw72 : Jvm.Cond.code (xmy 72) (xmb 72) (xml 72) (xmr 72) ∈ xgw := xig_mem (p := 501) (by decide +kernel)
set_option maxRecDepth 100000 in
theorem xcw73 : Jvm.Cond.code (xmy 73) (xmb 73) (xml 73) (xmr 73) ∈ xgw := xig_mem (p := 522) (by decide +kernel)
set_option maxRecDepth 100000 in
theorem xcw74 : Jvm.Cond.code (xmy 74) (xmb 74) (xml 74) (xmr 74) ∈ xgw := xig_mem (p := 559) (by decide +kernel)
set_option maxRecDepth 100000 in
theorem xcw75 : Jvm.Cond.code (xmy 75) (xmb 75) (xml 75) (xmr 75) ∈ xgw := xig_mem (p := 591) (by decide +kernel)
set_option maxRecDepth 100000 in
theorem xcw76 : Jvm.Cond.code (xmy 76) (xmb 76) (xml 76) (xmr 76) ∈ xgw := xig_mem (p := 616) (by decide +kernel)
set_option maxRecDepth 100000 in
theorem xcw77 : Jvm.Cond.code (xmy 77) (xmb 77) (xml 77) (xmr 77) ∈ xgw := xig_mem (p := 626) (by decide +kernel)
set_option maxRecDepth 100000 in
theorem xcw78 : Jvm.Cond.code (xmy 78) (xmb 78) (xml 78) (xmr 78) ∈ xgw := xig_mem (p := 717) (by decide +kernel)
set_option maxRecDepth 100000 in
theorem xcw79 : Jvm.Cond.code (xmy 79) (xmb 79) (xml 79) (xmr 79) ∈ xgw := xig_mem (p := 803) (by decide +kernel)
set_option maxRecDepth 100000 in
theorem xcw80 : Jvm.Cond.code (xmy 80) (xmb 80) (xml 80) (xmr 80) ∈ xgw := xig_mem (p := 806) (by decide +kernel)
set_option maxRecDepth 100000 in
theorem xcw81 : Jvm.Cond.code (xmy 81) (xmb 81) (xml 81) (xmr 81) ∈ xgw := xig_mem (p := 810) (by decide +kernel)
set_option maxRecDepth 100000 in
theorem xcw82 : Jvm.Cond.code (xmy 82) (xmb 82) (xml 82) (xmr 82) ∈ xgw := xig_mem (p := 815) (by decide +kernel)
set_option maxRecDepth 100000 in
theorem xcw83 : Jvm.Cond.code (xmy 83) (xmb 83) (xml 83) (xmr 83) ∈ xgw := xig_mem (p := 818) (by decide +kernel)
set_option maxRecDepth 100000 in
theorem xcw84 : Jvm.Cond.code (xmy 84) (xmb 84) (xml 84) (xmr 84) ∈ xgw := xig_mem (p := 822) (by decide +kernel)
set_option maxRecDepth 100000 in
theorem xcw85 : Jvm.Cond.code (xmy 85) (xmb 85) (xml 85) (xmr 85) ∈ xgw := xig_mem (p := 827) (by decide +kernel)
set_option maxRecDepth 100000 in
theorem xcw86 : Jvm.Cond.code (xmy 86) (xmb 86) (xml 86) (xmr 86) ∈ xgw := xig_mem (p := 832) (by decide +kernel)
set_option maxRecDepth 100000 in
theorem xcw87 : Jvm.Cond.code (xmy 87) (xmb 87) (xml 87) (xmr 87) ∈ xgw := xig_mem (p := 838) (by decide +kernel)
set_option maxRecDepth 100000 in
theorem xcw88 : Jvm.Cond.code (xmy 88) (xmb 88) (xml 88) (xmr 88) ∈ xgw := xig_mem (p := 841) (by decide +kernel)
set_option maxRecDepth 100000 in
theorem xcw89 : Jvm.Cond.code (xmy 89) (xmb 89) (xml 89) (xmr 89) ∈ xgw := xig_mem (p := 845) (by decide +kernel)
set_option maxRecDepth 100000 in
theorem xcw90 : Jvm.Cond.code (xmy 90) (xmb 90) (xml 90) (xmr 90) ∈ xgw := xig_mem (p := 849) (by decide +kernel)
set_option maxRecDepth 100000 in
theorem xcw91 : Jvm.Cond.code (xmy 91) (xmb 91) (xml 91) (xmr 91) ∈ xgw := xig_mem (p := 852) (by decide +kernel)
set_option maxRecDepth 100000 in
theorem xcw92 : Jvm.Cond.code (xmy 92) (xmb 92) (xml 92) (xmr 92) ∈ xgw := xig_mem (p := 859) (by decide +kernel)
set_option maxRecDepth 100000 in
theorem xcw93 : Jvm.Cond.code (xmy 93) (xmb 93) (xml 93) (xmr 93) ∈ xgw := xig_mem (p := 862) (by decide +kernel)
set_option maxRecDepth 100000 in
theorem xcw94 : Jvm.Cond.code (xmy 94) (xmb 94) (xml 94) (xmr 94) ∈ xgw := xig_mem (p := 883) (by decide +kernel)
set_option maxRecDepth 100000 in
theorem xcw95 : Jvm.Cond.code (xmy 95) (xmb 95) (xml 95) (xmr 95) ∈ xgw := xig_mem (p := 888) (by decide +kernel)
set_option maxRecDepth 100000 in
theorem xcw96 : Jvm.Cond.code (xmy 96) (xmb 96) (xml 96) (xmr 96) ∈ xgw := xig_mem (p := 892) (by decide +kernel)
set_option maxRecDepth 100000 in
theorem xcw97 : Jvm.Cond.code (xmy 97) (xmb 97) (xml 97) (xmr 97) ∈ xgw := xig_mem (p := 897) (by decide +kernel)
set_option maxRecDepth 100000 in
theorem xcw98 : Jvm.Cond.code (xmy 98) (xmb 98) (xml 98) (xmr 98) ∈ xgw := xig_mem (p := 902) (by decide +kernel)
set_option maxRecDepth 100000 in
theorem xcw99 : Jvm.Cond.code (xmy 99) (xmb 99) (xml 99) (xmr 99) ∈ xgw := xig_mem (p := 906) (by decide +kernel)
set_option maxRecDepth 100000 in
theorem xcw100 : Jvm.Cond.code (xmy 100) (xmb 100) (xml 100) (xmr 100) ∈ xgw := xig_mem (p := 910) (by decide +kernel)
set_option maxRecDepth 100000 in
theorem xcw101 : Jvm.Cond.code (xmy 101) (xmb 101) (xml 101) (xmr 101) ∈ xgw := xig_mem (p := 914) (by decide +kernel)
set_option maxRecDepth 100000 in
theorem xcw102 : Jvm.Cond.code (xmy 102) (xmb 102) (xml 102) (xmr 102) ∈ xgw := xig_mem (p := 920) (by decide +kernel)
set_option maxRecDepth 100000 in
theorem xcw103 : Jvm.Cond.code (xmy 103) (xmb 103) (xml 103) (xmr 103) ∈ xgw := xig_mem (p := 926) (by decide +kernel)
set_option maxRecDepth 100000 in
theorem xcw104 : Jvm.Cond.code (xmy 104) (xmb 104) (xml 104) (xmr 104) ∈ xgw := xig_mem (p := 934) (by decide +kernel)
set_option maxRecDepth 100000 in
theorem xcw105 : Jvm.Cond.code (xmy 105) (xmb 105) (xml 105) (xmr 105) ∈ xgw := xig_mem (p := 938) (by decide +kernel)
set_option maxRecDepth 100000 in
theorem xcw106 : Jvm.Cond.code (xmy 106) (xmb 106) (xml 106) (xmr 106) ∈ xgw := xig_mem (p := 942) (by decide +kernel)
set_option maxRecDepth 100000 in
theorem xcw107 : Jvm.Cond.code (xmy 107) (xmb 107) (xml 107) (xmr 107) ∈ xgw := xig_mem (p := 946) (by decide +kernel)
set_option maxRecDepth 100000 in
theorem xcw108 : Jvm.Cond.code (xmy 108) (xmb 108) (xml 108) (xmr 108) ∈ xgw := xig_mem (p := 951) (by decide +kernel)
set_option maxRecDepth 100000 in
theorem xcw109 : Jvm.Cond.code (xmy 109) (xmb 109) (xml 109) (xmr 109) ∈ xgw := xig_mem (p := 956) (by decide +kernel)
set_option maxRecDepth 100000 in
theorem xcw110 : Jvm.Cond.code (xmy 110) (xmb 110) (xml 110) (xmr 110) ∈ xgw := xig_mem (p := 960) (by decide +kernel)
theorem xcod_ok : ∀ {μ : Nat}, xcod μ = true → Jvm.Cond.code (xmy μ) (xmb μ) (xml μ) (xmr μ) ∈ xgw
  | 0, _ => xcw0
  | 1, _ => xcw1
  | 2, _ => xcw2
  | 3, _ => xcw3
  | 4, _ => xcw4
  | 5, _ => xcw5
  | 6, _ => xcw6
  | 7, _ => xcw7
  | 8, _ => xcw8
  | 9, _ => xcw9
  | 10, _ => xcw10
  | 11, _ => xcw11
  | 12, _ => xcw12
  | 13, _ => xcw13
  | 14, _ => xcw14
  | 15, _ => xcw15
  | 16, _ => xcw16
  | 17, _ => xcw17
  | 18, _ => xcw18
  | 19, _ => xcw19
  | 20, _ => xcw20
  | 21, _ => xcw21
  | 22, _ => xcw22
  | 23, _ => xcw23
  | 24, _ => xcw24
  | 25, _ => xcw25
  | 26, _ => xcw26
  | 27, _ => xcw27
  | 28, _ => xcw28
  | 29, _ => xcw29
  | 30, _ => xcw30
  | 31, _ => xcw31
  | 32, _ => xcw32
  | 33, _ => xcw33
  | 34, _ => xcw34
  | 35, _ => xcw35
  | 36, _ => xcw36
  | 37, _ => xcw37
  | 38, _ => xcw38
  | 39, _ => xcw39
  | 40, _ => xcw40
  | 41, _ => xcw41
  | 42, _ => xcw42
  | 43, _ => xcw43
  | 44, _ => xcw44
  | 45, _ => xcw45
  | 46, _ => xcw46
  | 47, _ => xcw47
  | 48, _ => xcw48
  | 49, _ => xcw49
  | 50, _ => xcw50
  | 51, _ => xcw51
  | 52, _ => xcw52
  | 53, _ => xcw53
  | 54, _ => xcw54
  | 55, _ => xcw55
  | 56, _ => xcw56
  | 57, _ => xcw57
  | 58, _ => xcw58
  | 59, _ => xcw59
  | 60, _ => xcw60
  | 61, _ => xcw61
  | 62, _ => xcw62
  | 63, _ => xcw63
  | 64, _ => xcw64
  | 65, _ => xcw65
  | 66, _ => xcw66
  | 67, _ => xcw67
  | 68, _ => xcw68
  | 69, _ => xcw69
  | 70, _ => xcw70
  | 71, _ => xcw71
  | 72, _ => xcw72
  | 73, _ => xcw73
  | 74, _ => xcw74
  | 75, _ => xcw75
  | 76, _ => xcw76
  | 77, _ => xcw77
  | 78, _ => xcw78
  | 79, _ => xcw79
  | 80, _ => xcw80
  | 81, _ => xcw81
  | 82, _ => xcw82
  | 83, _ => xcw83
  | 84, _ => xcw84
  | 85, _ => xcw85
  | 86, _ => xcw86
  | 87, _ => xcw87
  | 88, _ => xcw88
  | 89, _ => xcw89
  | 90, _ => xcw90
  | 91, _ => xcw91
  | 92, _ => xcw92
  | 93, _ => xcw93
  | 94, _ => xcw94
  | 95, _ => xcw95
  | 96, _ => xcw96
  | 97, _ => xcw97
  | 98, _ => xcw98
  | 99, _ => xcw99
  | 100, _ => xcw100
  | 101, _ => xcw101
  | 102, _ => xcw102
  | 103, _ => xcw103
  | 104, _ => xcw104
  | 105, _ => xcw105
  | 106, _ => xcw106
  | 107, _ => xcw107
  | 108, _ => xcw108
  | 109, _ => xcw109
  | 110, _ => xcw110
  | 111, h => absurd h (by decide)
  | (k + 112), h => absurd h (by show ¬ false = true; decide)
theorem xcod_lt : ∀ {μ : Nat}, xcod μ = true → μ < xNM
  | 0, _ => by decide
  | 1, _ => by decide
  | 2, _ => by decide
  | 3, _ => by decide
  | 4, _ => by decide
  | 5, _ => by decide
  | 6, _ => by decide
  | 7, _ => by decide
  | 8, _ => by decide
  | 9, _ => by decide
  | 10, _ => by decide
  | 11, _ => by decide
  | 12, _ => by decide
  | 13, _ => by decide
  | 14, _ => by decide
  | 15, _ => by decide
  | 16, _ => by decide
  | 17, _ => by decide
  | 18, _ => by decide
  | 19, _ => by decide
  | 20, _ => by decide
  | 21, _ => by decide
  | 22, _ => by decide
  | 23, _ => by decide
  | 24, _ => by decide
  | 25, _ => by decide
  | 26, _ => by decide
  | 27, _ => by decide
  | 28, _ => by decide
  | 29, _ => by decide
  | 30, _ => by decide
  | 31, _ => by decide
  | 32, _ => by decide
  | 33, _ => by decide
  | 34, _ => by decide
  | 35, _ => by decide
  | 36, _ => by decide
  | 37, _ => by decide
  | 38, _ => by decide
  | 39, _ => by decide
  | 40, _ => by decide
  | 41, _ => by decide
  | 42, _ => by decide
  | 43, _ => by decide
  | 44, _ => by decide
  | 45, _ => by decide
  | 46, _ => by decide
  | 47, _ => by decide
  | 48, _ => by decide
  | 49, _ => by decide
  | 50, _ => by decide
  | 51, _ => by decide
  | 52, _ => by decide
  | 53, _ => by decide
  | 54, _ => by decide
  | 55, _ => by decide
  | 56, _ => by decide
  | 57, _ => by decide
  | 58, _ => by decide
  | 59, _ => by decide
  | 60, _ => by decide
  | 61, _ => by decide
  | 62, _ => by decide
  | 63, _ => by decide
  | 64, _ => by decide
  | 65, _ => by decide
  | 66, _ => by decide
  | 67, _ => by decide
  | 68, _ => by decide
  | 69, _ => by decide
  | 70, _ => by decide
  | 71, _ => by decide
  | 72, _ => by decide
  | 73, _ => by decide
  | 74, _ => by decide
  | 75, _ => by decide
  | 76, _ => by decide
  | 77, _ => by decide
  | 78, _ => by decide
  | 79, _ => by decide
  | 80, _ => by decide
  | 81, _ => by decide
  | 82, _ => by decide
  | 83, _ => by decide
  | 84, _ => by decide
  | 85, _ => by decide
  | 86, _ => by decide
  | 87, _ => by decide
  | 88, _ => by decide
  | 89, _ => by decide
  | 90, _ => by decide
  | 91, _ => by decide
  | 92, _ => by decide
  | 93, _ => by decide
  | 94, _ => by decide
  | 95, _ => by decide
  | 96, _ => by decide
  | 97, _ => by decide
  | 98, _ => by decide
  | 99, _ => by decide
  | 100, _ => by decide
  | 101, _ => by decide
  | 102, _ => by decide
  | 103, _ => by decide
  | 104, _ => by decide
  | 105, _ => by decide
  | 106, _ => by decide
  | 107, _ => by decide
  | 108, _ => by decide
  | 109, _ => by decide
  | 110, _ => by decide
  | 111, _ => by decide
  | (k + 112), h => absurd h (by show ¬ false = true; decide)
theorem xcow_ok : ∀ {μ : Nat}, xcow μ = true → Jvm.Cond.codeWith (xmy μ) (xmb μ) (xml μ) (xmr μ) (xmh μ) ∈ xgw
  | 0, h => absurd h (by decide)
  | 1, h => absurd h (by decide)
  | 2, h => absurd h (by decide)
  | 3, h => absurd h (by decide)
  | 4, h => absurd h (by decide)
  | 5, h => absurd h (by decide)
  | 6, h => absurd h (by decide)
  | 7, h => absurd h (by decide)
  | 8, h => absurd h (by decide)
  | 9, h => absurd h (by decide)
  | 10, h => absurd h (by decide)
  | 11, h => absurd h (by decide)
  | 12, h => absurd h (by decide)
  | 13, h => absurd h (by decide)
  | 14, h => absurd h (by decide)
  | 15, h => absurd h (by decide)
  | 16, h => absurd h (by decide)
  | 17, h => absurd h (by decide)
  | 18, h => absurd h (by decide)
  | 19, h => absurd h (by decide)
  | 20, h => absurd h (by decide)
  | 21, h => absurd h (by decide)
  | 22, h => absurd h (by decide)
  | 23, h => absurd h (by decide)
  | 24, h => absurd h (by decide)
  | 25, h => absurd h (by decide)
  | 26, h => absurd h (by decide)
  | 27, h => absurd h (by decide)
  | 28, h => absurd h (by decide)
  | 29, h => absurd h (by decide)
  | 30, h => absurd h (by decide)
  | 31, h => absurd h (by decide)
  | 32, h => absurd h (by decide)
  | 33, h => absurd h (by decide)
  | 34, h => absurd h (by decide)
  | 35, h => absurd h (by decide)
  | 36, h => absurd h (by decide)
  | 37, h => absurd h (by decide)
  | 38, h => absurd h (by decide)
  | 39, h => absurd h (by decide)
  | 40, h => absurd h (by decide)
  | 41, h => absurd h (by decide)
  | 42, h => absurd h (by decide)
  | 43, h => absurd h (by decide)
  | 44, h => absurd h (by decide)
  | 45, h => absurd h (by decide)
  | 46, h => absurd h (by decide)
  | 47, h => absurd h (by decide)
  | 48, h => absurd h (by decide)
  | 49, h => absurd h (by decide)
  | 50, h => absurd h (by decide)
  | 51, h => absurd h (by decide)
  | 52, h => absurd h (by decide)
  | 53, h => absurd h (by decide)
  | 54, h => absurd h (by decide)
  | 55, h => absurd h (by decide)
  | 56, h => absurd h (by decide)
  | 57, h => absurd h (by decide)
  | 58, h => absurd h (by decide)
  | 59, h => absurd h (by decide)
  | 60, h => absurd h (by decide)
  | 61, h => absurd h (by decide)
  | 62, h => absurd h (by decide)
  | 63, h => absurd h (by decide)
  | 64, h => absurd h (by decide)
  | 65, h => absurd h (by decide)
  | 66, h => absurd h (by decide)
  | 67, h => absurd h (by decide)
  | 68, h => absurd h (by decide)
  | 69, h => absurd h (by decide)
  | 70, h => absurd h (by decide)
  | 71, h => absurd h (by decide)
  | 72, h => absurd h (by decide)
  | 73, h => absurd h (by decide)
  | 74, h => absurd h (by decide)
  | 75, h => absurd h (by decide)
  | 76, h => absurd h (by decide)
  | 77, h => absurd h (by decide)
  | 78, h => absurd h (by decide)
  | 79, h => absurd h (by decide)
  | 80, h => absurd h (by decide)
  | 81, h => absurd h (by decide)
  | 82, h => absurd h (by decide)
  | 83, h => absurd h (by decide)
  | 84, h => absurd h (by decide)
  | 85, h => absurd h (by decide)
  | 86, h => absurd h (by decide)
  | 87, h => absurd h (by decide)
  | 88, h => absurd h (by decide)
  | 89, h => absurd h (by decide)
  | 90, h => absurd h (by decide)
  | 91, h => absurd h (by decide)
  | 92, h => absurd h (by decide)
  | 93, h => absurd h (by decide)
  | 94, h => absurd h (by decide)
  | 95, h => absurd h (by decide)
  | 96, h => absurd h (by decide)
  | 97, h => absurd h (by decide)
  | 98, h => absurd h (by decide)
  | 99, h => absurd h (by decide)
  | 100, h => absurd h (by decide)
  | 101, h => absurd h (by decide)
  | 102, h => absurd h (by decide)
  | 103, h => absurd h (by decide)
  | 104, h => absurd h (by decide)
  | 105, h => absurd h (by decide)
  | 106, h => absurd h (by decide)
  | 107, h => absurd h (by decide)
  | 108, h => absurd h (by decide)
  | 109, h => absurd h (by decide)
  | 110, h => absurd h (by decide)
  | 111, h => absurd h (by decide)
  | (k + 112), h => absurd h (by show ¬ false = true; decide)
theorem xcow_lt : ∀ {μ : Nat}, xcow μ = true → μ < xNM
  | 0, _ => by decide
  | 1, _ => by decide
  | 2, _ => by decide
  | 3, _ => by decide
  | 4, _ => by decide
  | 5, _ => by decide
  | 6, _ => by decide
  | 7, _ => by decide
  | 8, _ => by decide
  | 9, _ => by decide
  | 10, _ => by decide
  | 11, _ => by decide
  | 12, _ => by decide
  | 13, _ => by decide
  | 14, _ => by decide
  | 15, _ => by decide
  | 16, _ => by decide
  | 17, _ => by decide
  | 18, _ => by decide
  | 19, _ => by decide
  | 20, _ => by decide
  | 21, _ => by decide
  | 22, _ => by decide
  | 23, _ => by decide
  | 24, _ => by decide
  | 25, _ => by decide
  | 26, _ => by decide
  | 27, _ => by decide
  | 28, _ => by decide
  | 29, _ => by decide
  | 30, _ => by decide
  | 31, _ => by decide
  | 32, _ => by decide
  | 33, _ => by decide
  | 34, _ => by decide
  | 35, _ => by decide
  | 36, _ => by decide
  | 37, _ => by decide
  | 38, _ => by decide
  | 39, _ => by decide
  | 40, _ => by decide
  | 41, _ => by decide
  | 42, _ => by decide
  | 43, _ => by decide
  | 44, _ => by decide
  | 45, _ => by decide
  | 46, _ => by decide
  | 47, _ => by decide
  | 48, _ => by decide
  | 49, _ => by decide
  | 50, _ => by decide
  | 51, _ => by decide
  | 52, _ => by decide
  | 53, _ => by decide
  | 54, _ => by decide
  | 55, _ => by decide
  | 56, _ => by decide
  | 57, _ => by decide
  | 58, _ => by decide
  | 59, _ => by decide
  | 60, _ => by decide
  | 61, _ => by decide
  | 62, _ => by decide
  | 63, _ => by decide
  | 64, _ => by decide
  | 65, _ => by decide
  | 66, _ => by decide
  | 67, _ => by decide
  | 68, _ => by decide
  | 69, _ => by decide
  | 70, _ => by decide
  | 71, _ => by decide
  | 72, _ => by decide
  | 73, _ => by decide
  | 74, _ => by decide
  | 75, _ => by decide
  | 76, _ => by decide
  | 77, _ => by decide
  | 78, _ => by decide
  | 79, _ => by decide
  | 80, _ => by decide
  | 81, _ => by decide
  | 82, _ => by decide
  | 83, _ => by decide
  | 84, _ => by decide
  | 85, _ => by decide
  | 86, _ => by decide
  | 87, _ => by decide
  | 88, _ => by decide
  | 89, _ => by decide
  | 90, _ => by decide
  | 91, _ => by decide
  | 92, _ => by decide
  | 93, _ => by decide
  | 94, _ => by decide
  | 95, _ => by decide
  | 96, _ => by decide
  | 97, _ => by decide
  | 98, _ => by decide
  | 99, _ => by decide
  | 100, _ => by decide
  | 101, _ => by decide
  | 102, _ => by decide
  | 103, _ => by decide
  | 104, _ => by decide
  | 105, _ => by decide
  | 106, _ => by decide
  | 107, _ => by decide
  | 108, _ => by decide
  | 109, _ => by decide
  | 110, _ => by decide
  | 111, _ => by decide
  | (k + 112), h => absurd h (by show ¬ false = true; decide)
end XCW
