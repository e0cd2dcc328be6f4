section XCW
set_option maxRecDepth 100000 in
theorem xcw0 : Jvm.Cond.code (xmy 0) (xmb 0) (xml 0) (xmr 0) ∈ xgw := xig_mem (p := 85) (by decide +kernel)
set_option maxRecDepth 100000 in
theorem xcw1 : Jvm.Cond.code (xmy 1) (xmb 1) (xml 1) (xmr 1) ∈ xgw := xig_mem (p := 93) (by decide +kernel)
set_option maxRecDepth 100000 in
theorem xcw2 : Jvm.Cond.code (xmy 2) (xmb 2) (xml 2) (xmr 2) ∈ xgw := xig_mem (p := 99) (by decide +kernel)
set_option maxRecDepth 100000 in
theorem xcw3 : Jvm.Cond.code (xmy 3) (xmb 3) (xml 3) (xmr 3) ∈ xgw := xig_mem (p := 110) (by decide +kernel)
set_option maxRecDepth 100000 in
theorem xcw4 : Jvm.Cond.code (xmy 4) (xmb 4) (xml 4) (xmr 4) ∈ xgw := xig_mem (p := 144) (by decide +kernel)
set_option maxRecDepth 100000 in
theorem xcw5 : Jvm.Cond.code (xmy 5) (xmb 5) (xml 5) (xmr 5) ∈ xgw := xig_mem (p := 165) (by decide +kernel)
set_option maxRecDepth 100000 in
theorem xcw6 : Jvm.Cond.code (xmy 6) (xmb 6) (xml 6) (xmr 6) ∈ xgw := xig_mem (p := 202) (by decide +kernel)
set_option maxRecDepth 100000 in
theorem xcw7 : Jvm.Cond.code (xmy 7) (xmb 7) (xml 7) (xmr 7) ∈ xgw := xig_mem (p := 211) (by decide +kernel)
set_option maxRecDepth 100000 in
theorem xcw8 : Jvm.Cond.code (xmy 8) (xmb 8) (xml 8) (xmr 8) ∈ xgw := xig_mem (p := 243) (by decide +kernel)
set_option maxRecDepth 100000 in
theorem xcw9 : Jvm.Cond.code (xmy 9) (xmb 9) (xml 9) (xmr 9) ∈ xgw := xig_mem (p := 269) (by decide +kernel)
set_option maxRecDepth 100000 in
theorem xcw10 : Jvm.Cond.code (xmy 10) (xmb 10) (xml 10) (xmr 10) ∈ xgw := xig_mem (p := 279) (by decide +kernel)
set_option maxRecDepth 100000 in
theorem xcw11 : Jvm.Cond.code (xmy 11) (xmb 11) (xml 11) (xmr 11) ∈ xgw := xig_mem (p := 363) (by decide +kernel)
set_option maxRecDepth 100000 in
theorem xcw12 : Jvm.Cond.code (xmy 12) (xmb 12) (xml 12) (xmr 12) ∈ xgw := xig_mem (p := 367) (by decide +kernel)
set_option maxRecDepth 100000 in
theorem xcw13 : Jvm.Cond.code (xmy 13) (xmb 13) (xml 13) (xmr 13) ∈ xgw := xig_mem (p := 371) (by decide +kernel)
set_option maxRecDepth 100000 in
theorem xcw14 : Jvm.Cond.code (xmy 14) (xmb 14) (xml 14) (xmr 14) ∈ xgw := xig_mem (p := 375) (by decide +kernel)
set_option maxRecDepth 100000 in
theorem xcw15 : Jvm.Cond.code (xmy 15) (xmb 15) (xml 15) (xmr 15) ∈ xgw := xig_mem (p := 379) (by decide +kernel)
set_option maxRecDepth 100000 in
theorem xcw16 : Jvm.Cond.code (xmy 16) (xmb 16) (xml 16) (xmr 16) ∈ xgw := xig_mem (p := 383) (by decide +kernel)
set_option maxRecDepth 100000 in
theorem xcw17 : Jvm.Cond.code (xmy 17) (xmb 17) (xml 17) (xmr 17) ∈ xgw := xig_mem (p := 389) (by decide +kernel)
set_option maxRecDepth 100000 in
theorem xcw18 : Jvm.Cond.code (xmy 18) (xmb 18) (xml 18) (xmr 18) ∈ xgw := xig_mem (p := 396) (by decide +kernel)
set_option maxRecDepth 100000 in
theorem xcw19 : Jvm.Cond.code (xmy 19) (xmb 19) (xml 19) (xmr 19) ∈ xgw := xig_mem (p := 400) (by decide +kernel)
set_option maxRecDepth 100000 in
theorem xcw20 : Jvm.Cond.code (xmy 20) (xmb 20) (xml 20) (xmr 20) ∈ xgw := xig_mem (p := 404) (by decide +kernel)
set_option maxRecDepth 100000 in
theorem xcw21 : Jvm.Cond.code (xmy 21) (xmb 21) (xml 21) (xmr 21) ∈ xgw := xig_mem (p := 408) (by decide +kernel)
set_option maxRecDepth 100000 in
theorem xcw22 : Jvm.Cond.code (xmy 22) (xmb 22) (xml 22) (xmr 22) ∈ xgw := xig_mem (p := 412) (by decide +kernel)
set_option maxRecDepth 100000 in
theorem xcw23 : Jvm.Cond.code (xmy 23) (xmb 23) (xml 23) (xmr 23) ∈ xgw := xig_mem (p := 416) (by decide +kernel)
set_option maxRecDepth 100000 in
theorem xcw24 : Jvm.Cond.code (xmy 24) (xmb 24) (xml 24) (xmr 24) ∈ xgw := xig_mem (p := 420) (by decide +kernel)
set_option maxRecDepth 100000 in
theorem xcw25 : Jvm.Cond.code (xmy 25) (xmb 25) (xml 25) (xmr 25) ∈ xgw := xig_mem (p := 425) (by decide +kernel)
set_option maxRecDepth 100000 in
theorem xcw26 : Jvm.Cond.code (xmy 26) (xmb 26) (xml 26) (xmr 26) ∈ xgw := xig_mem (p := 428) (by decide +kernel)
set_option maxRecDepth 100000 in
theorem xcw27 : Jvm.Cond.code (xmy 27) (xmb 27) (xml 27) (xmr 27) ∈ xgw := xig_mem (p := 433) (by decide +kernel)
set_option maxRecDepth 100000 in
theorem xcw28 : Jvm.Cond.code (xmy 28) (xmb 28) (xml 28) (xmr 28) ∈ xgw := xig_mem (p := 437) (by decide +kernel)
set_option maxRecDepth 100000 in
theorem xcw29 : Jvm.Cond.code (xmy 29) (xmb 29) (xml 29) (xmr 29) ∈ xgw := xig_mem (p := 441) (by decide +kernel)
set_option maxRecDepth 100000 in
theorem xcw30 : Jvm.Cond.code (xmy 30) (xmb 30) (xml 30) (xmr 30) ∈ xgw := xig_mem (p := 445) (by decide +kernel)
set_option maxRecDepth 100000 in
theorem xcw31 : Jvm.Cond.code (xmy 31) (xmb 31) (xml 31) (xmr 31) ∈ xgw := xig_mem (p := 450) (by decide +kernel)
set_option maxRecDepth 100000 in
theorem xcw32 : Jvm.Cond.code (xmy 32) (xmb 32) (xml 32) (xmr 32) ∈ xgw := xig_mem (p := 454) (by decide +kernel)
set_option maxRecDepth 100000 in
theorem xcw33 : Jvm.Cond.code (xmy 33) (xmb 33) (xml 33) (xmr 33) ∈ xgw := xig_mem (p := 460) (by decide +kernel)
set_option maxRecDepth 100000 in
theorem xcw34 : Jvm.Cond.code (xmy 34) (xmb 34) (xml 34) (xmr 34) ∈ xgw := xig_mem (p := 464) (by decide +kernel)
set_option maxRecDepth 100000 in
theorem xcw35 : Jvm.Cond.code (xmy 35) (xmb 35) (xml 35) (xmr 35) ∈ xgw := xig_mem (p := 468) (by decide +kernel)
set_option maxRecDepth 100000 in
theorem xcw36 : Jvm.Cond.code (xmy 36) (xmb 36) (xml 36) (xmr 36) ∈ xgw := xig_mem (p := 472) (by decide +kernel)
set_option maxRecDepth 100000 in
theorem xcw37 : Jvm.Cond.code (xmy 37) (xmb 37) (xml 37) (xmr 37) ∈ xgw := xig_mem (p := 476) (by decide +kernel)
set_option maxRecDepth 100000 in
theorem xcw38 : Jvm.Cond.code (xmy 38) (xmb 38) (xml 38) (xmr 38) ∈ xgw := xig_mem (p := 479) (by decide +kernel)
set_option maxRecDepth 100000 in
theorem xcw39 : Jvm.Cond.code (xmy 39) (xmb 39) (xml 39) (xmr 39) ∈ xgw := xig_mem (p := 484) (by decide +kernel)
set_option maxRecDepth 100000 in
theorem xcw40 : Jvm.Cond.code (xmy 40) (xmb 40) (xml 40) (xmr 40) ∈ xgw := xig_mem (p := 488) (by decide +kernel)
set_option maxRecDepth 100000 in
theorem xcw41 : Jvm.Cond.code (xmy 41) (xmb 41) (xml 41) (xmr 41) ∈ xgw := xig_mem (p := 495) (by decide +kernel)
set_option maxRecDepth 100000 in
theorem xcw42 : Jvm.Cond.code (xmy 42) (xmb 42) (xml 42) (xmr 42) ∈ xgw := xig_mem (p := 500) (by decide +kernel)
set_option maxRecDepth 100000 in
theorem xcw43 : Jvm.Cond.code (xmy 43) (xmb 43) (xml 43) (xmr 43) ∈ xgw := xig_mem (p := 504) (by decide +kernel)
set_option maxRecDepth 100000 in
theorem xcw44 : Jvm.Cond.code (xmy 44) (xmb 44) (xml 44) (xmr 44) ∈ xgw := xig_mem (p := 508) (by decide +kernel)
set_option maxRecDepth 100000 in
theorem xcw45 : Jvm.Cond.code (xmy 45) (xmb 45) (xml 45) (xmr 45) ∈ xgw := xig_mem (p := 513) (by decide +kernel)
set_option maxRecDepth 100000 in
theorem xcw46 : Jvm.Cond.code (xmy 46) (xmb 46) (xml 46) (xmr 46) ∈ xgw := xig_mem (p := 517) (by decide +kernel)
set_option maxRecDepth 100000 in
theorem xcw47 : Jvm.Cond.code (xmy 47) (xmb 47) (xml 47) (xmr 47) ∈ xgw := xig_mem (p := 521) (by decide +kernel)
set_option maxRecDepth 100000 in
theorem xcw48 : Jvm.Cond.code (xmy 48) (xmb 48) (xml 48) (xmr 48) ∈ xgw := xig_mem (p := 525) (by decide +kernel)
set_option maxRecDepth 100000 in
theorem xcw49 : Jvm.Cond.code (xmy 49) (xmb 49) (xml 49) (xmr 49) ∈ xgw := xig_mem (p := 531) (by decide +kernel)
set_option maxRecDepth 100000 in
theorem xcw50 : Jvm.Cond.code (xmy 50) (xmb 50) (xml 50) (xmr 50) ∈ xgw := xig_mem (p := 535) (by decide +kernel)
set_option maxRecDepth 100000 in
theorem xcw51 : Jvm.Cond.code (xmy 51) (xmb 51) (xml 51) (xmr 51) ∈ xgw := xig_mem (p := 539) (by decide +kernel)
set_option maxRecDepth 100000 in
theorem xcw52 : Jvm.Cond.code (xmy 52) (xmb 52) (xml 52) (xmr 52) ∈ xgw := xig_mem (p := 612) (by decide +kernel)
set_option maxRecDepth 100000 in
theorem xcw53 : Jvm.Cond.code (xmy 53) (xmb 53) (xml 53) (xmr 53) ∈ xgw := xig_mem (p := 616) (by decide +kernel)
set_option maxRecDepth 100000 in
theorem xcw54 : Jvm.Cond.code (xmy 54) (xmb 54) (xml 54) (xmr 54) ∈ xgw := xig_mem (p := 620) (by decide +kernel)
set_option maxRecDepth 100000 in
theorem xcw55 : Jvm.Cond.code (xmy 55) (xmb 55) (xml 55) (xmr 55) ∈ xgw := xig_mem (p := 642) (by decide +kernel)
set_option maxRecDepth 100000 in
theorem xcw56 : Jvm.Cond.code (xmy 56) (xmb 56) (xml 56) (xmr 56) ∈ xgw := xig_mem (p := 646) (by decide +kernel)
set_option maxRecDepth 100000 in
theorem xcw57 : Jvm.Cond.code (xmy 57) (xmb 57) (xml 57) (xmr 57) ∈ xgw := xig_mem (p := 653) (by decide +kernel)
set_option maxRecDepth 100000 in
theorem xcw58 : Jvm.Cond.code (xmy 58) (xmb 58) (xml 58) (xmr 58) ∈ xgw := xig_mem (p := 658) (by decide +kernel)
set_option maxRecDepth 100000 in
theorem xcw59 : Jvm.Cond.code (xmy 59) (xmb 59) (xml 59) (xmr 59) ∈ xgw := xig_mem (p := 662) (by decide +kernel)
set_option maxRecDepth 100000 in
theorem xcw60 : Jvm.Cond.code (xmy 60) (xmb 60) (xml 60) (xmr 60) ∈ xgw := xig_mem (p := 666) (by decide +kernel)
set_option maxRecDepth 100000 in
theorem xcw61 : Jvm.Cond.code (xmy 61) (xmb 61) (xml 61) (xmr 61) ∈ xgw := xig_mem (p := 671) (by decide +kernel)
set_option maxRecDepth 100000 in
theorem xcw62 : Jvm.Cond.code (xmy 62) (xmb 62) (xml 62) (xmr 62) ∈ xgw := xig_mem (p := 677) (by decide +kernel)
set_option maxRecDepth 100000 in
theorem xcw63 : Jvm.Cond.code (xmy 63) (xmb 63) (xml 63) (xmr 63) ∈ xgw := xig_mem (p := 681) (by decide +kernel)
set_option maxRecDepth 100000 in
theorem xcw64 : Jvm.Cond.code (xmy 64) (xmb 64) (xml 64) (xmr 64) ∈ xgw := xig_mem (p := 687) (by decide +kernel)
set_option maxRecDepth 100000 in
theorem xcw65 : Jvm.Cond.code (xmy 65) (xmb 65) (xml 65) (xmr 65) ∈ xgw := xig_mem (p := 692) (by decide +kernel)
set_option maxRecDepth 100000 in
theorem xcw66 : Jvm.Cond.code (xmy 66) (xmb 66) (xml 66) (xmr 66) ∈ xgw := xig_mem (p := 696) (by decide +kernel)
set_option maxRecDepth 100000 in
theorem xcw67 : Jvm.Cond.code (xmy 67) (xmb 67) (xml 67) (xmr 67) ∈ xgw := xig_mem (p := 701) (by decide +kernel)
set_option maxRecDepth 100000 in
theorem xcw69 : Jvm.Cond.code (xmy 69) (xmb 69) (xml 69) (xmr 69) ∈ xgw := xig_mem (p := 712) (by decide +kernel)
set_option maxRecDepth 100000 in
theorem xcw70 : Jvm.Cond.code (xmy 70) (xmb 70) (xml 70) (xmr 70) ∈ xgw := xig_mem (p := 715) (by decide +kernel)
set_option maxRecDepth 100000 in
theorem xcw71 : Jvm.Cond.code (xmy 71) (xmb 71) (xml 71) (xmr 71) ∈ xgw := xig_mem (p := 736) (by decide +kernel)
set_option maxRecDepth 100000 in
theorem xcw73 : Jvm.Cond.code (xmy 73) (xmb 73) (xml 73) (xmr 73) ∈ xgw := xig_mem (p := 744) (by decide +kernel)
set_option maxRecDepth 100000 in
theorem xcw74 : Jvm.Cond.code (xmy 74) (xmb 74) (xml 74) (xmr 74) ∈ xgw := xig_mem (p := 749) (by decide +kernel)
set_option maxRecDepth 100000 in
theorem xcw76 : Jvm.Cond.code (xmy 76) (xmb 76) (xml 76) (xmr 76) ∈ xgw := xig_mem (p := 757) (by decide +kernel)
set_option maxRecDepth 100000 in
theorem xcw77 : Jvm.Cond.code (xmy 77) (xmb 77) (xml 77) (xmr 77) ∈ xgw := xig_mem (p := 761) (by decide +kernel)
set_option maxRecDepth 100000 in
theorem xcw78 : Jvm.Cond.code (xmy 78) (xmb 78) (xml 78) (xmr 78) ∈ xgw := xig_mem (p := 767) (by decide +kernel)
set_option maxRecDepth 100000 in
theorem xcw79 : Jvm.Cond.code (xmy 79) (xmb 79) (xml 79) (xmr 79) ∈ xgw := xig_mem (p := 773) (by decide +kernel)
set_option maxRecDepth 100000 in
theorem xcw80 : Jvm.Cond.code (xmy 80) (xmb 80) (xml 80) (xmr 80) ∈ xgw := xig_mem (p := 781) (by decide +kernel)
set_option maxRecDepth 100000 in
theorem xcw82 : Jvm.Cond.code (xmy 82) (xmb 82) (xml 82) (xmr 82) ∈ xgw := xig_mem (p := 789) (by decide +kernel)
set_option maxRecDepth 100000 in
theorem xcw83 : Jvm.Cond.code (xmy 83) (xmb 83) (xml 83) (xmr 83) ∈ xgw := xig_mem (p := 795) (by decide +kernel)
set_option maxRecDepth 100000 in
theorem xcw84 : Jvm.Cond.code (xmy 84) (xmb 84) (xml 84) (xmr 84) ∈ xgw := xig_mem (p := 799) (by decide +kernel)
set_option maxRecDepth 100000 in
theorem xcw86 : Jvm.Cond.code (xmy 86) (xmb 86) (xml 86) (xmr 86) ∈ xgw := xig_mem (p := 807) (by decide +kernel)
set_option maxRecDepth 100000 in
theorem xcw87 : Jvm.Cond.code (xmy 87) (xmb 87) (xml 87) (xmr 87) ∈ xgw := xig_mem (p := 812) (by decide +kernel)
set_option maxRecDepth 100000 in
theorem xcw88 : Jvm.Cond.code (xmy 88) (xmb 88) (xml 88) (xmr 88) ∈ xgw := xig_mem (p := 817) (by decide +kernel)
set_option maxRecDepth 100000 in
theorem xcw89 : Jvm.Cond.code (xmy 89) (xmb 89) (xml 89) (xmr 89) ∈ xgw := xig_mem (p := 822) (by decide +kernel)
set_option maxRecDepth 100000 in
theorem xcw90 : Jvm.Cond.code (xmy 90) (xmb 90) (xml 90) (xmr 90) ∈ xgw := xig_mem (p := 828) (by decide +kernel)
set_option maxRecDepth 100000 in
theorem xcw92 : Jvm.Cond.code (xmy 92) (xmb 92) (xml 92) (xmr 92) ∈ xgw := xig_mem (p := 837) (by decide +kernel)
set_option maxRecDepth 100000 in
theorem xcw94 : Jvm.Cond.code (xmy 94) (xmb 94) (xml 94) (xmr 94) ∈ xgw := xig_mem (p := 848) (by decide +kernel)
set_option maxRecDepth 100000 in
theorem xcw95 : Jvm.Cond.code (xmy 95) (xmb 95) (xml 95) (xmr 95) ∈ xgw := xig_mem (p := 853) (by decide +kernel)
set_option maxRecDepth 100000 in
theorem xcw96 : Jvm.Cond.code (xmy 96) (xmb 96) (xml 96) (xmr 96) ∈ xgw := xig_mem (p := 857) (by decide +kernel)
set_option maxRecDepth 100000 in
theorem xcw97 : Jvm.Cond.code (xmy 97) (xmb 97) (xml 97) (xmr 97) ∈ xgw := xig_mem (p := 862) (by decide +kernel)
set_option maxRecDepth 100000 in
theorem xcw98 : Jvm.Cond.code (xmy 98) (xmb 98) (xml 98) (xmr 98) ∈ xgw := xig_mem (p := 868) (by decide +kernel)
set_option maxRecDepth 100000 in
theorem xcw100 : Jvm.Cond.code (xmy 100) (xmb 100) (xml 100) (xmr 100) ∈ xgw := xig_mem (p := 875) (by decide +kernel)
set_option maxRecDepth 100000 in
theorem xcw101 : Jvm.Cond.code (xmy 101) (xmb 101) (xml 101) (xmr 101) ∈ xgw := xig_mem (p := 880) (by decide +kernel)
set_option maxRecDepth 100000 in
theorem xcw103 : Jvm.Cond.code (xmy 103) (xmb 103) (xml 103) (xmr 103) ∈ xgw := xig_mem (p := 889) (by decide +kernel)
set_option maxRecDepth 100000 in
theorem xcw104 : Jvm.Cond.code (xmy 104) (xmb 104) (xml 104) (xmr 104) ∈ xgw := xig_mem (p := 894) (by decide +kernel)
set_option maxRecDepth 100000 in
theorem xcw105 : Jvm.Cond.code (xmy 105) (xmb 105) (xml 105) (xmr 105) ∈ xgw := xig_mem (p := 899) (by decide +kernel)
set_option maxRecDepth 100000 in
theorem xcw107 : Jvm.Cond.code (xmy 107) (xmb 107) (xml 107) (xmr 107) ∈ xgw := xig_mem (p := 908) (by decide +kernel)
set_option maxRecDepth 100000 in
theorem xcw108 : Jvm.Cond.code (xmy 108) (xmb 108) (xml 108) (xmr 108) ∈ xgw := xig_mem (p := 912) (by decide +kernel)
set_option maxRecDepth 100000 in
theorem xcw109 : Jvm.Cond.code (xmy 109) (xmb 109) (xml 109) (xmr 109) ∈ xgw := xig_mem (p := 918) (by decide +kernel)
set_option maxRecDepth 100000 in
theorem xcw111 : Jvm.Cond.code (xmy 111) (xmb 111) (xml 111) (xmr 111) ∈ xgw := xig_mem (p := 926) (by decide +kernel)
set_option maxRecDepth 100000 in
theorem xcw112 : Jvm.Cond.code (xmy 112) (xmb 112) (xml 112) (xmr 112) ∈ xgw := xig_mem (p := 931) (by decide +kernel)
set_option maxRecDepth 100000 in
theorem xcw114 : Jvm.Cond.code (xmy 114) (xmb 114) (xml 114) (xmr 114) ∈ xgw := xig_mem (p := 939) (by decide +kernel)
set_option maxRecDepth 100000 in
theorem xcw115 : Jvm.Cond.code (xmy 115) (xmb 115) (xml 115) (xmr 115) ∈ xgw := xig_mem (p := 944) (by decide +kernel)
set_option maxRecDepth 100000 in
theorem xcw116 : Jvm.Cond.code (xmy 116) (xmb 116) (xml 116) (xmr 116) ∈ xgw := xig_mem (p := 948) (by decide +kernel)
set_option maxRecDepth 100000 in
theorem xcw117 : Jvm.Cond.code (xmy 117) (xmb 117) (xml 117) (xmr 117) ∈ xgw := xig_mem (p := 956) (by decide +kernel)
set_option maxRecDepth 100000 in
theorem xcw118 : Jvm.Cond.code (xmy 118) (xmb 118) (xml 118) (xmr 118) ∈ xgw := xig_mem (p := 960) (by decide +kernel)
set_option maxRecDepth 100000 in
theorem xcw119 : Jvm.Cond.code (xmy 119) (xmb 119) (xml 119) (xmr 119) ∈ xgw := xig_mem (p := 965) (by decide +kernel)
set_option maxRecDepth 100000 in
theorem xcw120 : Jvm.Cond.code (xmy 120) (xmb 120) (xml 120) (xmr 120) ∈ xgw := xig_mem (p := 972) (by decide +kernel)
set_option maxRecDepth 100000 in
theorem xcw129 : Jvm.Cond.code (xmy 129) (xmb 129) (xml 129) (xmr 129) ∈ xgw := xig_mem (p := 1008) (by decide +kernel)
set_option maxRecDepth 100000 in
theorem xcw130 : Jvm.Cond.code (xmy 130) (xmb 130) (xml 130) (xmr 130) ∈ xgw := xig_mem (p := 1012) (by decide +kernel)
set_option maxRecDepth 100000 in
theorem xcw131 : Jvm.Cond.code (xmy 131) (xmb 131) (xml 131) (xmr 131) ∈ xgw := xig_mem (p := 1016) (by decide +kernel)
set_option maxRecDepth 100000 in
theorem xcw133 : Jvm.Cond.code (xmy 133) (xmb 133) (xml 133) (xmr 133) ∈ xgw := xig_mem (p := 1023) (by decide +kernel)
set_option maxRecDepth 100000 in
theorem xcw134 : Jvm.Cond.code (xmy 134) (xmb 134) (xml 134) (xmr 134) ∈ xgw := xig_mem (p := 1027) (by decide +kernel)
set_option maxRecDepth 100000 in
theorem xcw136 : Jvm.Cond.code (xmy 136) (xmb 136) (xml 136) (xmr 136) ∈ xgw := xig_mem (p := 1035) (by decide +kernel)
set_option maxRecDepth 100000 in
theorem xcw137 : Jvm.Cond.code (xmy 137) (xmb 137) (xml 137) (xmr 137) ∈ xgw := xig_mem (p := 1041) (by decide +kernel)
set_option maxRecDepth 100000 in
theorem xcw138 : Jvm.Cond.code (xmy 138) (xmb 138) (xml 138) (xmr 138) ∈ xgw := xig_mem (p := 1049) (by decide +kernel)
set_option maxRecDepth 100000 in
theorem xcw139 : Jvm.Cond.code (xmy 139) (xmb 139) (xml 139) (xmr 139) ∈ xgw := xig_mem (p := 1052) (by decide +kernel)
set_option maxRecDepth 100000 in
theorem xcw140 : Jvm.Cond.code (xmy 140) (xmb 140) (xml 140) (xmr 140) ∈ xgw := xig_mem (p := 1055) (by decide +kernel)
set_option maxRecDepth 100000 in
theorem xcw141 : Jvm.Cond.code (xmy 141) (xmb 141) (xml 141) (xmr 141) ∈ xgw := xig_mem (p := 1163) (by decide +kernel)
set_option maxRecDepth 100000 in
theorem xcw142 : Jvm.Cond.code (xmy 142) (xmb 142) (xml 142) (xmr 142) ∈ xgw := xig_mem (p := 1167) (by decide +kernel)
set_option maxRecDepth 100000 in
theorem xcw143 : Jvm.Cond.code (xmy 143) (xmb 143) (xml 143) (xmr 143) ∈ xgw := xig_mem (p := 1170) (by decide +kernel)
set_option maxRecDepth 100000 in
theorem xcw144 : Jvm.Cond.code (xmy 144) (xmb 144) (xml 144) (xmr 144) ∈ xgw := xig_mem (p := 1174) (by decide +kernel)
set_option maxRecDepth 100000 in
theorem xcw145 : Jvm.Cond.code (xmy 145) (xmb 145) (xml 145) (xmr 145) ∈ xgw := xig_mem (p := 1178) (by decide +kernel)
set_option maxRecDepth 100000 in
theorem xcw146 : Jvm.Cond.code (xmy 146) (xmb 146) (xml 146) (xmr 146) ∈ xgw := xig_mem (p := 1182) (by decide +kernel)
set_option maxRecDepth 100000 in
theorem xcw147 : Jvm.Cond.code (xmy 147) (xmb 147) (xml 147) (xmr 147) ∈ xgw := xig_mem (p := 1185) (by decide +kernel)
set_option maxRecDepth 100000 in
theorem xcw148 : Jvm.Cond.code (xmy 148) (xmb 148) (xml 148) (xmr 148) ∈ xgw := xig_mem (p := 1189) (by decide +kernel)
set_option maxRecDepth 100000 in
theorem xcw149 : Jvm.Cond.code (xmy 149) (xmb 149) (xml 149) (xmr 149) ∈ xgw := xig_mem (p := 1192) (by decide +kernel)
set_option maxRecDepth 100000 in
theorem xcw150 : Jvm.Cond.code (xmy 150) (xmb 150) (xml 150) (xmr 150) ∈ xgw := xig_mem (p := 1196) (by decide +kernel)
set_option maxRecDepth 100000 in
theorem xcw151 : Jvm.Cond.code (xmy 151) (xmb 151) (xml 151) (xmr 151) ∈ xgw := xig_mem (p := 1200) (by decide +kernel)
set_option maxRecDepth 100000 in
theorem xcw152 : Jvm.Cond.code (xmy 152) (xmb 152) (xml 152) (xmr 152) ∈ xgw := xig_mem (p := 1204) (by decide +kernel)
set_option maxRecDepth 100000 in
theorem xcw153 : Jvm.Cond.code (xmy 153) (xmb 153) (xml 153) (xmr 153) ∈ xgw := xig_mem (p := 1208) (by decide +kernel)
set_option maxRecDepth 100000 in
theorem xcw154 : Jvm.Cond.code (xmy 154) (xmb 154) (xml 154) (xmr 154) ∈ xgw := xig_mem (p := 1212) (by decide +kernel)
set_option maxRecDepth 100000 in
theorem xcw155 : Jvm.Cond.code (xmy 155) (xmb 155) (xml 155) (xmr 155) ∈ xgw := xig_mem (p := 1216) (by decide +kernel)
set_option maxRecDepth 100000 in
theorem xcw156 : Jvm.Cond.code (xmy 156) (xmb 156) (xml 156) (xmr 156) ∈ xgw := xig_mem (p := 1220) (by decide +kernel)
set_option maxRecDepth 100000 in
theorem xcw157 : Jvm.Cond.code (xmy 157) (xmb 157) (xml 157) (xmr 157) ∈ xgw := xig_mem (p := 1224) (by decide +kernel)
set_option maxRecDepth 100000 in
theorem xcw158 : Jvm.Cond.code (xmy 158) (xmb 158) (xml 158) (xmr 158) ∈ xgw := xig_mem (p := 1228) (by decide +kernel)
set_option maxRecDepth 100000 in
theorem xcw159 : Jvm.Cond.code (xmy 159) (xmb 159) (xml 159) (xmr 159) ∈ xgw := xig_mem (p := 1232) (by decide +kernel)
set_option maxRecDepth 100000 in
theorem xcw160 : Jvm.Cond.code (xmy 160) (xmb 160) (xml 160) (xmr 160) ∈ xgw := xig_mem (p := 1236) (by decide +kernel)
set_option maxRecDepth 100000 in
theorem xcw161 : Jvm.Cond.code (xmy 161) (xmb 161) (xml 161) (xmr 161) ∈ xgw := xig_mem (p := 1240) (by decide +kernel)
set_option maxRecDepth 100000 in
theorem xcw162 : Jvm.Cond.code (xmy 162) (xmb 162) (xml 162) (xmr 162) ∈ xgw := xig_mem (p := 1244) (by decide +kernel)
set_option maxRecDepth 100000 in
theorem xcw163 : Jvm.Cond.code (xmy 163) (xmb 163) (xml 163) (xmr 163) ∈ xgw := xig_mem (p := 1248) (by decide +kernel)
set_option maxRecDepth 100000 in
theorem xcw164 : Jvm.Cond.code (xmy 164) (xmb 164) (xml 164) (xmr 164) ∈ xgw := xig_mem (p := 1252) (by decide +kernel)
set_option maxRecDepth 100000 in
theorem xcw165 : Jvm.Cond.code (xmy 165) (xmb 165) (xml 165) (xmr 165) ∈ xgw := xig_mem (p := 1256) (by decide +kernel)
set_option maxRecDepth 100000 in
theorem xcw166 : Jvm.Cond.code (xmy 166) (xmb 166) (xml 166) (xmr 166) ∈ xgw := xig_mem (p := 1261) (by decide +kernel)
set_option maxRecDepth 100000 in
theorem xcw167 : Jvm.Cond.code (xmy 167) (xmb 167) (xml 167) (xmr 167) ∈ xgw := xig_mem (p := 1267) (by decide +kernel)
set_option maxRecDepth 100000 in
theorem xcw168 : Jvm.Cond.code (xmy 168) (xmb 168) (xml 168) (xmr 168) ∈ xgw := xig_mem (p := 1272) (by decide +kernel)
set_option maxRecDepth 100000 in
theorem xcw169 : Jvm.Cond.code (xmy 169) (xmb 169) (xml 169) (xmr 169) ∈ xgw := xig_mem (p := 1276) (by decide +kernel)
set_option maxRecDepth 100000 in
theorem xcw170 : Jvm.Cond.code (xmy 170) (xmb 170) (xml 170) (xmr 170) ∈ xgw := xig_mem (p := 1281) (by decide +kernel)
set_option maxRecDepth 100000 in
theorem xcw171 : Jvm.Cond.code (xmy 171) (xmb 171) (xml 171) (xmr 171) ∈ xgw := xig_mem (p := 1285) (by decide +kernel)
set_option maxRecDepth 100000 in
theorem xcw172 : Jvm.Cond.code (xmy 172) (xmb 172) (xml 172) (xmr 172) ∈ xgw := xig_mem (p := 1289) (by decide +kernel)
set_option maxRecDepth 100000 in
theorem xcw173 : Jvm.Cond.code (xmy 173) (xmb 173) (xml 173) (xmr 173) ∈ xgw := xig_mem (p := 1293) (by decide +kernel)
set_option maxRecDepth 100000 in
theorem xcw174 : Jvm.Cond.code (xmy 174) (xmb 174) (xml 174) (xmr 174) ∈ xgw := xig_mem (p := 1393) (by decide +kernel)
set_option maxRecDepth 100000 in
theorem xcw175 : Jvm.Cond.code (xmy 175) (xmb 175) (xml 175) (xmr 175) ∈ xgw := xig_mem (p := 1402) (by decide +kernel)
set_option maxRecDepth 100000 in
theorem xcw176 : Jvm.Cond.code (xmy 176) (xmb 176) (xml 176) (xmr 176) ∈ xgw := xig_mem (p := 1428) (by decide +kernel)
set_option maxRecDepth 100000 in
theorem xcw177 : Jvm.Cond.code (xmy 177) (xmb 177) (xml 177) (xmr 177) ∈ xgw := xig_mem (p := 1432) (by decide +kernel)
set_option maxRecDepth 100000 in
theorem xcw178 : Jvm.Cond.code (xmy 178) (xmb 178) (xml 178) (xmr 178) ∈ xgw := xig_mem (p := 1436) (by decide +kernel)
set_option maxRecDepth 100000 in
theorem xcw179 : Jvm.Cond.code (xmy 179) (xmb 179) (xml 179) (xmr 179) ∈ xgw := xig_mem (p := 1440) (by decide +kernel)
set_option maxRecDepth 100000 in
theorem xcw180 : Jvm.Cond.code (xmy 180) (xmb 180) (xml 180) (xmr 180) ∈ xgw := xig_mem (p := 1444) (by decide +kernel)
set_option maxRecDepth 100000 in
theorem xcw181 : Jvm.Cond.code (xmy 181) (xmb 181) (xml 181) (xmr 181) ∈ xgw := xig_mem (p := 1448) (by decide +kernel)
set_option maxRecDepth 100000 in
theorem xcw182 : Jvm.Cond.code (xmy 182) (xmb 182) (xml 182) (xmr 182) ∈ xgw := xig_mem (p := 1452) (by decide +kernel)
set_option maxRecDepth 100000 in
theorem xcw183 : Jvm.Cond.code (xmy 183) (xmb 183) (xml 183) (xmr 183) ∈ xgw := xig_mem (p := 1456) (by decide +kernel)
set_option maxRecDepth 100000 in
theorem xcw184 : Jvm.Cond.code (xmy 184) (xmb 184) (xml 184) (xmr 184) ∈ xgw := xig_mem (p := 1460) (by decide +kernel)
set_option maxRecDepth 100000 in
theorem xcw185 : Jvm.Cond.code (xmy 185) (xmb 185) (xml 185) (xmr 185) ∈ xgw := xig_mem (p := 1464) (by decide +kernel)
set_option maxRecDepth 100000 in
theorem xcw186 : Jvm.Cond.code (xmy 186) (xmb 186) (xml 186) (xmr 186) ∈ xgw := xig_mem (p := 1468) (by decide +kernel)
set_option maxRecDepth 100000 in
theorem xcw187 : Jvm.Cond.code (xmy 187) (xmb 187) (xml 187) (xmr 187) ∈ xgw := xig_mem (p := 1472) (by decide +kernel)
set_option maxRecDepth 100000 in
theorem xcw188 : Jvm.Cond.code (xmy 188) (xmb 188) (xml 188) (xmr 188) ∈ xgw := xig_mem (p := 1476) (by decide +kernel)
set_option maxRecDepth 100000 in
theorem xcw189 : Jvm.Cond.code (xmy 189) (xmb 189) (xml 189) (xmr 189) ∈ xgw := xig_mem (p := 1480) (by decide +kernel)
set_option maxRecDepth 100000 in
theorem xcw190 : Jvm.Cond.code (xmy 190) (xmb 190) (xml 190) (xmr 190) ∈ xgw := xig_mem (p := 1484) (by decide +kernel)
set_option maxRecDepth 100000 in
theorem xcw191 : Jvm.Cond.code (xmy 191) (xmb 191) (xml 191) (xmr 191) ∈ xgw := xig_mem (p := 1488) (by decide +kernel)
set_option maxRecDepth 100000 in
theorem xcw192 : Jvm.Cond.code (xmy 192) (xmb 192) (xml 192) (xmr 192) ∈ xgw := xig_mem (p := 1492) (by decide +kernel)
set_option maxRecDepth 100000 in
theorem xcw193 : Jvm.Cond.code (xmy 193) (xmb 193) (xml 193) (xmr 193) ∈ xgw := xig_mem (p := 1496) (by decide +kernel)
set_option maxRecDepth 100000 in
theorem xcw194 : Jvm.Cond.code (xmy 194) (xmb 194) (xml 194) (xmr 194) ∈ xgw := xig_mem (p := 1500) (by decide +kernel)
set_option maxRecDepth 100000 in
theorem xcw195 : Jvm.Cond.code (xmy 195) (xmb 195) (xml 195) (xmr 195) ∈ xgw := xig_mem (p := 1504) (by decide +kernel)
set_option maxRecDepth 100000 in
theorem xcw196 : Jvm.Cond.code (xmy 196) (xmb 196) (xml 196) (xmr 196) ∈ xgw := xig_mem (p := 1509) (by decide +kernel)
set_option maxRecDepth 100000 in
theorem xcw197 : Jvm.Cond.code (xmy 197) (xmb 197) (xml 197) (xmr 197) ∈ xgw := xig_mem (p := 1515) (by decide +kernel)
theorem xcod_ok : ∀ {μ : Nat}, xcod μ = true → Jvm.Cond.code (xmy μ) (xmb μ) (xml μ) (xmr μ) ∈ xgw
  | 0, _ => xcw0
  | 1, _ => xcw1
  | 2, _ => xcw2
  | 3, _ => xcw3
  | 4, _ => xcw4
  | 5, _ => xcw5
  | 6, _ => xcw6
  | 7, _ => xcw7
  | 8, _ => xcw8
  | 9, _ => xcw9
  | 10, _ => xcw10
  | 11, _ => xcw11
  | 12, _ => xcw12
  | 13, _ => xcw13
  | 14, _ => xcw14
  | 15, _ => xcw15
  | 16, _ => xcw16
  | 17, _ => xcw17
  | 18, _ => xcw18
  | 19, _ => xcw19
  | 20, _ => xcw20
  | 21, _ => xcw21
  | 22, _ => xcw22
  | 23, _ => xcw23
  | 24, _ => xcw24
  | 25, _ => xcw25
  | 26, _ => xcw26
  | 27, _ => xcw27
  | 28, _ => xcw28
  | 29, _ => xcw29
  | 30, _ => xcw30
  | 31, _ => xcw31
  | 32, _ => xcw32
  | 33, _ => xcw33
  | 34, _ => xcw34
  | 35, _ => xcw35
  | 36, _ => xcw36
  | 37, _ => xcw37
  | 38, _ => xcw38
  | 39, _ => xcw39
  | 40, _ => xcw40
  | 41, _ => xcw41
  | 42, _ => xcw42
  | 43, _ => xcw43
  | 44, _ => xcw44
  | 45, _ => xcw45
  | 46, _ => xcw46
  | 47, _ => xcw47
  | 48, _ => xcw48
  | 49, _ => xcw49
  | 50, _ => xcw50
  | 51, _ => xcw51
  | 52, _ => xcw52
  | 53, _ => xcw53
  | 54, _ => xcw54
  | 55, _ => xcw55
  | 56, _ => xcw56
  | 57, _ => xcw57
  | 58, _ => xcw58
  | 59, _ => xcw59
  | 60, _ => xcw60
  | 61, _ => xcw61
  | 62, _ => xcw62
  | 63, _ => xcw63
  | 64, _ => xcw64
  | 65, _ => xcw65
  | 66, _ => xcw66
  | 67, _ => xcw67
  | 68, h => absurd h (by decide)
  | 69, _ => xcw69
  | 70, _ => xcw70
  | 71, _ => xcw71
  | 72, h => absurd h (by decide)
  | 73, _ => xcw73
  | 74, _ => xcw74
  | 75, h => absurd h (by decide)
  | 76, _ => xcw76
  | 77, _ => xcw77
  | 78, _ => xcw78
  | 79, _ => xcw79
  | 80, _ => xcw80
  | 81, h => absurd h (by decide)
  | 82, _ => xcw82
  | 83, _ => xcw83
  | 84, _ => xcw84
  | 85, h => absurd h (by decide)
  | 86, _ => xcw86
  | 87, _ => xcw87
  | 88, _ => xcw88
  | 89, _ => xcw89
  | 90, _ => xcw90
  | 91, h => absurd h (by decide)
  | 92, _ => xcw92
  | 93, h => absurd h (by decide)
  | 94, _ => xcw94
  | 95, _ => xcw95
  | 96, _ => xcw96
  | 97, _ => xcw97
  | 98, _ => xcw98
  | 99, h => absurd h (by decide)
  | 100, _ => xcw100
  | 101, _ => xcw101
  | 102, h => absurd h (by decide)
  | 103, _ => xcw103
  | 104, _ => xcw104
  | 105, _ => xcw105
  | 106, h => absurd h (by decide)
  | 107, _ => xcw107
  | 108, _ => xcw108
  | 109, _ => xcw109
  | 110, h => absurd h (by decide)
  | 111, _ => xcw111
  | 112, _ => xcw112
  | 113, h => absurd h (by decide)
  | 114, _ => xcw114
  | 115, _ => xcw115
  | 116, _ => xcw116
  | 117, _ => xcw117
  | 118, _ => xcw118
  | 119, _ => xcw119
  | 120, _ => xcw120
  | 121, h => absurd h (by decide)
  | 122, h => absurd h (by decide)
  | 123, h => absurd h (by decide)
  | 124, h => absurd h (by decide)
  | 125, h => absurd h (by decide)
  | 126, h => absurd h (by decide)
  | 127, h => absurd h (by decide)
  | 128, h => absurd h (by decide)
  | 129, _ => xcw129
  | 130, _ => xcw130
  | 131, _ => xcw131
  | 132, h => absurd h (by decide)
  | 133, _ => xcw133
  | 134, _ => xcw134
  | 135, h => absurd h (by decide)
  | 136, _ => xcw136
  | 137, _ => xcw137
  | 138, _ => xcw138
  | 139, _ => xcw139
  | 140, _ => xcw140
  | 141, _ => xcw141
  | 142, _ => xcw142
  | 143, _ => xcw143
  | 144, _ => xcw144
  | 145, _ => xcw145
  | 146, _ => xcw146
  | 147, _ => xcw147
  | 148, _ => xcw148
  | 149, _ => xcw149
  | 150, _ => xcw150
  | 151, _ => xcw151
  | 152, _ => xcw152
  | 153, _ => xcw153
  | 154, _ => xcw154
  | 155, _ => xcw155
  | 156, _ => xcw156
  | 157, _ => xcw157
  | 158, _ => xcw158
  | 159, _ => xcw159
  | 160, _ => xcw160
  | 161, _ => xcw161
  | 162, _ => xcw162
  | 163, _ => xcw163
  | 164, _ => xcw164
  | 165, _ => xcw165
  | 166, _ => xcw166
  | 167, _ => xcw167
  | 168, _ => xcw168
  | 169, _ => xcw169
  | 170, _ => xcw170
  | 171, _ => xcw171
  | 172, _ => xcw172
  | 173, _ => xcw173
  | 174, _ => xcw174
  | 175, _ => xcw175
  | 176, _ => xcw176
  | 177, _ => xcw177
  | 178, _ => xcw178
  | 179, _ => xcw179
  | 180, _ => xcw180
  | 181, _ => xcw181
  | 182, _ => xcw182
  | 183, _ => xcw183
  | 184, _ => xcw184
  | 185, _ => xcw185
  | 186, _ => xcw186
  | 187, _ => xcw187
  | 188, _ => xcw188
  | 189, _ => xcw189
  | 190, _ => xcw190
  | 191, _ => xcw191
  | 192, _ => xcw192
  | 193, _ => xcw193
  | 194, _ => xcw194
  | 195, _ => xcw195
  | 196, _ => xcw196
  | 197, _ => xcw197
  | 198, h => absurd h (by decide)
  | (k + 199), h => absurd h (by show ¬ false = true; decide)
theorem xcod_lt : ∀ {μ : Nat}, xcod μ = true → μ < xNM
  | 0, _ => by decide
  | 1, _ => by decide
  | 2, _ => by decide
  | 3, _ => by decide
  | 4, _ => by decide
  | 5, _ => by decide
  | 6, _ => by decide
  | 7, _ => by decide
  | 8, _ => by decide
  | 9, _ => by decide
  | 10, _ => by decide
  | 11, _ => by decide
  | 12, _ => by decide
  | 13, _ => by decide
  | 14, _ => by decide
  | 15, _ => by decide
  | 16, _ => by decide
  | 17, _ => by decide
  | 18, _ => by decide
  | 19, _ => by decide
  | 20, _ => by decide
  | 21, _ => by decide
  | 22, _ => by decide
  | 23, _ => by decide
  | 24, _ => by decide
  | 25, _ => by decide
  | 26, _ => by decide
  | 27, _ => by decide
  | 28, _ => by decide
  | 29, _ => by decide
  | 30, _ => by decide
  | 31, _ => by decide
  | 32, _ => by decide
  | 33, _ => by decide
  | 34, _ => by decide
  | 35, _ => by decide
  | 36, _ => by decide
  | 37, _ => by decide
  | 38, _ => by decide
  | 39, _ => by decide
  | 40, _ => by decide
  | 41, _ => by decide
  | 42, _ => by decide
  | 43, _ => by decide
  | 44, _ => by decide
  | 45, _ => by decide
  | 46, _ => by decide
  | 47, _ => by decide
  | 48, _ => by decide
  | 49, _ => by decide
  | 50, _ => by decide
  | 51, _ => by decide
  | 52, _ => by decide
  | 53, _ => by decide
  | 54, _ => by decide
  | 55, _ => by decide
  | 56, _ => by decide
  | 57, _ => by decide
  | 58, _ => by decide
  | 59, _ => by decide
  | 60, _ => by decide
  | 61, _ => by decide
  | 62, _ => by decide
  | 63, _ => by decide
  | 64, _ => by decide
  | 65, _ => by decide
  | 66, _ => by decide
  | 67, _ => by decide
  | 68, _ => by decide
  | 69, _ => by decide
  | 70, _ => by decide
  | 71, _ => by decide
  | 72, _ => by decide
  | 73, _ => by decide
  | 74, _ => by decide
  | 75, _ => by decide
  | 76, _ => by decide
  | 77, _ => by decide
  | 78, _ => by decide
  | 79, _ => by decide
  | 80, _ => by decide
  | 81, _ => by decide
  | 82, _ => by decide
  | 83, _ => by decide
  | 84, _ => by decide
  | 85, _ => by decide
  | 86, _ => by decide
  | 87, _ => by decide
  | 88, _ => by decide
  | 89, _ => by decide
  | 90, _ => by decide
  | 91, _ => by decide
  | 92, _ => by decide
  | 93, _ => by decide
  | 94, _ => by decide
  | 95, _ => by decide
  | 96, _ => by decide
  | 97, _ => by decide
  | 98, _ => by decide
  | 99, _ => by decide
  | 100, _ => by decide
  | 101, _ => by decide
  | 102, _ => by decide
  | 103, _ => by decide
  | 104, _ => by decide
  | 105, _ => by decide
  | 106, _ => by decide
  | 107, _ => by decide
  | 108, _ => by decide
  | 109, _ => by decide
  | 110, _ => by decide
  | 111, _ => by decide
  | 112, _ => by decide
  | 113, _ => by decide
  | 114, _ => by decide
  | 115, _ => by decide
  | 116, _ => by decide
  | 117, _ => by decide
  | 118, _ => by decide
  | 119, _ => by decide
  | 120, _ => by decide
  | 121, _ => by decide
  | 122, _ => by decide
  | 123, _ => by decide
  | 124, _ => by decide
  | 125, _ => by decide
  | 126, _ => by decide
  | 127, _ => by decide
  | 128, _ => by decide
  | 129, _ => by decide
  | 130, _ => by decide
  | 131, _ => by decide
  | 132, _ => by decide
  | 133, _ => by decide
  | 134, _ => by decide
  | 135, _ => by decide
  | 136, _ => by decide
  | 137, _ => by decide
  | 138, _ => by decide
  | 139, _ => by decide
  | 140, _ => by decide
  | 141, _ => by decide
  | 142, _ => by decide
  | 143, _ => by decide
  | 144, _ => by decide
  | 145, _ => by decide
  | 146, _ => by decide
  | 147, _ => by decide
  | 148, _ => by decide
  | 149, _ => by decide
  | 150, _ => by decide
  | 151, _ => by decide
  | 152, _ => by decide
  | 153, _ => by decide
  | 154, _ => by decide
  | 155, _ => by decide
  | 156, _ => by decide
  | 157, _ => by decide
  | 158, _ => by decide
  | 159, _ => by decide
  | 160, _ => by decide
  | 161, _ => by decide
  | 162, _ => by decide
  | 163, _ => by decide
  | 164, _ => by decide
  | 165, _ => by decide
  | 166, _ => by decide
  | 167, _ => by decide
  | 168, _ => by decide
  | 169, _ => by decide
  | 170, _ => by decide
  | 171, _ => by decide
  | 172, _ => by decide
  | 173, _ => by decide
  | 174, _ => by decide
  | 175, _ => by decide
  | 176, _ => by decide
  | 177, _ => by decide
  | 178, _ => by decide
  | 179, _ => by decide
  | 180, _ => by decide
  | 181, _ => by decide
  | 182, _ => by decide
  | 183, _ => by decide
  | 184, _ => by decide
  | 185, _ => by decide
  | 186, _ => by decide
  | 187, _ => by decide
  | 188, _ => by decide
  | 189, _ => by decide
  | 190, _ => by decide
  | 191, _ => by decide
  | 192, _ => by decide
  | 193, _ => by decide
  | 194, _ => by decide
  | 195, _ => by decide
  | 196, _ => by decide
  | 197, _ => by decide
  | 198, _ => by decide
  | (k + 199), h => absurd h (by show ¬ false = true; decide)
set_option maxRecDepth 100000 in
theorem xcv68 : Jvm.Cond.codeWith (xmy 68) (xmb 68) (xml 68) (xmr 68) (xmh 68) ∈ xgw := xig_mem (p := 706) (by decide +kernel)
set_option maxRecDepth 100000 in
theorem xcv72 : Jvm.Cond.codeWith (xmy 72) (xmb 72) (xml 72) (xmr 72) (xmh 72) ∈ xgw := xig_mem (p := 740) (by decide +kernel)
set_option maxRecDepth 100000 in
theorem xcv75 : Jvm.Cond.codeWith (xmy 75) (xmb 75) (xml 75) (xmr 75) (xmh 75) ∈ xgw := xig_mem (p := 753) (by decide +kernel)
set_option maxRecDepth 100000 in
theorem xcv81 : Jvm.Cond.codeWith (xmy 81) (xmb 81) (xml 81) (xmr 81) (xmh 81) ∈ xgw := xig_mem (p := 785) (by decide +kernel)
set_option maxRecDepth 100000 in
theorem xcv85 : Jvm.Cond.codeWith (xmy 85) (xmb 85) (xml 85) (xmr 85) (xmh 85) ∈ xgw := xig_mem (p := 803) (by decide +kernel)
set_option maxRecDepth 100000 in
theorem xcv91 : Jvm.Cond.codeWith (xmy 91) (xmb 91) (xml 91) (xmr 91) (xmh 91) ∈ xgw := xig_mem (p := 832) (by decide +kernel)
set_option maxRecDepth 100000 in
theorem xcv93 : Jvm.Cond.codeWith (xmy 93) (xmb 93) (xml 93) (xmr 93) (xmh 93) ∈ xgw := xig_mem (p := 844) (by decide +kernel)
set_option maxRecDepth 100000 in
theorem xcv99 : Jvm.Cond.codeWith (xmy 99) (xmb 99) (xml 99) (xmr 99) (xmh 99) ∈ xgw := xig_mem (p := 871) (by decide +kernel)
set_option maxRecDepth 100000 in
theorem xcv102 : Jvm.Cond.codeWith (xmy 102) (xmb 102) (xml 102) (xmr 102) (xmh 102) ∈ xgw := xig_mem (p := 885) (by decide +kernel)
set_option maxRecDepth 100000 in
theorem xcv106 : Jvm.Cond.codeWith (xmy 106) (xmb 106) (xml 106) (xmr 106) (xmh 106) ∈ xgw := xig_mem (p := 904) (by decide +kernel)
set_option maxRecDepth 100000 in
theorem xcv110 : Jvm.Cond.codeWith (xmy 110) (xmb 110) (xml 110) (xmr 110) (xmh 110) ∈ xgw := xig_mem (p := 922) (by decide +kernel)
set_option maxRecDepth 100000 in
theorem xcv113 : Jvm.Cond.codeWith (xmy 113) (xmb 113) (xml 113) (xmr 113) (xmh 113) ∈ xgw := xig_mem (p := 935) (by decide +kernel)
set_option maxRecDepth 100000 in
theorem xcv121 : Jvm.Cond.codeWith (xmy 121) (xmb 121) (xml 121) (xmr 121) (xmh 121) ∈ xgw := xig_mem (p := 976) (by decide +kernel)
set_option maxRecDepth 100000 in
theorem xcv122 : Jvm.Cond.codeWith (xmy 122) (xmb 122) (xml 122) (xmr 122) (xmh 122) ∈ xgw := xig_mem (p := 980) (by decide +kernel)
set_option maxRecDepth 100000 in
theorem xcv123 : Jvm.Cond.codeWith (xmy 123) (xmb 123) (xml 123) (xmr 123) (xmh 123) ∈ xgw := xig_mem (p := 984) (by decide +kernel)
set_option maxRecDepth 100000 in
theorem xcv124 : Jvm.Cond.codeWith (xmy 124) (xmb 124) (xml 124) (xmr 124) (xmh 124) ∈ xgw := xig_mem (p := 988) (by decide +kernel)
set_option maxRecDepth 100000 in
theorem xcv125 : Jvm.Cond.codeWith (xmy 125) (xmb 125) (xml 125) (xmr 125) (xmh 125) ∈ xgw := xig_mem (p := 992) (by decide +kernel)
set_option maxRecDepth 100000 in
theorem xcv126 : Jvm.Cond.codeWith (xmy 126) (xmb 126) (xml 126) (xmr 126) (xmh 126) ∈ xgw := xig_mem (p := 996) (by decide +kernel)
set_option maxRecDepth 100000 in
theorem xcv127 : Jvm.Cond.codeWith (xmy 127) (xmb 127) (xml 127) (xmr 127) (xmh 127) ∈ xgw := xig_mem (p := 1000) (by decide +kernel)
set_option maxRecDepth 100000 in
theorem xcv128 : Jvm.Cond.codeWith (xmy 128) (xmb 128) (xml 128) (xmr 128) (xmh 128) ∈ xgw := xig_mem (p := 1004) (by decide +kernel)
set_option maxRecDepth 100000 in
theorem xcv132 : Jvm.Cond.codeWith (xmy 132) (xmb 132) (xml 132) (xmr 132) (xmh 132) ∈ xgw := xig_mem (p := 1019) (by decide +kernel)
set_option maxRecDepth 100000 in
theorem xcv135 : Jvm.Cond.codeWith (xmy 135) (xmb 135) (xml 135) (xmr 135) (xmh 135) ∈ xgw := xig_mem (p := 1031) (by decide +kernel)
theorem xcow_ok : ∀ {μ : Nat}, xcow μ = true → Jvm.Cond.codeWith (xmy μ) (xmb μ) (xml μ) (xmr μ) (xmh μ) ∈ xgw
  | 0, h => absurd h (by decide)
  | 1, h => absurd h (by decide)
  | 2, h => absurd h (by decide)
  | 3, h => absurd h (by decide)
  | 4, h => absurd h (by decide)
  | 5, h => absurd h (by decide)
  | 6, h => absurd h (by decide)
  | 7, h => absurd h (by decide)
  | 8, h => absurd h (by decide)
  | 9, h => absurd h (by decide)
  | 10, h => absurd h (by decide)
  | 11, h => absurd h (by decide)
  | 12, h => absurd h (by decide)
  | 13, h => absurd h (by decide)
  | 14, h => absurd h (by decide)
  | 15, h => absurd h (by decide)
  | 16, h => absurd h (by decide)
  | 17, h => absurd h (by decide)
  | 18, h => absurd h (by decide)
  | 19, h => absurd h (by decide)
  | 20, h => absurd h (by decide)
  | 21, h => absurd h (by decide)
  | 22, h => absurd h (by decide)
  | 23, h => absurd h (by decide)
  | 24, h => absurd h (by decide)
  | 25, h => absurd h (by decide)
  | 26, h => absurd h (by decide)
  | 27, h => absurd h (by decide)
  | 28, h => absurd h (by decide)
  | 29, h => absurd h (by decide)
  | 30, h => absurd h (by decide)
  | 31, h => absurd h (by decide)
  | 32, h => absurd h (by decide)
  | 33, h => absurd h (by decide)
  | 34, h => absurd h (by decide)
  | 35, h => absurd h (by decide)
  | 36, h => absurd h (by decide)
  | 37, h => absurd h (by decide)
  | 38, h => absurd h (by decide)
  | 39, h => absurd h (by decide)
  | 40, h => absurd h (by decide)
  | 41, h => absurd h (by decide)
  | 42, h => absurd h (by decide)
  | 43, h => absurd h (by decide)
  | 44, h => absurd h (by decide)
  | 45, h => absurd h (by decide)
  | 46, h => absurd h (by decide)
  | 47, h => absurd h (by decide)
  | 48, h => absurd h (by decide)
  | 49, h => absurd h (by decide)
  | 50, h => absurd h (by decide)
  | 51, h => absurd h (by decide)
  | 52, h => absurd h (by decide)
  | 53, h => absurd h (by decide)
  | 54, h => absurd h (by decide)
  | 55, h => absurd h (by decide)
  | 56, h => absurd h (by decide)
  | 57, h => absurd h (by decide)
  | 58, h => absurd h (by decide)
  | 59, h => absurd h (by decide)
  | 60, h => absurd h (by decide)
  | 61, h => absurd h (by decide)
  | 62, h => absurd h (by decide)
  | 63, h => absurd h (by decide)
  | 64, h => absurd h (by decide)
  | 65, h => absurd h (by decide)
  | 66, h => absurd h (by decide)
  | 67, h => absurd h (by decide)
  | 68, _ => xcv68
  | 69, h => absurd h (by decide)
  | 70, h => absurd h (by decide)
  | 71, h => absurd h (by decide)
  | 72, _ => xcv72
  | 73, h => absurd h (by decide)
  | 74, h => absurd h (by decide)
  | 75, _ => xcv75
  | 76, h => absurd h (by decide)
  | 77, h => absurd h (by decide)
  | 78, h => absurd h (by decide)
  | 79, h => absurd h (by decide)
  | 80, h => absurd h (by decide)
  | 81, _ => xcv81
  | 82, h => absurd h (by decide)
  | 83, h => absurd h (by decide)
  | 84, h => absurd h (by decide)
  | 85, _ => xcv85
  | 86, h => absurd h (by decide)
  | 87, h => absurd h (by decide)
  | 88, h => absurd h (by decide)
  | 89, h => absurd h (by decide)
  | 90, h => absurd h (by decide)
  | 91, _ => xcv91
  | 92, h => absurd h (by decide)
  | 93, _ => xcv93
  | 94, h => absurd h (by decide)
  | 95, h => absurd h (by decide)
  | 96, h => absurd h (by decide)
  | 97, h => absurd h (by decide)
  | 98, h => absurd h (by decide)
  | 99, _ => xcv99
  | 100, h => absurd h (by decide)
  | 101, h => absurd h (by decide)
  | 102, _ => xcv102
  | 103, h => absurd h (by decide)
  | 104, h => absurd h (by decide)
  | 105, h => absurd h (by decide)
  | 106, _ => xcv106
  | 107, h => absurd h (by decide)
  | 108, h => absurd h (by decide)
  | 109, h => absurd h (by decide)
  | 110, _ => xcv110
  | 111, h => absurd h (by decide)
  | 112, h => absurd h (by decide)
  | 113, _ => xcv113
  | 114, h => absurd h (by decide)
  | 115, h => absurd h (by decide)
  | 116, h => absurd h (by decide)
  | 117, h => absurd h (by decide)
  | 118, h => absurd h (by decide)
  | 119, h => absurd h (by decide)
  | 120, h => absurd h (by decide)
  | 121, _ => xcv121
  | 122, _ => xcv122
  | 123, _ => xcv123
  | 124, _ => xcv124
  | 125, _ => xcv125
  | 126, _ => xcv126
  | 127, _ => xcv127
  | 128, _ => xcv128
  | 129, h => absurd h (by decide)
  | 130, h => absurd h (by decide)
  | 131, h => absurd h (by decide)
  | 132, _ => xcv132
  | 133, h => absurd h (by decide)
  | 134, h => absurd h (by decide)
  | 135, _ => xcv135
  | 136, h => absurd h (by decide)
  | 137, h => absurd h (by decide)
  | 138, h => absurd h (by decide)
  | 139, h => absurd h (by decide)
  | 140, h => absurd h (by decide)
  | 141, h => absurd h (by decide)
  | 142, h => absurd h (by decide)
  | 143, h => absurd h (by decide)
  | 144, h => absurd h (by decide)
  | 145, h => absurd h (by decide)
  | 146, h => absurd h (by decide)
  | 147, h => absurd h (by decide)
  | 148, h => absurd h (by decide)
  | 149, h => absurd h (by decide)
  | 150, h => absurd h (by decide)
  | 151, h => absurd h (by decide)
  | 152, h => absurd h (by decide)
  | 153, h => absurd h (by decide)
  | 154, h => absurd h (by decide)
  | 155, h => absurd h (by decide)
  | 156, h => absurd h (by decide)
  | 157, h => absurd h (by decide)
  | 158, h => absurd h (by decide)
  | 159, h => absurd h (by decide)
  | 160, h => absurd h (by decide)
  | 161, h => absurd h (by decide)
  | 162, h => absurd h (by decide)
  | 163, h => absurd h (by decide)
  | 164, h => absurd h (by decide)
  | 165, h => absurd h (by decide)
  | 166, h => absurd h (by decide)
  | 167, h => absurd h (by decide)
  | 168, h => absurd h (by decide)
  | 169, h => absurd h (by decide)
  | 170, h => absurd h (by decide)
  | 171, h => absurd h (by decide)
  | 172, h => absurd h (by decide)
  | 173, h => absurd h (by decide)
  | 174, h => absurd h (by decide)
  | 175, h => absurd h (by decide)
  | 176, h => absurd h (by decide)
  | 177, h => absurd h (by decide)
  | 178, h => absurd h (by decide)
  | 179, h => absurd h (by decide)
  | 180, h => absurd h (by decide)
  | 181, h => absurd h (by decide)
  | 182, h => absurd h (by decide)
  | 183, h => absurd h (by decide)
  | 184, h => absurd h (by decide)
  | 185, h => absurd h (by decide)
  | 186, h => absurd h (by decide)
  | 187, h => absurd h (by decide)
  | 188, h => absurd h (by decide)
  | 189, h => absurd h (by decide)
  | 190, h => absurd h (by decide)
  | 191, h => absurd h (by decide)
  | 192, h => absurd h (by decide)
  | 193, h => absurd h (by decide)
  | 194, h => absurd h (by decide)
  | 195, h => absurd h (by decide)
  | 196, h => absurd h (by decide)
  | 197, h => absurd h (by decide)
  | 198, h => absurd h (by decide)
  | (k + 199), h => absurd h (by show ¬ false = true; decide)
theorem xcow_lt : ∀ {μ : Nat}, xcow μ = true → μ < xNM
  | 0, _ => by decide
  | 1, _ => by decide
  | 2, _ => by decide
  | 3, _ => by decide
  | 4, _ => by decide
  | 5, _ => by decide
  | 6, _ => by decide
  | 7, _ => by decide
  | 8, _ => by decide
  | 9, _ => by decide
  | 10, _ => by decide
  | 11, _ => by decide
  | 12, _ => by decide
  | 13, _ => by decide
  | 14, _ => by decide
  | 15, _ => by decide
  | 16, _ => by decide
  | 17, _ => by decide
  | 18, _ => by decide
  | 19, _ => by decide
  | 20, _ => by decide
  | 21, _ => by decide
  | 22, _ => by decide
  | 23, _ => by decide
  | 24, _ => by decide
  | 25, _ => by decide
  | 26, _ => by decide
  | 27, _ => by decide
  | 28, _ => by decide
  | 29, _ => by decide
  | 30, _ => by decide
  | 31, _ => by decide
  | 32, _ => by decide
  | 33, _ => by decide
  | 34, _ => by decide
  | 35, _ => by decide
  | 36, _ => by decide
  | 37, _ => by decide
  | 38, _ => by decide
  | 39, _ => by decide
  | 40, _ => by decide
  | 41, _ => by decide
  | 42, _ => by decide
  | 43, _ => by decide
  | 44, _ => by decide
  | 45, _ => by decide
  | 46, _ => by decide
  | 47, _ => by decide
  | 48, _ => by decide
  | 49, _ => by decide
  | 50, _ => by decide
  | 51, _ => by decide
  | 52, _ => by decide
  | 53, _ => by decide
  | 54, _ => by decide
  | 55, _ => by decide
  | 56, _ => by decide
  | 57, _ => by decide
  | 58, _ => by decide
  | 59, _ => by decide
  | 60, _ => by decide
  | 61, _ => by decide
  | 62, _ => by decide
  | 63, _ => by decide
  | 64, _ => by decide
  | 65, _ => by decide
  | 66, _ => by decide
  | 67, _ => by decide
  | 68, _ => by decide
  | 69, _ => by decide
  | 70, _ => by decide
  | 71, _ => by decide
  | 72, _ => by decide
  | 73, _ => by decide
  | 74, _ => by decide
  | 75, _ => by decide
  | 76, _ => by decide
  | 77, _ => by decide
  | 78, _ => by decide
  | 79, _ => by decide
  | 80, _ => by decide
  | 81, _ => by decide
  | 82, _ => by decide
  | 83, _ => by decide
  | 84, _ => by decide
  | 85, _ => by decide
  | 86, _ => by decide
  | 87, _ => by decide
  | 88, _ => by decide
  | 89, _ => by decide
  | 90, _ => by decide
  | 91, _ => by decide
  | 92, _ => by decide
  | 93, _ => by decide
  | 94, _ => by decide
  | 95, _ => by decide
  | 96, _ => by decide
  | 97, _ => by decide
  | 98, _ => by decide
  | 99, _ => by decide
  | 100, _ => by decide
  | 101, _ => by decide
  | 102, _ => by decide
  | 103, _ => by decide
  | 104, _ => by decide
  | 105, _ => by decide
  | 106, _ => by decide
  | 107, _ => by decide
  | 108, _ => by decide
  | 109, _ => by decide
  | 110, _ => by decide
  | 111, _ => by decide
  | 112, _ => by decide
  | 113, _ => by decide
  | 114, _ => by decide
  | 115, _ => by decide
  | 116, _ => by decide
  | 117, _ => by decide
  | 118, _ => by decide
  | 119, _ => by decide
  | 120, _ => by decide
  | 121, _ => by decide
  | 122, _ => by decide
  | 123, _ => by decide
  | 124, _ => by decide
  | 125, _ => by decide
  | 126, _ => by decide
  | 127, _ => by decide
  | 128, _ => by decide
  | 129, _ => by decide
  | 130, _ => by decide
  | 131, _ => by decide
  | 132, _ => by decide
  | 133, _ => by decide
  | 134, _ => by decide
  | 135, _ => by decide
  | 136, _ => by decide
  | 137, _ => by decide
  | 138, _ => by decide
  | 139, _ => by decide
  | 140, _ => by decide
  | 141, _ => by decide
  | 142, _ => by decide
  | 143, _ => by decide
  | 144, _ => by decide
  | 145, _ => by decide
  | 146, _ => by decide
  | 147, _ => by decide
  | 148, _ => by decide
  | 149, _ => by decide
  | 150, _ => by decide
  | 151, _ => by decide
  | 152, _ => by decide
  | 153, _ => by decide
  | 154, _ => by decide
  | 155, _ => by decide
  | 156, _ => by decide
  | 157, _ => by decide
  | 158, _ => by decide
  | 159, _ => by decide
  | 160, _ => by decide
  | 161, _ => by decide
  | 162, _ => by decide
  | 163, _ => by decide
  | 164, _ => by decide
  | 165, _ => by decide
  | 166, _ => by decide
  | 167, _ => by decide
  | 168, _ => by decide
  | 169, _ => by decide
  | 170, _ => by decide
  | 171, _ => by decide
  | 172, _ => by decide
  | 173, _ => by decide
  | 174, _ => by decide
  | 175, _ => by decide
  | 176, _ => by decide
  | 177, _ => by decide
  | 178, _ => by decide
  | 179, _ => by decide
  | 180, _ => by decide
  | 181, _ => by decide
  | 182, _ => by decide
  | 183, _ => by decide
  | 184, _ => by decide
  | 185, _ => by decide
  | 186, _ => by decide
  | 187, _ => by decide
  | 188, _ => by decide
  | 189, _ => by decide
  | 190, _ => by decide
  | 191, _ => by decide
  | 192, _ => by decide
  | 193, _ => by decide
  | 194, _ => by decide
  | 195, _ => by decide
  | 196, _ => by decide
  | 197, _ => by decide
  | 198, _ => by decide
  | (k + 199), h => absurd h (by show ¬ false = true; decide)
end XCW
