/-! each method, its code in the tables -/
set_option maxRecDepth 100000 in
theorem mc_1 : Cond.code (mty 1) (mby 1) (tab 1).1 (mre 1) ∈ lw_tbl := List.mem_append_right _ (List.mem_of_getElem? (i := 27) rfl)
set_option maxRecDepth 100000 in
theorem mc_2 : Cond.code (mty 2) (mby 2) (tab 2).1 (mre 2) ∈ lw_tbl := List.mem_append_right _ (List.mem_of_getElem? (i := 35) rfl)
set_option maxRecDepth 100000 in
theorem mc_3 : Cond.code (mty 3) (mby 3) (tab 3).1 (mre 3) ∈ lw_tbl := List.mem_append_right _ (List.mem_of_getElem? (i := 43) rfl)
set_option maxRecDepth 100000 in
theorem mc_4 : Cond.code (mty 4) (mby 4) (tab 4).1 (mre 4) ∈ lw_tbl := List.mem_append_right _ (List.mem_of_getElem? (i := 101) rfl)
set_option maxRecDepth 100000 in
theorem mc_5 : Cond.code (mty 5) (mby 5) (tab 5).1 (mre 5) ∈ lw_tbl := List.mem_append_right _ (List.mem_of_getElem? (i := 143) rfl)
set_option maxRecDepth 100000 in
theorem mc_6 : Cond.code (mty 6) (mby 6) (tab 6).1 (mre 6) ∈ lw_tbl := List.mem_append_right _ (List.mem_of_getElem? (i := 153) rfl)
set_option maxRecDepth 100000 in
theorem mc_7 : Cond.code (mty 7) (mby 7) (tab 7).1 (mre 7) ∈ lw_tbl := List.mem_append_right _ (List.mem_of_getElem? (i := 159) rfl)
set_option maxRecDepth 100000 in
theorem mc_8 : Cond.code (mty 8) (mby 8) (tab 8).1 (mre 8) ∈ lw_tbl := List.mem_append_right _ (List.mem_of_getElem? (i := 223) rfl)
set_option maxRecDepth 100000 in
theorem mc_9 : Cond.code (mty 9) (mby 9) (tab 9).1 (mre 9) ∈ lw_tbl := List.mem_append_right _ (List.mem_of_getElem? (i := 256) rfl)
set_option maxRecDepth 100000 in
theorem mc_10 : Cond.code (mty 10) (mby 10) (tab 10).1 (mre 10) ∈ lw_tbl := List.mem_append_right _ (List.mem_of_getElem? (i := 352) rfl)
set_option maxRecDepth 100000 in
theorem mc_11 : Cond.code (mty 11) (mby 11) (tab 11).1 (mre 11) ∈ lw_tbl := List.mem_append_right _ (List.mem_of_getElem? (i := 357) rfl)
set_option maxRecDepth 100000 in
theorem mc_12 : Cond.code (mty 12) (mby 12) (tab 12).1 (mre 12) ∈ lw_tbl := List.mem_append_right _ (List.mem_of_getElem? (i := 362) rfl)
set_option maxRecDepth 100000 in
theorem mc_13 : Cond.code (mty 13) (mby 13) (tab 13).1 (mre 13) ∈ lw_tbl := List.mem_append_right _ (List.mem_of_getElem? (i := 366) rfl)
set_option maxRecDepth 100000 in
theorem mc_14 : Cond.code (mty 14) (mby 14) (tab 14).1 (mre 14) ∈ lw_tbl := List.mem_append_right _ (List.mem_of_getElem? (i := 369) rfl)
set_option maxRecDepth 100000 in
theorem mc_15 : Cond.code (mty 15) (mby 15) (tab 15).1 (mre 15) ∈ lw_tbl := List.mem_append_right _ (List.mem_of_getElem? (i := 372) rfl)
set_option maxRecDepth 100000 in
theorem mc_16 : Cond.code (mty 16) (mby 16) (tab 16).1 (mre 16) ∈ lw_tbl := List.mem_append_right _ (List.mem_of_getElem? (i := 376) rfl)
set_option maxRecDepth 100000 in
theorem mc_17 : Cond.code (mty 17) (mby 17) (tab 17).1 (mre 17) ∈ lw_tbl := List.mem_append_right _ (List.mem_of_getElem? (i := 380) rfl)
set_option maxRecDepth 100000 in
theorem mc_18 : Cond.code (mty 18) (mby 18) (tab 18).1 (mre 18) ∈ lw_tbl := List.mem_append_right _ (List.mem_of_getElem? (i := 384) rfl)
set_option maxRecDepth 100000 in
theorem mc_19 : Cond.code (mty 19) (mby 19) (tab 19).1 (mre 19) ∈ lw_tbl := List.mem_append_right _ (List.mem_of_getElem? (i := 388) rfl)
set_option maxRecDepth 100000 in
theorem mc_20 : Cond.code (mty 20) (mby 20) (tab 20).1 (mre 20) ∈ lw_tbl := List.mem_append_right _ (List.mem_of_getElem? (i := 392) rfl)
set_option maxRecDepth 100000 in
theorem mc_21 : Cond.code (mty 21) (mby 21) (tab 21).1 (mre 21) ∈ lw_tbl := List.mem_append_right _ (List.mem_of_getElem? (i := 396) rfl)
set_option maxRecDepth 100000 in
theorem mc_22 : Cond.code (mty 22) (mby 22) (tab 22).1 (mre 22) ∈ lw_tbl := List.mem_append_right _ (List.mem_of_getElem? (i := 399) rfl)
set_option maxRecDepth 100000 in
theorem mc_23 : Cond.code (mty 23) (mby 23) (tab 23).1 (mre 23) ∈ lw_tbl := List.mem_append_right _ (List.mem_of_getElem? (i := 402) rfl)
set_option maxRecDepth 100000 in
theorem mc_24 : Cond.code (mty 24) (mby 24) (tab 24).1 (mre 24) ∈ lw_tbl := List.mem_append_right _ (List.mem_of_getElem? (i := 405) rfl)
set_option maxRecDepth 100000 in
theorem mc_25 : Cond.code (mty 25) (mby 25) (tab 25).1 (mre 25) ∈ lw_tbl := List.mem_append_right _ (List.mem_of_getElem? (i := 409) rfl)
set_option maxRecDepth 100000 in
theorem mc_26 : Cond.code (mty 26) (mby 26) (tab 26).1 (mre 26) ∈ lw_tbl := List.mem_append_right _ (List.mem_of_getElem? (i := 412) rfl)
set_option maxRecDepth 100000 in
theorem mc_27 : Cond.code (mty 27) (mby 27) (tab 27).1 (mre 27) ∈ lw_tbl := List.mem_append_right _ (List.mem_of_getElem? (i := 415) rfl)
set_option maxRecDepth 100000 in
theorem mc_28 : Cond.code (mty 28) (mby 28) (tab 28).1 (mre 28) ∈ lw_tbl := List.mem_append_right _ (List.mem_of_getElem? (i := 419) rfl)
set_option maxRecDepth 100000 in
theorem mc_29 : Cond.code (mty 29) (mby 29) (tab 29).1 (mre 29) ∈ lw_tbl := List.mem_append_right _ (List.mem_of_getElem? (i := 424) rfl)
set_option maxRecDepth 100000 in
theorem mc_30 : Cond.code (mty 30) (mby 30) (tab 30).1 (mre 30) ∈ lw_tbl := List.mem_append_right _ (List.mem_of_getElem? (i := 428) rfl)
set_option maxRecDepth 100000 in
theorem mc_31 : Cond.code (mty 31) (mby 31) (tab 31).1 (mre 31) ∈ lw_tbl := List.mem_append_right _ (List.mem_of_getElem? (i := 434) rfl)
set_option maxRecDepth 100000 in
theorem mc_32 : Cond.code (mty 32) (mby 32) (tab 32).1 (mre 32) ∈ lw_tbl := List.mem_append_right _ (List.mem_of_getElem? (i := 438) rfl)
set_option maxRecDepth 100000 in
theorem mc_33 : Cond.code (mty 33) (mby 33) (tab 33).1 (mre 33) ∈ lw_tbl := List.mem_append_right _ (List.mem_of_getElem? (i := 444) rfl)
set_option maxRecDepth 100000 in
theorem mc_34 : Cond.code (mty 34) (mby 34) (tab 34).1 (mre 34) ∈ lw_tbl := List.mem_append_right _ (List.mem_of_getElem? (i := 448) rfl)
set_option maxRecDepth 100000 in
theorem mc_35 : Cond.code (mty 35) (mby 35) (tab 35).1 (mre 35) ∈ lw_tbl := List.mem_append_right _ (List.mem_of_getElem? (i := 452) rfl)
set_option maxRecDepth 100000 in
theorem mc_36 : Cond.code (mty 36) (mby 36) (tab 36).1 (mre 36) ∈ lw_tbl := List.mem_append_right _ (List.mem_of_getElem? (i := 458) rfl)
set_option maxRecDepth 100000 in
theorem mc_37 : Cond.code (mty 37) (mby 37) (tab 37).1 (mre 37) ∈ lw_tbl := List.mem_append_right _ (List.mem_of_getElem? (i := 462) rfl)
set_option maxRecDepth 100000 in
theorem mc_38 : Cond.code (mty 38) (mby 38) (tab 38).1 (mre 38) ∈ lw_tbl := List.mem_append_right _ (List.mem_of_getElem? (i := 465) rfl)
set_option maxRecDepth 100000 in
theorem mc_39 : Cond.code (mty 39) (mby 39) (tab 39).1 (mre 39) ∈ lw_tbl := List.mem_append_right _ (List.mem_of_getElem? (i := 468) rfl)
set_option maxRecDepth 100000 in
theorem mc_40 : Cond.code (mty 40) (mby 40) (tab 40).1 (mre 40) ∈ lw_tbl := List.mem_append_right _ (List.mem_of_getElem? (i := 473) rfl)
set_option maxRecDepth 100000 in
theorem mc_41 : Cond.code (mty 41) (mby 41) (tab 41).1 (mre 41) ∈ lw_tbl := List.mem_append_right _ (List.mem_of_getElem? (i := 496) rfl)
set_option maxRecDepth 100000 in
theorem mc_42 : Cond.code (mty 42) (mby 42) (tab 42).1 (mre 42) ∈ lw_tbl := List.mem_append_right _ (List.mem_of_getElem? (i := 504) rfl)
set_option maxRecDepth 100000 in
theorem mc_43 : Cond.code (mty 43) (mby 43) (tab 43).1 (mre 43) ∈ lw_tbl := List.mem_append_right _ (List.mem_of_getElem? (i := 508) rfl)
set_option maxRecDepth 100000 in
theorem mc_44 : Cond.code (mty 44) (mby 44) (tab 44).1 (mre 44) ∈ lw_tbl := List.mem_append_right _ (List.mem_of_getElem? (i := 512) rfl)
set_option maxRecDepth 100000 in
theorem mc_45 : Cond.code (mty 45) (mby 45) (tab 45).1 (mre 45) ∈ lw_tbl := List.mem_append_right _ (List.mem_of_getElem? (i := 518) rfl)
set_option maxRecDepth 100000 in
theorem mc_46 : Cond.code (mty 46) (mby 46) (tab 46).1 (mre 46) ∈ lw_tbl := List.mem_append_right _ (List.mem_of_getElem? (i := 524) rfl)
set_option maxRecDepth 100000 in
theorem mc_47 : Cond.code (mty 47) (mby 47) (tab 47).1 (mre 47) ∈ lw_tbl := List.mem_append_right _ (List.mem_of_getElem? (i := 528) rfl)
set_option maxRecDepth 100000 in
theorem mc_48 : Cond.code (mty 48) (mby 48) (tab 48).1 (mre 48) ∈ lw_tbl := List.mem_append_right _ (List.mem_of_getElem? (i := 532) rfl)
set_option maxRecDepth 100000 in
theorem mc_49 : Cond.code (mty 49) (mby 49) (tab 49).1 (mre 49) ∈ lw_tbl := List.mem_append_right _ (List.mem_of_getElem? (i := 536) rfl)
set_option maxRecDepth 100000 in
theorem mc_50 : Cond.code (mty 50) (mby 50) (tab 50).1 (mre 50) ∈ lw_tbl := List.mem_append_right _ (List.mem_of_getElem? (i := 540) rfl)
set_option maxRecDepth 100000 in
theorem mc_51 : Cond.code (mty 51) (mby 51) (tab 51).1 (mre 51) ∈ lw_tbl := List.mem_append_right _ (List.mem_of_getElem? (i := 547) rfl)
set_option maxRecDepth 100000 in
theorem mc_52 : Cond.code (mty 52) (mby 52) (tab 52).1 (mre 52) ∈ lw_tbl := List.mem_append_right _ (List.mem_of_getElem? (i := 552) rfl)
set_option maxRecDepth 100000 in
theorem mc_53 : Cond.code (mty 53) (mby 53) (tab 53).1 (mre 53) ∈ lw_tbl := List.mem_append_right _ (List.mem_of_getElem? (i := 556) rfl)
set_option maxRecDepth 100000 in
theorem mc_54 : Cond.code (mty 54) (mby 54) (tab 54).1 (mre 54) ∈ lw_tbl := List.mem_append_right _ (List.mem_of_getElem? (i := 559) rfl)
set_option maxRecDepth 100000 in
theorem mc_55 : Cond.code (mty 55) (mby 55) (tab 55).1 (mre 55) ∈ lw_tbl := List.mem_append_right _ (List.mem_of_getElem? (i := 563) rfl)
set_option maxRecDepth 100000 in
theorem mc_56 : Cond.code (mty 56) (mby 56) (tab 56).1 (mre 56) ∈ lw_tbl := List.mem_append_right _ (List.mem_of_getElem? (i := 575) rfl)
set_option maxRecDepth 100000 in
theorem mc_57 : Cond.code (mty 57) (mby 57) (tab 57).1 (mre 57) ∈ lw_tbl := List.mem_append_right _ (List.mem_of_getElem? (i := 601) rfl)
set_option maxRecDepth 100000 in
theorem mc_58 : Cond.code (mty 58) (mby 58) (tab 58).1 (mre 58) ∈ lw_tbl := List.mem_append_right _ (List.mem_of_getElem? (i := 606) rfl)
set_option maxRecDepth 100000 in
theorem mc_59 : Cond.code (mty 59) (mby 59) (tab 59).1 (mre 59) ∈ lw_tbl := List.mem_append_right _ (List.mem_of_getElem? (i := 609) rfl)
set_option maxRecDepth 100000 in
theorem mc_60 : Cond.code (mty 60) (mby 60) (tab 60).1 (mre 60) ∈ lw_tbl := List.mem_append_right _ (List.mem_of_getElem? (i := 612) rfl)
set_option maxRecDepth 100000 in
theorem mc_61 : Cond.code (mty 61) (mby 61) (tab 61).1 (mre 61) ∈ lw_tbl := List.mem_append_right _ (List.mem_of_getElem? (i := 616) rfl)
set_option maxRecDepth 100000 in
theorem mc_62 : Cond.code (mty 62) (mby 62) (tab 62).1 (mre 62) ∈ lw_tbl := List.mem_append_right _ (List.mem_of_getElem? (i := 621) rfl)
set_option maxRecDepth 100000 in
theorem mc_63 : Cond.code (mty 63) (mby 63) (tab 63).1 (mre 63) ∈ lw_tbl := List.mem_append_right _ (List.mem_of_getElem? (i := 626) rfl)
set_option maxRecDepth 100000 in
theorem mc_64 : Cond.code (mty 64) (mby 64) (tab 64).1 (mre 64) ∈ lw_tbl := List.mem_append_right _ (List.mem_of_getElem? (i := 630) rfl)
set_option maxRecDepth 100000 in
theorem mc_65 : Cond.code (mty 65) (mby 65) (tab 65).1 (mre 65) ∈ lw_tbl := List.mem_append_right _ (List.mem_of_getElem? (i := 634) rfl)
set_option maxRecDepth 100000 in
theorem mc_66 : Cond.code (mty 66) (mby 66) (tab 66).1 (mre 66) ∈ lw_tbl := List.mem_append_right _ (List.mem_of_getElem? (i := 640) rfl)
set_option maxRecDepth 100000 in
theorem mc_67 : Cond.code (mty 67) (mby 67) (tab 67).1 (mre 67) ∈ lw_tbl := List.mem_append_right _ (List.mem_of_getElem? (i := 644) rfl)
set_option maxRecDepth 100000 in
theorem mc_68 : Cond.code (mty 68) (mby 68) (tab 68).1 (mre 68) ∈ lw_tbl := List.mem_append_right _ (List.mem_of_getElem? (i := 648) rfl)
set_option maxRecDepth 100000 in
theorem mc_69 : Cond.code (mty 69) (mby 69) (tab 69).1 (mre 69) ∈ lw_tbl := List.mem_append_right _ (List.mem_of_getElem? (i := 652) rfl)
set_option maxRecDepth 100000 in
theorem mc_70 : Cond.code (mty 70) (mby 70) (tab 70).1 (mre 70) ∈ lw_tbl := List.mem_append_right _ (List.mem_of_getElem? (i := 656) rfl)
set_option maxRecDepth 100000 in
theorem mc_71 : Cond.code (mty 71) (mby 71) (tab 71).1 (mre 71) ∈ lw_tbl := List.mem_append_right _ (List.mem_of_getElem? (i := 660) rfl)
set_option maxRecDepth 100000 in
theorem mc_72 : Cond.code (mty 72) (mby 72) (tab 72).1 (mre 72) ∈ lw_tbl := List.mem_append_right _ (List.mem_of_getElem? (i := 664) rfl)
set_option maxRecDepth 100000 in
theorem mc_73 : Cond.code (mty 73) (mby 73) (tab 73).1 (mre 73) ∈ lw_tbl := List.mem_append_right _ (List.mem_of_getElem? (i := 668) rfl)
set_option maxRecDepth 100000 in
theorem mc_74 : Cond.code (mty 74) (mby 74) (tab 74).1 (mre 74) ∈ lw_tbl := List.mem_append_right _ (List.mem_of_getElem? (i := 672) rfl)
set_option maxRecDepth 100000 in
theorem mc_75 : Cond.code (mty 75) (mby 75) (tab 75).1 (mre 75) ∈ lw_tbl := List.mem_append_right _ (List.mem_of_getElem? (i := 676) rfl)
set_option maxRecDepth 100000 in
theorem mc_76 : Cond.code (mty 76) (mby 76) (tab 76).1 (mre 76) ∈ lw_tbl := List.mem_append_right _ (List.mem_of_getElem? (i := 680) rfl)
set_option maxRecDepth 100000 in
theorem mc_77 : Cond.code (mty 77) (mby 77) (tab 77).1 (mre 77) ∈ lw_tbl := List.mem_append_right _ (List.mem_of_getElem? (i := 685) rfl)
set_option maxRecDepth 100000 in
theorem mc_78 : Cond.code (mty 78) (mby 78) (tab 78).1 (mre 78) ∈ lw_tbl := List.mem_append_right _ (List.mem_of_getElem? (i := 690) rfl)
set_option maxRecDepth 100000 in
theorem mc_79 : Cond.code (mty 79) (mby 79) (tab 79).1 (mre 79) ∈ lw_tbl := List.mem_append_right _ (List.mem_of_getElem? (i := 694) rfl)
set_option maxRecDepth 100000 in
theorem mc_80 : Cond.code (mty 80) (mby 80) (tab 80).1 (mre 80) ∈ lw_tbl := List.mem_append_right _ (List.mem_of_getElem? (i := 698) rfl)
set_option maxRecDepth 100000 in
theorem mc_81 : Cond.code (mty 81) (mby 81) (tab 81).1 (mre 81) ∈ lw_tbl := List.mem_append_right _ (List.mem_of_getElem? (i := 702) rfl)
set_option maxRecDepth 100000 in
theorem mc_82 : Cond.code (mty 82) (mby 82) (tab 82).1 (mre 82) ∈ lw_tbl := List.mem_append_right _ (List.mem_of_getElem? (i := 709) rfl)
set_option maxRecDepth 100000 in
theorem mc_83 : Cond.code (mty 83) (mby 83) (tab 83).1 (mre 83) ∈ lw_tbl := List.mem_append_right _ (List.mem_of_getElem? (i := 713) rfl)
set_option maxRecDepth 100000 in
theorem mc_84 : Cond.code (mty 84) (mby 84) (tab 84).1 (mre 84) ∈ lw_tbl := List.mem_append_right _ (List.mem_of_getElem? (i := 717) rfl)
set_option maxRecDepth 100000 in
theorem mc_85 : Cond.code (mty 85) (mby 85) (tab 85).1 (mre 85) ∈ lw_tbl := List.mem_append_right _ (List.mem_of_getElem? (i := 721) rfl)
set_option maxRecDepth 100000 in
theorem mc_86 : Cond.code (mty 86) (mby 86) (tab 86).1 (mre 86) ∈ lw_tbl := List.mem_append_right _ (List.mem_of_getElem? (i := 725) rfl)
set_option maxRecDepth 100000 in
theorem mc_87 : Cond.code (mty 87) (mby 87) (tab 87).1 (mre 87) ∈ lw_tbl := List.mem_append_right _ (List.mem_of_getElem? (i := 729) rfl)
set_option maxRecDepth 100000 in
theorem mc_88 : Cond.code (mty 88) (mby 88) (tab 88).1 (mre 88) ∈ lw_tbl := List.mem_append_right _ (List.mem_of_getElem? (i := 733) rfl)
set_option maxRecDepth 100000 in
theorem mc_89 : Cond.code (mty 89) (mby 89) (tab 89).1 (mre 89) ∈ lw_tbl := List.mem_append_right _ (List.mem_of_getElem? (i := 741) rfl)
set_option maxRecDepth 100000 in
theorem mc_90 : Cond.code (mty 90) (mby 90) (tab 90).1 (mre 90) ∈ lw_tbl := List.mem_append_right _ (List.mem_of_getElem? (i := 745) rfl)
set_option maxRecDepth 100000 in
theorem mc_91 : Cond.code (mty 91) (mby 91) (tab 91).1 (mre 91) ∈ lw_tbl := List.mem_append_right _ (List.mem_of_getElem? (i := 750) rfl)
set_option maxRecDepth 100000 in
theorem mc_92 : Cond.code (mty 92) (mby 92) (tab 92).1 (mre 92) ∈ lw_tbl := List.mem_append_right _ (List.mem_of_getElem? (i := 754) rfl)
set_option maxRecDepth 100000 in
theorem mc_93 : Cond.code (mty 93) (mby 93) (tab 93).1 (mre 93) ∈ lw_tbl := List.mem_append_right _ (List.mem_of_getElem? (i := 758) rfl)
set_option maxRecDepth 100000 in
theorem mc_94 : Cond.code (mty 94) (mby 94) (tab 94).1 (mre 94) ∈ lw_tbl := List.mem_append_right _ (List.mem_of_getElem? (i := 761) rfl)
set_option maxRecDepth 100000 in
theorem mc_95 : Cond.code (mty 95) (mby 95) (tab 95).1 (mre 95) ∈ lw_tbl := List.mem_append_right _ (List.mem_of_getElem? (i := 765) rfl)
set_option maxRecDepth 100000 in
theorem mc_96 : Cond.code (mty 96) (mby 96) (tab 96).1 (mre 96) ∈ lw_tbl := List.mem_append_right _ (List.mem_of_getElem? (i := 771) rfl)
set_option maxRecDepth 100000 in
theorem mc_97 : Cond.code (mty 97) (mby 97) (tab 97).1 (mre 97) ∈ lw_tbl := List.mem_append_right _ (List.mem_of_getElem? (i := 777) rfl)
set_option maxRecDepth 100000 in
theorem mc_98 : Cond.code (mty 98) (mby 98) (tab 98).1 (mre 98) ∈ lw_tbl := List.mem_append_right _ (List.mem_of_getElem? (i := 781) rfl)
set_option maxRecDepth 100000 in
theorem mc_99 : Cond.code (mty 99) (mby 99) (tab 99).1 (mre 99) ∈ lw_tbl := List.mem_append_right _ (List.mem_of_getElem? (i := 787) rfl)
set_option maxRecDepth 100000 in
theorem mc_100 : Cond.code (mty 100) (mby 100) (tab 100).1 (mre 100) ∈ lw_tbl := List.mem_append_right _ (List.mem_of_getElem? (i := 791) rfl)
set_option maxRecDepth 100000 in
theorem mc_101 : Cond.code (mty 101) (mby 101) (tab 101).1 (mre 101) ∈ lw_tbl := List.mem_append_right _ (List.mem_of_getElem? (i := 797) rfl)
set_option maxRecDepth 100000 in
theorem mc_102 : Cond.code (mty 102) (mby 102) (tab 102).1 (mre 102) ∈ lw_tbl := List.mem_append_right _ (List.mem_of_getElem? (i := 801) rfl)
set_option maxRecDepth 100000 in
theorem mc_103 : Cond.code (mty 103) (mby 103) (tab 103).1 (mre 103) ∈ lw_tbl := List.mem_append_right _ (List.mem_of_getElem? (i := 805) rfl)
set_option maxRecDepth 100000 in
theorem mc_104 : Cond.code (mty 104) (mby 104) (tab 104).1 (mre 104) ∈ lw_tbl := List.mem_append_right _ (List.mem_of_getElem? (i := 809) rfl)
set_option maxRecDepth 100000 in
theorem mc_105 : Cond.code (mty 105) (mby 105) (tab 105).1 (mre 105) ∈ lw_tbl := List.mem_append_right _ (List.mem_of_getElem? (i := 813) rfl)
set_option maxRecDepth 100000 in
theorem mc_106 : Cond.code (mty 106) (mby 106) (tab 106).1 (mre 106) ∈ lw_tbl := List.mem_append_right _ (List.mem_of_getElem? (i := 817) rfl)
set_option maxRecDepth 100000 in
theorem mc_107 : Cond.code (mty 107) (mby 107) (tab 107).1 (mre 107) ∈ lw_tbl := List.mem_append_right _ (List.mem_of_getElem? (i := 824) rfl)
set_option maxRecDepth 100000 in
theorem mc_108 : Cond.code (mty 108) (mby 108) (tab 108).1 (mre 108) ∈ lw_tbl := List.mem_append_right _ (List.mem_of_getElem? (i := 828) rfl)
set_option maxRecDepth 100000 in
theorem mc_109 : Cond.code (mty 109) (mby 109) (tab 109).1 (mre 109) ∈ lw_tbl := List.mem_append_right _ (List.mem_of_getElem? (i := 834) rfl)
set_option maxRecDepth 100000 in
theorem mc_110 : Cond.code (mty 110) (mby 110) (tab 110).1 (mre 110) ∈ lw_tbl := List.mem_append_right _ (List.mem_of_getElem? (i := 838) rfl)
set_option maxRecDepth 100000 in
theorem mc_111 : Cond.code (mty 111) (mby 111) (tab 111).1 (mre 111) ∈ lw_tbl := List.mem_append_right _ (List.mem_of_getElem? (i := 842) rfl)
set_option maxRecDepth 100000 in
theorem mc_112 : Cond.code (mty 112) (mby 112) (tab 112).1 (mre 112) ∈ lw_tbl := List.mem_append_right _ (List.mem_of_getElem? (i := 848) rfl)
set_option maxRecDepth 100000 in
theorem mc_113 : Cond.code (mty 113) (mby 113) (tab 113).1 (mre 113) ∈ lw_tbl := List.mem_append_right _ (List.mem_of_getElem? (i := 853) rfl)
set_option maxRecDepth 100000 in
theorem mc_114 : Cond.code (mty 114) (mby 114) (tab 114).1 (mre 114) ∈ lw_tbl := List.mem_append_right _ (List.mem_of_getElem? (i := 857) rfl)
set_option maxRecDepth 100000 in
theorem mc_115 : Cond.code (mty 115) (mby 115) (tab 115).1 (mre 115) ∈ lw_tbl := List.mem_append_right _ (List.mem_of_getElem? (i := 861) rfl)
set_option maxRecDepth 100000 in
theorem mc_116 : Cond.code (mty 116) (mby 116) (tab 116).1 (mre 116) ∈ lw_tbl := List.mem_append_right _ (List.mem_of_getElem? (i := 865) rfl)
set_option maxRecDepth 100000 in
theorem mc_117 : Cond.code (mty 117) (mby 117) (tab 117).1 (mre 117) ∈ lw_tbl := List.mem_append_right _ (List.mem_of_getElem? (i := 869) rfl)
set_option maxRecDepth 100000 in
theorem mc_118 : Cond.code (mty 118) (mby 118) (tab 118).1 (mre 118) ∈ lw_tbl := List.mem_append_right _ (List.mem_of_getElem? (i := 873) rfl)
set_option maxRecDepth 100000 in
theorem mc_119 : Cond.code (mty 119) (mby 119) (tab 119).1 (mre 119) ∈ lw_tbl := List.mem_append_right _ (List.mem_of_getElem? (i := 878) rfl)
set_option maxRecDepth 100000 in
theorem mc_120 : Cond.code (mty 120) (mby 120) (tab 120).1 (mre 120) ∈ lw_tbl := List.mem_append_right _ (List.mem_of_getElem? (i := 882) rfl)
set_option maxRecDepth 100000 in
theorem mc_121 : Cond.code (mty 121) (mby 121) (tab 121).1 (mre 121) ∈ lw_tbl := List.mem_append_right _ (List.mem_of_getElem? (i := 888) rfl)
set_option maxRecDepth 100000 in
theorem mc_122 : Cond.code (mty 122) (mby 122) (tab 122).1 (mre 122) ∈ lw_tbl := List.mem_append_right _ (List.mem_of_getElem? (i := 892) rfl)
set_option maxRecDepth 100000 in
theorem mc_123 : Cond.code (mty 123) (mby 123) (tab 123).1 (mre 123) ∈ lw_tbl := List.mem_append_right _ (List.mem_of_getElem? (i := 896) rfl)
set_option maxRecDepth 100000 in
theorem mc_124 : Cond.code (mty 124) (mby 124) (tab 124).1 (mre 124) ∈ lw_tbl := List.mem_append_right _ (List.mem_of_getElem? (i := 900) rfl)
set_option maxRecDepth 100000 in
theorem mc_125 : Cond.code (mty 125) (mby 125) (tab 125).1 (mre 125) ∈ lw_tbl := List.mem_append_right _ (List.mem_of_getElem? (i := 906) rfl)
set_option maxRecDepth 100000 in
theorem mc_126 : Cond.code (mty 126) (mby 126) (tab 126).1 (mre 126) ∈ lw_tbl := List.mem_append_right _ (List.mem_of_getElem? (i := 910) rfl)
set_option maxRecDepth 100000 in
theorem mc_127 : Cond.code (mty 127) (mby 127) (tab 127).1 (mre 127) ∈ lw_tbl := List.mem_append_right _ (List.mem_of_getElem? (i := 915) rfl)
set_option maxRecDepth 100000 in
theorem mc_128 : Cond.code (mty 128) (mby 128) (tab 128).1 (mre 128) ∈ lw_tbl := List.mem_append_right _ (List.mem_of_getElem? (i := 918) rfl)
set_option maxRecDepth 100000 in
theorem mc_129 : Cond.code (mty 129) (mby 129) (tab 129).1 (mre 129) ∈ lw_tbl := List.mem_append_right _ (List.mem_of_getElem? (i := 921) rfl)
set_option maxRecDepth 100000 in
theorem mc_130 : Cond.code (mty 130) (mby 130) (tab 130).1 (mre 130) ∈ lw_tbl := List.mem_append_right _ (List.mem_of_getElem? (i := 925) rfl)
set_option maxRecDepth 100000 in
theorem mc_131 : Cond.code (mty 131) (mby 131) (tab 131).1 (mre 131) ∈ lw_tbl := List.mem_append_right _ (List.mem_of_getElem? (i := 929) rfl)
set_option maxRecDepth 100000 in
theorem mc_132 : Cond.code (mty 132) (mby 132) (tab 132).1 (mre 132) ∈ lw_tbl := List.mem_append_right _ (List.mem_of_getElem? (i := 933) rfl)
set_option maxRecDepth 100000 in
theorem mc_133 : Cond.code (mty 133) (mby 133) (tab 133).1 (mre 133) ∈ lw_tbl := List.mem_append_right _ (List.mem_of_getElem? (i := 938) rfl)
set_option maxRecDepth 100000 in
theorem mc_134 : Cond.code (mty 134) (mby 134) (tab 134).1 (mre 134) ∈ lw_tbl := List.mem_append_right _ (List.mem_of_getElem? (i := 942) rfl)
set_option maxRecDepth 100000 in
theorem mc_135 : Cond.code (mty 135) (mby 135) (tab 135).1 (mre 135) ∈ lw_tbl := List.mem_append_right _ (List.mem_of_getElem? (i := 945) rfl)
set_option maxRecDepth 100000 in
theorem mc_136 : Cond.code (mty 136) (mby 136) (tab 136).1 (mre 136) ∈ lw_tbl := List.mem_append_right _ (List.mem_of_getElem? (i := 950) rfl)
set_option maxRecDepth 100000 in
theorem mc_137 : Cond.code (mty 137) (mby 137) (tab 137).1 (mre 137) ∈ lw_tbl := List.mem_append_right _ (List.mem_of_getElem? (i := 954) rfl)
set_option maxRecDepth 100000 in
theorem mc_138 : Cond.code (mty 138) (mby 138) (tab 138).1 (mre 138) ∈ lw_tbl := List.mem_append_right _ (List.mem_of_getElem? (i := 959) rfl)
set_option maxRecDepth 100000 in
theorem mc_139 : Cond.code (mty 139) (mby 139) (tab 139).1 (mre 139) ∈ lw_tbl := List.mem_append_right _ (List.mem_of_getElem? (i := 963) rfl)
set_option maxRecDepth 100000 in
theorem mc_140 : Cond.code (mty 140) (mby 140) (tab 140).1 (mre 140) ∈ lw_tbl := List.mem_append_right _ (List.mem_of_getElem? (i := 967) rfl)
set_option maxRecDepth 100000 in
theorem mc_141 : Cond.code (mty 141) (mby 141) (tab 141).1 (mre 141) ∈ lw_tbl := List.mem_append_right _ (List.mem_of_getElem? (i := 971) rfl)
set_option maxRecDepth 100000 in
theorem mc_142 : Cond.code (mty 142) (mby 142) (tab 142).1 (mre 142) ∈ lw_tbl := List.mem_append_right _ (List.mem_of_getElem? (i := 975) rfl)
set_option maxRecDepth 100000 in
theorem mc_143 : Cond.code (mty 143) (mby 143) (tab 143).1 (mre 143) ∈ lw_tbl := List.mem_append_right _ (List.mem_of_getElem? (i := 979) rfl)
set_option maxRecDepth 100000 in
theorem mc_144 : Cond.code (mty 144) (mby 144) (tab 144).1 (mre 144) ∈ lw_tbl := List.mem_append_right _ (List.mem_of_getElem? (i := 983) rfl)
set_option maxRecDepth 100000 in
theorem mc_145 : Cond.code (mty 145) (mby 145) (tab 145).1 (mre 145) ∈ lw_tbl := List.mem_append_right _ (List.mem_of_getElem? (i := 987) rfl)
set_option maxRecDepth 100000 in
theorem mc_146 : Cond.code (mty 146) (mby 146) (tab 146).1 (mre 146) ∈ lw_tbl := List.mem_append_right _ (List.mem_of_getElem? (i := 991) rfl)
set_option maxRecDepth 100000 in
theorem mc_147 : Cond.code (mty 147) (mby 147) (tab 147).1 (mre 147) ∈ lw_tbl := List.mem_append_right _ (List.mem_of_getElem? (i := 995) rfl)
set_option maxRecDepth 100000 in
theorem mc_148 : Cond.code (mty 148) (mby 148) (tab 148).1 (mre 148) ∈ lw_tbl := List.mem_append_right _ (List.mem_of_getElem? (i := 999) rfl)
set_option maxRecDepth 100000 in
theorem mc_149 : Cond.code (mty 149) (mby 149) (tab 149).1 (mre 149) ∈ lw_tbl := List.mem_append_right _ (List.mem_of_getElem? (i := 1003) rfl)
set_option maxRecDepth 100000 in
theorem mc_150 : Cond.code (mty 150) (mby 150) (tab 150).1 (mre 150) ∈ lw_tbl := List.mem_append_right _ (List.mem_of_getElem? (i := 1007) rfl)
set_option maxRecDepth 100000 in
theorem mc_151 : Cond.code (mty 151) (mby 151) (tab 151).1 (mre 151) ∈ lw_tbl := List.mem_append_right _ (List.mem_of_getElem? (i := 1011) rfl)
set_option maxRecDepth 100000 in
theorem mc_152 : Cond.code (mty 152) (mby 152) (tab 152).1 (mre 152) ∈ lw_tbl := List.mem_append_right _ (List.mem_of_getElem? (i := 1015) rfl)
set_option maxRecDepth 100000 in
theorem mc_153 : Cond.code (mty 153) (mby 153) (tab 153).1 (mre 153) ∈ lw_tbl := List.mem_append_right _ (List.mem_of_getElem? (i := 1021) rfl)
set_option maxRecDepth 100000 in
theorem mc_154 : Cond.code (mty 154) (mby 154) (tab 154).1 (mre 154) ∈ lw_tbl := List.mem_append_right _ (List.mem_of_getElem? (i := 1025) rfl)
set_option maxRecDepth 100000 in
theorem mc_155 : Cond.code (mty 155) (mby 155) (tab 155).1 (mre 155) ∈ lw_tbl := List.mem_append_right _ (List.mem_of_getElem? (i := 1029) rfl)
set_option maxRecDepth 100000 in
theorem mc_156 : Cond.code (mty 156) (mby 156) (tab 156).1 (mre 156) ∈ lw_tbl := List.mem_append_right _ (List.mem_of_getElem? (i := 1033) rfl)
set_option maxRecDepth 100000 in
theorem mc_157 : Cond.code (mty 157) (mby 157) (tab 157).1 (mre 157) ∈ lw_tbl := List.mem_append_right _ (List.mem_of_getElem? (i := 1038) rfl)
set_option maxRecDepth 100000 in
theorem mc_158 : Cond.code (mty 158) (mby 158) (tab 158).1 (mre 158) ∈ lw_tbl := List.mem_append_right _ (List.mem_of_getElem? (i := 1042) rfl)
set_option maxRecDepth 100000 in
theorem mc_159 : Cond.code (mty 159) (mby 159) (tab 159).1 (mre 159) ∈ lw_tbl := List.mem_append_right _ (List.mem_of_getElem? (i := 1048) rfl)
set_option maxRecDepth 100000 in
theorem mc_160 : Cond.code (mty 160) (mby 160) (tab 160).1 (mre 160) ∈ lw_tbl := List.mem_append_right _ (List.mem_of_getElem? (i := 1052) rfl)
set_option maxRecDepth 100000 in
theorem mc_161 : Cond.code (mty 161) (mby 161) (tab 161).1 (mre 161) ∈ lw_tbl := List.mem_append_right _ (List.mem_of_getElem? (i := 1056) rfl)
set_option maxRecDepth 100000 in
theorem mc_162 : Cond.code (mty 162) (mby 162) (tab 162).1 (mre 162) ∈ lw_tbl := List.mem_append_right _ (List.mem_of_getElem? (i := 1060) rfl)
set_option maxRecDepth 100000 in
theorem mc_163 : Cond.code (mty 163) (mby 163) (tab 163).1 (mre 163) ∈ lw_tbl := List.mem_append_right _ (List.mem_of_getElem? (i := 1064) rfl)
set_option maxRecDepth 100000 in
theorem mc_164 : Cond.code (mty 164) (mby 164) (tab 164).1 (mre 164) ∈ lw_tbl := List.mem_append_right _ (List.mem_of_getElem? (i := 1068) rfl)
set_option maxRecDepth 100000 in
theorem mc_165 : Cond.code (mty 165) (mby 165) (tab 165).1 (mre 165) ∈ lw_tbl := List.mem_append_right _ (List.mem_of_getElem? (i := 1073) rfl)
set_option maxRecDepth 100000 in
theorem mc_166 : Cond.code (mty 166) (mby 166) (tab 166).1 (mre 166) ∈ lw_tbl := List.mem_append_right _ (List.mem_of_getElem? (i := 1078) rfl)
set_option maxRecDepth 100000 in
theorem mc_167 : Cond.code (mty 167) (mby 167) (tab 167).1 (mre 167) ∈ lw_tbl := List.mem_append_right _ (List.mem_of_getElem? (i := 1082) rfl)
set_option maxRecDepth 100000 in
theorem mc_168 : Cond.code (mty 168) (mby 168) (tab 168).1 (mre 168) ∈ lw_tbl := List.mem_append_right _ (List.mem_of_getElem? (i := 1088) rfl)
set_option maxRecDepth 100000 in
theorem mc_169 : Cond.code (mty 169) (mby 169) (tab 169).1 (mre 169) ∈ lw_tbl := List.mem_append_right _ (List.mem_of_getElem? (i := 1259) rfl)
set_option maxRecDepth 100000 in
theorem mc_170 : Cond.code (mty 170) (mby 170) (tab 170).1 (mre 170) ∈ lw_tbl := List.mem_append_right _ (List.mem_of_getElem? (i := 1262) rfl)
set_option maxRecDepth 100000 in
theorem mc_171 : Cond.code (mty 171) (mby 171) (tab 171).1 (mre 171) ∈ lw_tbl := List.mem_append_right _ (List.mem_of_getElem? (i := 1268) rfl)
set_option maxRecDepth 100000 in
theorem mc_172 : Cond.code (mty 172) (mby 172) (tab 172).1 (mre 172) ∈ lw_tbl := List.mem_append_right _ (List.mem_of_getElem? (i := 1272) rfl)
set_option maxRecDepth 100000 in
theorem mc_173 : Cond.code (mty 173) (mby 173) (tab 173).1 (mre 173) ∈ lw_tbl := List.mem_append_right _ (List.mem_of_getElem? (i := 1276) rfl)
set_option maxRecDepth 100000 in
theorem mc_174 : Cond.code (mty 174) (mby 174) (tab 174).1 (mre 174) ∈ lw_tbl := List.mem_append_right _ (List.mem_of_getElem? (i := 1280) rfl)
set_option maxRecDepth 100000 in
theorem mc_175 : Cond.code (mty 175) (mby 175) (tab 175).1 (mre 175) ∈ lw_tbl := List.mem_append_right _ (List.mem_of_getElem? (i := 1284) rfl)
set_option maxRecDepth 100000 in
theorem mc_176 : Cond.code (mty 176) (mby 176) (tab 176).1 (mre 176) ∈ lw_tbl := List.mem_append_right _ (List.mem_of_getElem? (i := 1288) rfl)
set_option maxRecDepth 100000 in
theorem mc_177 : Cond.code (mty 177) (mby 177) (tab 177).1 (mre 177) ∈ lw_tbl := List.mem_append_right _ (List.mem_of_getElem? (i := 1291) rfl)
set_option maxRecDepth 100000 in
theorem mc_178 : Cond.code (mty 178) (mby 178) (tab 178).1 (mre 178) ∈ lw_tbl := List.mem_append_right _ (List.mem_of_getElem? (i := 1295) rfl)
set_option maxRecDepth 100000 in
theorem mc_179 : Cond.code (mty 179) (mby 179) (tab 179).1 (mre 179) ∈ lw_tbl := List.mem_append_right _ (List.mem_of_getElem? (i := 1298) rfl)
set_option maxRecDepth 100000 in
theorem mc_180 : Cond.code (mty 180) (mby 180) (tab 180).1 (mre 180) ∈ lw_tbl := List.mem_append_right _ (List.mem_of_getElem? (i := 1325) rfl)
set_option maxRecDepth 100000 in
theorem mc_181 : Cond.code (mty 181) (mby 181) (tab 181).1 (mre 181) ∈ lw_tbl := List.mem_append_right _ (List.mem_of_getElem? (i := 1329) rfl)
set_option maxRecDepth 100000 in
theorem mc_182 : Cond.code (mty 182) (mby 182) (tab 182).1 (mre 182) ∈ lw_tbl := List.mem_append_right _ (List.mem_of_getElem? (i := 1333) rfl)
set_option maxRecDepth 100000 in
theorem mc_183 : Cond.code (mty 183) (mby 183) (tab 183).1 (mre 183) ∈ lw_tbl := List.mem_append_right _ (List.mem_of_getElem? (i := 1337) rfl)
set_option maxRecDepth 100000 in
theorem mc_184 : Cond.code (mty 184) (mby 184) (tab 184).1 (mre 184) ∈ lw_tbl := List.mem_append_right _ (List.mem_of_getElem? (i := 1341) rfl)
set_option maxRecDepth 100000 in
theorem mc_185 : Cond.code (mty 185) (mby 185) (tab 185).1 (mre 185) ∈ lw_tbl := List.mem_append_right _ (List.mem_of_getElem? (i := 1345) rfl)
set_option maxRecDepth 100000 in
theorem mc_186 : Cond.code (mty 186) (mby 186) (tab 186).1 (mre 186) ∈ lw_tbl := List.mem_append_right _ (List.mem_of_getElem? (i := 1349) rfl)
set_option maxRecDepth 100000 in
theorem mc_187 : Cond.code (mty 187) (mby 187) (tab 187).1 (mre 187) ∈ lw_tbl := List.mem_append_right _ (List.mem_of_getElem? (i := 1354) rfl)
set_option maxRecDepth 100000 in
theorem mc_188 : Cond.code (mty 188) (mby 188) (tab 188).1 (mre 188) ∈ lw_tbl := List.mem_append_right _ (List.mem_of_getElem? (i := 1357) rfl)
set_option maxRecDepth 100000 in
theorem mc_189 : Cond.code (mty 189) (mby 189) (tab 189).1 (mre 189) ∈ lw_tbl := List.mem_append_right _ (List.mem_of_getElem? (i := 1361) rfl)
set_option maxRecDepth 100000 in
theorem mc_190 : Cond.code (mty 190) (mby 190) (tab 190).1 (mre 190) ∈ lw_tbl := List.mem_append_right _ (List.mem_of_getElem? (i := 1366) rfl)
set_option maxRecDepth 100000 in
theorem mc_191 : Cond.code (mty 191) (mby 191) (tab 191).1 (mre 191) ∈ lw_tbl := List.mem_append_right _ (List.mem_of_getElem? (i := 1369) rfl)
set_option maxRecDepth 100000 in
theorem mc_192 : Cond.code (mty 192) (mby 192) (tab 192).1 (mre 192) ∈ lw_tbl := List.mem_append_right _ (List.mem_of_getElem? (i := 1373) rfl)
set_option maxRecDepth 100000 in
theorem mc_193 : Cond.code (mty 193) (mby 193) (tab 193).1 (mre 193) ∈ lw_tbl := List.mem_append_right _ (List.mem_of_getElem? (i := 1377) rfl)
set_option maxRecDepth 100000 in
theorem mc_194 : Cond.code (mty 194) (mby 194) (tab 194).1 (mre 194) ∈ lw_tbl := List.mem_append_right _ (List.mem_of_getElem? (i := 1381) rfl)
set_option maxRecDepth 100000 in
theorem mc_195 : Cond.code (mty 195) (mby 195) (tab 195).1 (mre 195) ∈ lw_tbl := List.mem_append_right _ (List.mem_of_getElem? (i := 1385) rfl)
set_option maxRecDepth 100000 in
theorem mc_196 : Cond.code (mty 196) (mby 196) (tab 196).1 (mre 196) ∈ lw_tbl := List.mem_append_right _ (List.mem_of_getElem? (i := 1389) rfl)
set_option maxRecDepth 100000 in
theorem mc_197 : Cond.code (mty 197) (mby 197) (tab 197).1 (mre 197) ∈ lw_tbl := List.mem_append_right _ (List.mem_of_getElem? (i := 1393) rfl)
set_option maxRecDepth 100000 in
theorem mc_198 : Cond.code (mty 198) (mby 198) (tab 198).1 (mre 198) ∈ lw_tbl := List.mem_append_right _ (List.mem_of_getElem? (i := 1397) rfl)
set_option maxRecDepth 100000 in
theorem mc_199 : Cond.code (mty 199) (mby 199) (tab 199).1 (mre 199) ∈ lw_tbl := List.mem_append_right _ (List.mem_of_getElem? (i := 1401) rfl)
set_option maxRecDepth 100000 in
theorem mc_200 : Cond.code (mty 200) (mby 200) (tab 200).1 (mre 200) ∈ lw_tbl := List.mem_append_right _ (List.mem_of_getElem? (i := 1405) rfl)
set_option maxRecDepth 100000 in
theorem mc_201 : Cond.code (mty 201) (mby 201) (tab 201).1 (mre 201) ∈ lw_tbl := List.mem_append_right _ (List.mem_of_getElem? (i := 1409) rfl)
set_option maxRecDepth 100000 in
theorem mc_202 : Cond.code (mty 202) (mby 202) (tab 202).1 (mre 202) ∈ lw_tbl := List.mem_append_right _ (List.mem_of_getElem? (i := 1413) rfl)
set_option maxRecDepth 100000 in
theorem mc_203 : Cond.code (mty 203) (mby 203) (tab 203).1 (mre 203) ∈ lw_tbl := List.mem_append_right _ (List.mem_of_getElem? (i := 1417) rfl)
set_option maxRecDepth 100000 in
theorem mc_204 : Cond.code (mty 204) (mby 204) (tab 204).1 (mre 204) ∈ lw_tbl := List.mem_append_right _ (List.mem_of_getElem? (i := 1421) rfl)
set_option maxRecDepth 100000 in
theorem mc_205 : Cond.code (mty 205) (mby 205) (tab 205).1 (mre 205) ∈ lw_tbl := List.mem_append_right _ (List.mem_of_getElem? (i := 1425) rfl)
set_option maxRecDepth 100000 in
theorem mc_206 : Cond.code (mty 206) (mby 206) (tab 206).1 (mre 206) ∈ lw_tbl := List.mem_append_right _ (List.mem_of_getElem? (i := 1429) rfl)
set_option maxRecDepth 100000 in
theorem mc_207 : Cond.code (mty 207) (mby 207) (tab 207).1 (mre 207) ∈ lw_tbl := List.mem_append_right _ (List.mem_of_getElem? (i := 1433) rfl)
set_option maxRecDepth 100000 in
theorem mc_208 : Cond.code (mty 208) (mby 208) (tab 208).1 (mre 208) ∈ lw_tbl := List.mem_append_right _ (List.mem_of_getElem? (i := 1436) rfl)
set_option maxRecDepth 100000 in
theorem mc_209 : Cond.code (mty 209) (mby 209) (tab 209).1 (mre 209) ∈ lw_tbl := List.mem_append_right _ (List.mem_of_getElem? (i := 1440) rfl)
set_option maxRecDepth 100000 in
theorem mc_210 : Cond.code (mty 210) (mby 210) (tab 210).1 (mre 210) ∈ lw_tbl := List.mem_append_right _ (List.mem_of_getElem? (i := 1444) rfl)
set_option maxRecDepth 100000 in
theorem mc_211 : Cond.code (mty 211) (mby 211) (tab 211).1 (mre 211) ∈ lw_tbl := List.mem_append_right _ (List.mem_of_getElem? (i := 1448) rfl)
set_option maxRecDepth 100000 in
theorem mc_212 : Cond.code (mty 212) (mby 212) (tab 212).1 (mre 212) ∈ lw_tbl := List.mem_append_right _ (List.mem_of_getElem? (i := 1452) rfl)
set_option maxRecDepth 100000 in
theorem mc_213 : Cond.code (mty 213) (mby 213) (tab 213).1 (mre 213) ∈ lw_tbl := List.mem_append_right _ (List.mem_of_getElem? (i := 1456) rfl)
set_option maxRecDepth 100000 in
theorem mc_214 : Cond.code (mty 214) (mby 214) (tab 214).1 (mre 214) ∈ lw_tbl := List.mem_append_right _ (List.mem_of_getElem? (i := 1460) rfl)
set_option maxRecDepth 100000 in
theorem mc_215 : Cond.code (mty 215) (mby 215) (tab 215).1 (mre 215) ∈ lw_tbl := List.mem_append_right _ (List.mem_of_getElem? (i := 1464) rfl)
set_option maxRecDepth 100000 in
theorem mc_216 : Cond.code (mty 216) (mby 216) (tab 216).1 (mre 216) ∈ lw_tbl := List.mem_append_right _ (List.mem_of_getElem? (i := 1468) rfl)
set_option maxRecDepth 100000 in
theorem mc_217 : Cond.code (mty 217) (mby 217) (tab 217).1 (mre 217) ∈ lw_tbl := List.mem_append_right _ (List.mem_of_getElem? (i := 1472) rfl)
set_option maxRecDepth 100000 in
theorem mc_218 : Cond.code (mty 218) (mby 218) (tab 218).1 (mre 218) ∈ lw_tbl := List.mem_append_right _ (List.mem_of_getElem? (i := 1476) rfl)
set_option maxRecDepth 100000 in
theorem mc_219 : Cond.code (mty 219) (mby 219) (tab 219).1 (mre 219) ∈ lw_tbl := List.mem_append_right _ (List.mem_of_getElem? (i := 1480) rfl)
set_option maxRecDepth 100000 in
theorem mc_220 : Cond.code (mty 220) (mby 220) (tab 220).1 (mre 220) ∈ lw_tbl := List.mem_append_right _ (List.mem_of_getElem? (i := 1486) rfl)
set_option maxRecDepth 100000 in
theorem mc_221 : Cond.code (mty 221) (mby 221) (tab 221).1 (mre 221) ∈ lw_tbl := List.mem_append_right _ (List.mem_of_getElem? (i := 1490) rfl)
set_option maxRecDepth 100000 in
theorem mc_222 : Cond.code (mty 222) (mby 222) (tab 222).1 (mre 222) ∈ lw_tbl := List.mem_append_right _ (List.mem_of_getElem? (i := 1495) rfl)
set_option maxRecDepth 100000 in
theorem mc_223 : Cond.code (mty 223) (mby 223) (tab 223).1 (mre 223) ∈ lw_tbl := List.mem_append_right _ (List.mem_of_getElem? (i := 1501) rfl)
set_option maxRecDepth 100000 in
theorem mc_224 : Cond.code (mty 224) (mby 224) (tab 224).1 (mre 224) ∈ lw_tbl := List.mem_append_right _ (List.mem_of_getElem? (i := 1505) rfl)
set_option maxRecDepth 100000 in
theorem mc_225 : Cond.code (mty 225) (mby 225) (tab 225).1 (mre 225) ∈ lw_tbl := List.mem_append_right _ (List.mem_of_getElem? (i := 1509) rfl)
set_option maxRecDepth 100000 in
theorem mc_226 : Cond.code (mty 226) (mby 226) (tab 226).1 (mre 226) ∈ lw_tbl := List.mem_append_right _ (List.mem_of_getElem? (i := 1513) rfl)
set_option maxRecDepth 100000 in
theorem mc_227 : Cond.code (mty 227) (mby 227) (tab 227).1 (mre 227) ∈ lw_tbl := List.mem_append_right _ (List.mem_of_getElem? (i := 1517) rfl)
set_option maxRecDepth 100000 in
theorem mc_228 : Cond.code (mty 228) (mby 228) (tab 228).1 (mre 228) ∈ lw_tbl := List.mem_append_right _ (List.mem_of_getElem? (i := 1521) rfl)
set_option maxRecDepth 100000 in
theorem mc_229 : Cond.code (mty 229) (mby 229) (tab 229).1 (mre 229) ∈ lw_tbl := List.mem_append_right _ (List.mem_of_getElem? (i := 1525) rfl)
set_option maxRecDepth 100000 in
theorem mc_230 : Cond.code (mty 230) (mby 230) (tab 230).1 (mre 230) ∈ lw_tbl := List.mem_append_right _ (List.mem_of_getElem? (i := 1529) rfl)
set_option maxRecDepth 100000 in
theorem mc_231 : Cond.code (mty 231) (mby 231) (tab 231).1 (mre 231) ∈ lw_tbl := List.mem_append_right _ (List.mem_of_getElem? (i := 1533) rfl)
set_option maxRecDepth 100000 in
theorem mc_232 : Cond.code (mty 232) (mby 232) (tab 232).1 (mre 232) ∈ lw_tbl := List.mem_append_right _ (List.mem_of_getElem? (i := 1537) rfl)
set_option maxRecDepth 100000 in
theorem mc_233 : Cond.code (mty 233) (mby 233) (tab 233).1 (mre 233) ∈ lw_tbl := List.mem_append_right _ (List.mem_of_getElem? (i := 1541) rfl)
set_option maxRecDepth 100000 in
theorem mc_234 : Cond.code (mty 234) (mby 234) (tab 234).1 (mre 234) ∈ lw_tbl := List.mem_append_right _ (List.mem_of_getElem? (i := 1545) rfl)
set_option maxRecDepth 100000 in
theorem mc_235 : Cond.code (mty 235) (mby 235) (tab 235).1 (mre 235) ∈ lw_tbl := List.mem_append_right _ (List.mem_of_getElem? (i := 1549) rfl)
set_option maxRecDepth 100000 in
theorem mc_236 : Cond.code (mty 236) (mby 236) (tab 236).1 (mre 236) ∈ lw_tbl := List.mem_append_right _ (List.mem_of_getElem? (i := 1553) rfl)
set_option maxRecDepth 100000 in
theorem mc_237 : Cond.code (mty 237) (mby 237) (tab 237).1 (mre 237) ∈ lw_tbl := List.mem_append_right _ (List.mem_of_getElem? (i := 1557) rfl)
set_option maxRecDepth 100000 in
theorem mc_238 : Cond.code (mty 238) (mby 238) (tab 238).1 (mre 238) ∈ lw_tbl := List.mem_append_right _ (List.mem_of_getElem? (i := 1561) rfl)
set_option maxRecDepth 100000 in
theorem mc_239 : Cond.code (mty 239) (mby 239) (tab 239).1 (mre 239) ∈ lw_tbl := List.mem_append_right _ (List.mem_of_getElem? (i := 1565) rfl)
set_option maxRecDepth 100000 in
theorem mc_240 : Cond.code (mty 240) (mby 240) (tab 240).1 (mre 240) ∈ lw_tbl := List.mem_append_right _ (List.mem_of_getElem? (i := 1569) rfl)
set_option maxRecDepth 100000 in
theorem mc_241 : Cond.code (mty 241) (mby 241) (tab 241).1 (mre 241) ∈ lw_tbl := List.mem_append_right _ (List.mem_of_getElem? (i := 1573) rfl)
set_option maxRecDepth 100000 in
theorem mc_242 : Cond.code (mty 242) (mby 242) (tab 242).1 (mre 242) ∈ lw_tbl := List.mem_append_right _ (List.mem_of_getElem? (i := 1577) rfl)
set_option maxRecDepth 100000 in
theorem mc_243 : Cond.code (mty 243) (mby 243) (tab 243).1 (mre 243) ∈ lw_tbl := List.mem_append_right _ (List.mem_of_getElem? (i := 1581) rfl)
set_option maxRecDepth 100000 in
theorem mc_244 : Cond.code (mty 244) (mby 244) (tab 244).1 (mre 244) ∈ lw_tbl := List.mem_append_right _ (List.mem_of_getElem? (i := 1585) rfl)
set_option maxRecDepth 100000 in
theorem mc_245 : Cond.code (mty 245) (mby 245) (tab 245).1 (mre 245) ∈ lw_tbl := List.mem_append_right _ (List.mem_of_getElem? (i := 1589) rfl)
set_option maxRecDepth 100000 in
theorem mc_246 : Cond.code (mty 246) (mby 246) (tab 246).1 (mre 246) ∈ lw_tbl := List.mem_append_right _ (List.mem_of_getElem? (i := 1593) rfl)
set_option maxRecDepth 100000 in
theorem mc_247 : Cond.code (mty 247) (mby 247) (tab 247).1 (mre 247) ∈ lw_tbl := List.mem_append_right _ (List.mem_of_getElem? (i := 1597) rfl)
set_option maxRecDepth 100000 in
theorem mc_248 : Cond.code (mty 248) (mby 248) (tab 248).1 (mre 248) ∈ lw_tbl := List.mem_append_right _ (List.mem_of_getElem? (i := 1601) rfl)
set_option maxRecDepth 100000 in
theorem mc_249 : Cond.code (mty 249) (mby 249) (tab 249).1 (mre 249) ∈ lw_tbl := List.mem_append_right _ (List.mem_of_getElem? (i := 1605) rfl)
set_option maxRecDepth 100000 in
theorem mc_250 : Cond.code (mty 250) (mby 250) (tab 250).1 (mre 250) ∈ lw_tbl := List.mem_append_right _ (List.mem_of_getElem? (i := 1609) rfl)
set_option maxRecDepth 100000 in
theorem mc_251 : Cond.code (mty 251) (mby 251) (tab 251).1 (mre 251) ∈ lw_tbl := List.mem_append_right _ (List.mem_of_getElem? (i := 1613) rfl)
set_option maxRecDepth 100000 in
theorem mc_252 : Cond.code (mty 252) (mby 252) (tab 252).1 (mre 252) ∈ lw_tbl := List.mem_append_right _ (List.mem_of_getElem? (i := 1617) rfl)
set_option maxRecDepth 100000 in
theorem mc_253 : Cond.code (mty 253) (mby 253) (tab 253).1 (mre 253) ∈ lw_tbl := List.mem_append_right _ (List.mem_of_getElem? (i := 1621) rfl)
set_option maxRecDepth 100000 in
theorem mc_254 : Cond.code (mty 254) (mby 254) (tab 254).1 (mre 254) ∈ lw_tbl := List.mem_append_right _ (List.mem_of_getElem? (i := 1625) rfl)
set_option maxRecDepth 100000 in
theorem mc_255 : Cond.code (mty 255) (mby 255) (tab 255).1 (mre 255) ∈ lw_tbl := List.mem_append_right _ (List.mem_of_getElem? (i := 1629) rfl)
set_option maxRecDepth 100000 in
theorem mc_256 : Cond.code (mty 256) (mby 256) (tab 256).1 (mre 256) ∈ lw_tbl := List.mem_append_right _ (List.mem_of_getElem? (i := 1633) rfl)
set_option maxRecDepth 100000 in
theorem mc_257 : Cond.code (mty 257) (mby 257) (tab 257).1 (mre 257) ∈ lw_tbl := List.mem_append_right _ (List.mem_of_getElem? (i := 1637) rfl)
set_option maxRecDepth 100000 in
theorem mc_258 : Cond.code (mty 258) (mby 258) (tab 258).1 (mre 258) ∈ lw_tbl := List.mem_append_right _ (List.mem_of_getElem? (i := 1641) rfl)
set_option maxRecDepth 100000 in
theorem mc_259 : Cond.code (mty 259) (mby 259) (tab 259).1 (mre 259) ∈ lw_tbl := List.mem_append_right _ (List.mem_of_getElem? (i := 1645) rfl)
