/-! the law's instructions and words, by program -/
theorem dl_0 : decode code 0 = .ok (.new 7, 3) := by decide +kernel
theorem dl_3 : decode code 3 = .ok (.dup, 1) := by decide +kernel
theorem dl_4 : decode code 4 = .ok (.invokespecial 9, 3) := by decide +kernel
theorem dl_7 : decode code 7 = .ok (.astore_n 1, 1) := by decide +kernel
theorem dl_8 : decode code 8 = .ok (.new 10, 3) := by decide +kernel
theorem dl_11 : decode code 11 = .ok (.dup, 1) := by decide +kernel
theorem dl_12 : decode code 12 = .ok (.invokespecial 12, 3) := by decide +kernel
theorem dl_15 : decode code 15 = .ok (.astore_n 2, 1) := by decide +kernel
theorem dl_16 : decode code 16 = .ok (.iconst 0, 1) := by decide +kernel
theorem dl_17 : decode code 17 = .ok (.istore_n 3, 1) := by decide +kernel
theorem dl_18 : decode code 18 = .ok (.iload_n 3, 1) := by decide +kernel
theorem dl_19 : decode code 19 = .ok (.aload_n 0, 1) := by decide +kernel
theorem dl_20 : decode code 20 = .ok (.arraylength, 1) := by decide +kernel
theorem dl_21 : decode code 21 = .ok (.iconst 4, 1) := by decide +kernel
theorem dl_22 : decode code 22 = .ok (.isub, 1) := by decide +kernel
theorem dl_23 : decode code 23 = .ok (.if_icmp .gt 933, 3) := by decide +kernel
theorem dl_26 : decode code 26 = .ok (.aload_n 0, 1) := by decide +kernel
theorem dl_27 : decode code 27 = .ok (.iload_n 3, 1) := by decide +kernel
theorem dl_28 : decode code 28 = .ok (.iaload, 1) := by decide +kernel
theorem dl_29 : decode code 29 = .ok (.bipush 31, 2) := by decide +kernel
theorem dl_31 : decode code 31 = .ok (.iand, 1) := by decide +kernel
theorem dl_32 : decode code 32 = .ok (.tableswitch 918 0 26 #[124, 147, 160, 173, 186, 209, 242, 275, 288, 321, 354, 387, 420, 443, 456, 489, 512, 575, 624, 657, 670, 693, 736, 795, 849, 872, 895], 124) := by decide +kernel
theorem dl_156 : decode code 156 = .ok (.aload_n 1, 1) := by decide +kernel
theorem dl_162 : decode code 162 = .ok (.invokevirtual 13, 3) := by decide +kernel
theorem dl_165 : decode code 165 = .ok (.aload_n 2, 1) := by decide +kernel
theorem dl_171 : decode code 171 = .ok (.invokevirtual 17, 3) := by decide +kernel
theorem dl_174 : decode code 174 = .ok (.if_icmp .eq 776, 3) := by decide +kernel
theorem dl_179 : decode code 179 = .ok (.aload_n 1, 1) := by decide +kernel
theorem dl_180 : decode code 180 = .ok (.invokevirtual 18, 3) := by decide +kernel
theorem dl_183 : decode code 183 = .ok (.aload_n 2, 1) := by decide +kernel
theorem dl_184 : decode code 184 = .ok (.invokevirtual 22, 3) := by decide +kernel
theorem dl_187 : decode code 187 = .ok (.if_icmp .eq 763, 3) := by decide +kernel
theorem dl_192 : decode code 192 = .ok (.aload_n 1, 1) := by decide +kernel
theorem dl_193 : decode code 193 = .ok (.invokevirtual 23, 3) := by decide +kernel
theorem dl_196 : decode code 196 = .ok (.aload_n 2, 1) := by decide +kernel
theorem dl_197 : decode code 197 = .ok (.invokevirtual 26, 3) := by decide +kernel
theorem dl_200 : decode code 200 = .ok (.if_icmp .eq 750, 3) := by decide +kernel
theorem dl_205 : decode code 205 = .ok (.aload_n 1, 1) := by decide +kernel
theorem dl_206 : decode code 206 = .ok (.invokevirtual 27, 3) := by decide +kernel
theorem dl_209 : decode code 209 = .ok (.aload_n 2, 1) := by decide +kernel
theorem dl_210 : decode code 210 = .ok (.invokevirtual 30, 3) := by decide +kernel
theorem dl_213 : decode code 213 = .ok (.if_icmp .eq 737, 3) := by decide +kernel
theorem dl_218 : decode code 218 = .ok (.aload_n 1, 1) := by decide +kernel
theorem dl_224 : decode code 224 = .ok (.invokevirtual 31, 3) := by decide +kernel
theorem dl_227 : decode code 227 = .ok (.aload_n 2, 1) := by decide +kernel
theorem dl_233 : decode code 233 = .ok (.invokevirtual 34, 3) := by decide +kernel
theorem dl_236 : decode code 236 = .ok (.if_icmp .eq 714, 3) := by decide +kernel
theorem dl_241 : decode code 241 = .ok (.aload_n 1, 1) := by decide +kernel
theorem dl_252 : decode code 252 = .ok (.invokevirtual 35, 3) := by decide +kernel
theorem dl_255 : decode code 255 = .ok (.aload_n 2, 1) := by decide +kernel
theorem dl_266 : decode code 266 = .ok (.invokevirtual 39, 3) := by decide +kernel
theorem dl_269 : decode code 269 = .ok (.if_icmp .eq 681, 3) := by decide +kernel
theorem dl_274 : decode code 274 = .ok (.aload_n 1, 1) := by decide +kernel
theorem dl_285 : decode code 285 = .ok (.invokevirtual 40, 3) := by decide +kernel
theorem dl_288 : decode code 288 = .ok (.aload_n 2, 1) := by decide +kernel
theorem dl_299 : decode code 299 = .ok (.invokevirtual 43, 3) := by decide +kernel
theorem dl_302 : decode code 302 = .ok (.if_icmp .eq 648, 3) := by decide +kernel
theorem dl_307 : decode code 307 = .ok (.aload_n 1, 1) := by decide +kernel
theorem dl_308 : decode code 308 = .ok (.invokevirtual 44, 3) := by decide +kernel
theorem dl_311 : decode code 311 = .ok (.aload_n 2, 1) := by decide +kernel
theorem dl_312 : decode code 312 = .ok (.invokevirtual 47, 3) := by decide +kernel
theorem dl_315 : decode code 315 = .ok (.if_icmp .eq 635, 3) := by decide +kernel
theorem dl_320 : decode code 320 = .ok (.aload_n 1, 1) := by decide +kernel
theorem dl_331 : decode code 331 = .ok (.invokevirtual 48, 3) := by decide +kernel
theorem dl_334 : decode code 334 = .ok (.aload_n 2, 1) := by decide +kernel
theorem dl_345 : decode code 345 = .ok (.invokevirtual 51, 3) := by decide +kernel
theorem dl_348 : decode code 348 = .ok (.if_icmp .eq 602, 3) := by decide +kernel
theorem dl_353 : decode code 353 = .ok (.aload_n 1, 1) := by decide +kernel
theorem dl_364 : decode code 364 = .ok (.invokevirtual 52, 3) := by decide +kernel
theorem dl_367 : decode code 367 = .ok (.aload_n 2, 1) := by decide +kernel
theorem dl_378 : decode code 378 = .ok (.invokevirtual 55, 3) := by decide +kernel
theorem dl_381 : decode code 381 = .ok (.if_icmp .eq 569, 3) := by decide +kernel
theorem dl_386 : decode code 386 = .ok (.aload_n 1, 1) := by decide +kernel
theorem dl_397 : decode code 397 = .ok (.invokevirtual 56, 3) := by decide +kernel
theorem dl_400 : decode code 400 = .ok (.aload_n 2, 1) := by decide +kernel
theorem dl_411 : decode code 411 = .ok (.invokevirtual 59, 3) := by decide +kernel
theorem dl_414 : decode code 414 = .ok (.if_icmp .eq 536, 3) := by decide +kernel
theorem dl_419 : decode code 419 = .ok (.aload_n 1, 1) := by decide +kernel
theorem dl_430 : decode code 430 = .ok (.invokevirtual 60, 3) := by decide +kernel
theorem dl_433 : decode code 433 = .ok (.aload_n 2, 1) := by decide +kernel
theorem dl_444 : decode code 444 = .ok (.invokevirtual 63, 3) := by decide +kernel
theorem dl_447 : decode code 447 = .ok (.if_icmp .eq 503, 3) := by decide +kernel
theorem dl_452 : decode code 452 = .ok (.aload_n 1, 1) := by decide +kernel
theorem dl_458 : decode code 458 = .ok (.invokevirtual 64, 3) := by decide +kernel
theorem dl_461 : decode code 461 = .ok (.aload_n 2, 1) := by decide +kernel
theorem dl_467 : decode code 467 = .ok (.invokevirtual 67, 3) := by decide +kernel
theorem dl_470 : decode code 470 = .ok (.if_icmp .eq 480, 3) := by decide +kernel
theorem dl_475 : decode code 475 = .ok (.aload_n 1, 1) := by decide +kernel
theorem dl_476 : decode code 476 = .ok (.invokevirtual 68, 3) := by decide +kernel
theorem dl_479 : decode code 479 = .ok (.aload_n 2, 1) := by decide +kernel
theorem dl_480 : decode code 480 = .ok (.invokevirtual 71, 3) := by decide +kernel
theorem dl_483 : decode code 483 = .ok (.if_icmp .eq 467, 3) := by decide +kernel
theorem dl_488 : decode code 488 = .ok (.aload_n 1, 1) := by decide +kernel
theorem dl_499 : decode code 499 = .ok (.invokevirtual 72, 3) := by decide +kernel
theorem dl_502 : decode code 502 = .ok (.aload_n 2, 1) := by decide +kernel
theorem dl_513 : decode code 513 = .ok (.invokevirtual 75, 3) := by decide +kernel
theorem dl_516 : decode code 516 = .ok (.if_icmp .eq 434, 3) := by decide +kernel
theorem dl_521 : decode code 521 = .ok (.aload_n 1, 1) := by decide +kernel
theorem dl_527 : decode code 527 = .ok (.invokevirtual 76, 3) := by decide +kernel
theorem dl_530 : decode code 530 = .ok (.aload_n 2, 1) := by decide +kernel
theorem dl_536 : decode code 536 = .ok (.invokevirtual 79, 3) := by decide +kernel
theorem dl_539 : decode code 539 = .ok (.if_icmp .eq 411, 3) := by decide +kernel
theorem dl_544 : decode code 544 = .ok (.aload_n 1, 1) := by decide +kernel
theorem dl_570 : decode code 570 = .ok (.invokevirtual 82, 3) := by decide +kernel
theorem dl_573 : decode code 573 = .ok (.aload_n 2, 1) := by decide +kernel
theorem dl_599 : decode code 599 = .ok (.invokevirtual 86, 3) := by decide +kernel
theorem dl_602 : decode code 602 = .ok (.if_icmp .eq 348, 3) := by decide +kernel
theorem dl_607 : decode code 607 = .ok (.aload_n 1, 1) := by decide +kernel
theorem dl_626 : decode code 626 = .ok (.invokevirtual 87, 3) := by decide +kernel
theorem dl_629 : decode code 629 = .ok (.aload_n 2, 1) := by decide +kernel
theorem dl_648 : decode code 648 = .ok (.invokevirtual 91, 3) := by decide +kernel
theorem dl_651 : decode code 651 = .ok (.if_icmp .eq 299, 3) := by decide +kernel
theorem dl_656 : decode code 656 = .ok (.aload_n 1, 1) := by decide +kernel
theorem dl_667 : decode code 667 = .ok (.invokevirtual 92, 3) := by decide +kernel
theorem dl_670 : decode code 670 = .ok (.aload_n 2, 1) := by decide +kernel
theorem dl_681 : decode code 681 = .ok (.invokevirtual 95, 3) := by decide +kernel
theorem dl_684 : decode code 684 = .ok (.if_icmp .eq 266, 3) := by decide +kernel
theorem dl_689 : decode code 689 = .ok (.aload_n 1, 1) := by decide +kernel
theorem dl_690 : decode code 690 = .ok (.invokevirtual 96, 3) := by decide +kernel
theorem dl_693 : decode code 693 = .ok (.aload_n 2, 1) := by decide +kernel
theorem dl_694 : decode code 694 = .ok (.invokevirtual 99, 3) := by decide +kernel
theorem dl_697 : decode code 697 = .ok (.if_icmp .eq 253, 3) := by decide +kernel
theorem dl_702 : decode code 702 = .ok (.aload_n 1, 1) := by decide +kernel
theorem dl_708 : decode code 708 = .ok (.invokevirtual 100, 3) := by decide +kernel
theorem dl_711 : decode code 711 = .ok (.aload_n 2, 1) := by decide +kernel
theorem dl_717 : decode code 717 = .ok (.invokevirtual 103, 3) := by decide +kernel
theorem dl_720 : decode code 720 = .ok (.if_icmp .eq 230, 3) := by decide +kernel
theorem dl_725 : decode code 725 = .ok (.aload_n 1, 1) := by decide +kernel
theorem dl_741 : decode code 741 = .ok (.invokevirtual 104, 3) := by decide +kernel
theorem dl_744 : decode code 744 = .ok (.aload_n 2, 1) := by decide +kernel
theorem dl_760 : decode code 760 = .ok (.invokevirtual 108, 3) := by decide +kernel
theorem dl_763 : decode code 763 = .ok (.if_icmp .eq 187, 3) := by decide +kernel
theorem dl_768 : decode code 768 = .ok (.aload_n 1, 1) := by decide +kernel
theorem dl_792 : decode code 792 = .ok (.invokevirtual 109, 3) := by decide +kernel
theorem dl_795 : decode code 795 = .ok (.aload_n 2, 1) := by decide +kernel
theorem dl_819 : decode code 819 = .ok (.invokevirtual 113, 3) := by decide +kernel
theorem dl_822 : decode code 822 = .ok (.if_icmp .eq 128, 3) := by decide +kernel
theorem dl_827 : decode code 827 = .ok (.aload_n 1, 1) := by decide +kernel
theorem dl_848 : decode code 848 = .ok (.invokevirtual 114, 3) := by decide +kernel
theorem dl_851 : decode code 851 = .ok (.aload_n 2, 1) := by decide +kernel
theorem dl_872 : decode code 872 = .ok (.invokevirtual 118, 3) := by decide +kernel
theorem dl_875 : decode code 875 = .ok (.lcmp, 1) := by decide +kernel
theorem dl_876 : decode code 876 = .ok (.ifCond .eq 74, 3) := by decide +kernel
theorem dl_881 : decode code 881 = .ok (.aload_n 1, 1) := by decide +kernel
theorem dl_887 : decode code 887 = .ok (.invokevirtual 119, 3) := by decide +kernel
theorem dl_890 : decode code 890 = .ok (.aload_n 2, 1) := by decide +kernel
theorem dl_896 : decode code 896 = .ok (.invokevirtual 122, 3) := by decide +kernel
theorem dl_899 : decode code 899 = .ok (.if_icmp .eq 51, 3) := by decide +kernel
theorem dl_904 : decode code 904 = .ok (.aload_n 1, 1) := by decide +kernel
theorem dl_910 : decode code 910 = .ok (.invokevirtual 123, 3) := by decide +kernel
theorem dl_913 : decode code 913 = .ok (.aload_n 2, 1) := by decide +kernel
theorem dl_919 : decode code 919 = .ok (.invokevirtual 126, 3) := by decide +kernel
theorem dl_922 : decode code 922 = .ok (.if_icmp .eq 28, 3) := by decide +kernel
theorem dl_927 : decode code 927 = .ok (.aload_n 1, 1) := by decide +kernel
theorem dl_933 : decode code 933 = .ok (.invokevirtual 127, 3) := by decide +kernel
theorem dl_936 : decode code 936 = .ok (.aload_n 2, 1) := by decide +kernel
theorem dl_942 : decode code 942 = .ok (.invokevirtual 130, 3) := by decide +kernel
theorem dl_945 : decode code 945 = .ok (.if_icmp .eq 5, 3) := by decide +kernel
theorem dl_950 : decode code 950 = .ok (.iinc 3 4, 3) := by decide +kernel
theorem dl_953 : decode code 953 = .ok (.goto (-935), 3) := by decide +kernel
theorem dl_956 : decode code 956 = .ok (.iconst 1, 1) := by decide +kernel
theorem dl_957 : decode code 957 = .ok (.ireturn, 1) := by decide +kernel
theorem dA_157 : okA 157 1 = true := by decide +kernel
theorem dA_166 : okA 166 1 = true := by decide +kernel
theorem dA_219 : okA 219 1 = true := by decide +kernel
theorem dA_228 : okA 228 1 = true := by decide +kernel
theorem dA_242 : okA 242 1 = true := by decide +kernel
theorem dA_247 : okA 247 2 = true := by decide +kernel
theorem dA_256 : okA 256 1 = true := by decide +kernel
theorem dA_261 : okA 261 2 = true := by decide +kernel
theorem dA_275 : okA 275 1 = true := by decide +kernel
theorem dA_280 : okA 280 2 = true := by decide +kernel
theorem dA_289 : okA 289 1 = true := by decide +kernel
theorem dA_294 : okA 294 2 = true := by decide +kernel
theorem dA_321 : okA 321 1 = true := by decide +kernel
theorem dA_326 : okA 326 2 = true := by decide +kernel
theorem dA_335 : okA 335 1 = true := by decide +kernel
theorem dA_340 : okA 340 2 = true := by decide +kernel
theorem dA_354 : okA 354 1 = true := by decide +kernel
theorem dA_359 : okA 359 2 = true := by decide +kernel
theorem dA_368 : okA 368 1 = true := by decide +kernel
theorem dA_373 : okA 373 2 = true := by decide +kernel
theorem dA_387 : okA 387 1 = true := by decide +kernel
theorem dA_392 : okA 392 2 = true := by decide +kernel
theorem dA_401 : okA 401 1 = true := by decide +kernel
theorem dA_406 : okA 406 2 = true := by decide +kernel
theorem dA_420 : okA 420 1 = true := by decide +kernel
theorem dA_425 : okA 425 2 = true := by decide +kernel
theorem dA_434 : okA 434 1 = true := by decide +kernel
theorem dA_439 : okA 439 2 = true := by decide +kernel
theorem dA_453 : okA 453 1 = true := by decide +kernel
theorem dA_462 : okA 462 1 = true := by decide +kernel
theorem dA_489 : okA 489 1 = true := by decide +kernel
theorem dA_494 : okA 494 2 = true := by decide +kernel
theorem dA_503 : okA 503 1 = true := by decide +kernel
theorem dA_508 : okA 508 2 = true := by decide +kernel
theorem dA_522 : okA 522 1 = true := by decide +kernel
theorem dA_531 : okA 531 1 = true := by decide +kernel
theorem dA_545 : okA 545 1 = true := by decide +kernel
theorem dA_574 : okA 574 1 = true := by decide +kernel
theorem dA_608 : okA 608 1 = true := by decide +kernel
theorem dA_613 : okA 613 2 = true := by decide +kernel
theorem dA_630 : okA 630 1 = true := by decide +kernel
theorem dA_635 : okA 635 2 = true := by decide +kernel
theorem dA_657 : okA 657 1 = true := by decide +kernel
theorem dA_662 : okA 662 2 = true := by decide +kernel
theorem dA_671 : okA 671 1 = true := by decide +kernel
theorem dA_676 : okA 676 2 = true := by decide +kernel
theorem dA_703 : okA 703 1 = true := by decide +kernel
theorem dA_712 : okA 712 1 = true := by decide +kernel
theorem dA_726 : okA 726 1 = true := by decide +kernel
theorem dA_731 : okA 731 2 = true := by decide +kernel
theorem dA_736 : okA 736 3 = true := by decide +kernel
theorem dA_745 : okA 745 1 = true := by decide +kernel
theorem dA_750 : okA 750 2 = true := by decide +kernel
theorem dA_755 : okA 755 3 = true := by decide +kernel
theorem dA_769 : okA 769 1 = true := by decide +kernel
theorem dA_774 : okA 774 2 = true := by decide +kernel
theorem dA_779 : okA 779 3 = true := by decide +kernel
theorem dA_796 : okA 796 1 = true := by decide +kernel
theorem dA_801 : okA 801 2 = true := by decide +kernel
theorem dA_806 : okA 806 3 = true := by decide +kernel
theorem dA_882 : okA 882 1 = true := by decide +kernel
theorem dA_891 : okA 891 1 = true := by decide +kernel
theorem dA_905 : okA 905 1 = true := by decide +kernel
theorem dA_914 : okA 914 1 = true := by decide +kernel
theorem dA_928 : okA 928 1 = true := by decide +kernel
theorem dA_937 : okA 937 1 = true := by decide +kernel
theorem dB_618 : okB 618 = true := by decide +kernel
theorem dB_640 : okB 640 = true := by decide +kernel
theorem dB_784 : okB 784 = true := by decide +kernel
theorem dB_811 : okB 811 = true := by decide +kernel
theorem dR_550 : okR 550 2 3 = true := by decide +kernel
theorem dR_579 : okR 579 2 3 = true := by decide +kernel
theorem dR_828 : okR 828 1 2 = true := by decide +kernel
theorem dR_852 : okR 852 1 2 = true := by decide +kernel
theorem wl_70 : LwM 70 13 1 tX7_write := ⟨rfl, List.mem_of_getElem? (i := 165) (by decide +kernel), List.mem_of_getElem? (i := 166) (by decide +kernel), List.mem_of_getElem? (i := 167) (by decide +kernel), by decide +kernel⟩
theorem wl_114 : LwM 114 17 1 tX8_write := ⟨rfl, List.mem_of_getElem? (i := 733) (by decide +kernel), List.mem_of_getElem? (i := 734) (by decide +kernel), List.mem_of_getElem? (i := 735) (by decide +kernel), by decide +kernel⟩
theorem wl_71 : LwM 71 18 0 tX7_wipe := ⟨rfl, List.mem_of_getElem? (i := 173) (by decide +kernel), List.mem_of_getElem? (i := 174) (by decide +kernel), List.mem_of_getElem? (i := 175) (by decide +kernel), by decide +kernel⟩
theorem wl_115 : LwM 115 22 0 tX8_wipe := ⟨rfl, List.mem_of_getElem? (i := 741) (by decide +kernel), List.mem_of_getElem? (i := 742) (by decide +kernel), List.mem_of_getElem? (i := 743) (by decide +kernel), by decide +kernel⟩
theorem wl_72 : LwM 72 23 0 tX7_fault := ⟨rfl, List.mem_of_getElem? (i := 181) (by decide +kernel), List.mem_of_getElem? (i := 182) (by decide +kernel), List.mem_of_getElem? (i := 183) (by decide +kernel), by decide +kernel⟩
theorem wl_121 : LwM 121 26 0 tX8_fault := ⟨rfl, List.mem_of_getElem? (i := 745) (by decide +kernel), List.mem_of_getElem? (i := 746) (by decide +kernel), List.mem_of_getElem? (i := 747) (by decide +kernel), by decide +kernel⟩
theorem wl_73 : LwM 73 27 0 tX7_manor := ⟨rfl, List.mem_of_getElem? (i := 195) (by decide +kernel), List.mem_of_getElem? (i := 196) (by decide +kernel), List.mem_of_getElem? (i := 197) (by decide +kernel), by decide +kernel⟩
theorem wl_122 : LwM 122 30 0 tX8_manor := ⟨rfl, List.mem_of_getElem? (i := 769) (by decide +kernel), List.mem_of_getElem? (i := 770) (by decide +kernel), List.mem_of_getElem? (i := 771) (by decide +kernel), by decide +kernel⟩
theorem wl_74 : LwM 74 31 1 tX7_about := ⟨rfl, List.mem_of_getElem? (i := 246) (by decide +kernel), List.mem_of_getElem? (i := 247) (by decide +kernel), List.mem_of_getElem? (i := 248) (by decide +kernel), by decide +kernel⟩
theorem wl_131 : LwM 131 34 1 tX8_about := ⟨rfl, List.mem_of_getElem? (i := 773) (by decide +kernel), List.mem_of_getElem? (i := 774) (by decide +kernel), List.mem_of_getElem? (i := 775) (by decide +kernel), by decide +kernel⟩
theorem wl_75 : LwM 75 35 2 tX7_food := ⟨rfl, List.mem_of_getElem? (i := 328) (by decide +kernel), List.mem_of_getElem? (i := 329) (by decide +kernel), List.mem_of_getElem? (i := 330) (by decide +kernel), by decide +kernel⟩
theorem wl_132 : LwM 132 39 2 tX8_food := ⟨rfl, List.mem_of_getElem? (i := 806) (by decide +kernel), List.mem_of_getElem? (i := 807) (by decide +kernel), List.mem_of_getElem? (i := 808) (by decide +kernel), by decide +kernel⟩
theorem wl_76 : LwM 76 40 2 tX7_thing := ⟨rfl, List.mem_of_getElem? (i := 350) (by decide +kernel), List.mem_of_getElem? (i := 351) (by decide +kernel), List.mem_of_getElem? (i := 352) (by decide +kernel), by decide +kernel⟩
theorem wl_134 : LwM 134 43 2 tX8_thing := ⟨rfl, List.mem_of_getElem? (i := 814) (by decide +kernel), List.mem_of_getElem? (i := 815) (by decide +kernel), List.mem_of_getElem? (i := 816) (by decide +kernel), by decide +kernel⟩
theorem wl_77 : LwM 77 44 0 tX7_quarter := ⟨rfl, List.mem_of_getElem? (i := 364) (by decide +kernel), List.mem_of_getElem? (i := 365) (by decide +kernel), List.mem_of_getElem? (i := 366) (by decide +kernel), by decide +kernel⟩
theorem wl_136 : LwM 136 47 0 tX8_quarter := ⟨rfl, List.mem_of_getElem? (i := 829) (by decide +kernel), List.mem_of_getElem? (i := 830) (by decide +kernel), List.mem_of_getElem? (i := 831) (by decide +kernel), by decide +kernel⟩
theorem wl_78 : LwM 78 48 2 tX7_put := ⟨rfl, List.mem_of_getElem? (i := 402) (by decide +kernel), List.mem_of_getElem? (i := 403) (by decide +kernel), List.mem_of_getElem? (i := 404) (by decide +kernel), by decide +kernel⟩
theorem wl_140 : LwM 140 51 2 tX8_put := ⟨rfl, List.mem_of_getElem? (i := 844) (by decide +kernel), List.mem_of_getElem? (i := 845) (by decide +kernel), List.mem_of_getElem? (i := 846) (by decide +kernel), by decide +kernel⟩
theorem wl_79 : LwM 79 52 2 tX7_eat := ⟨rfl, List.mem_of_getElem? (i := 416) (by decide +kernel), List.mem_of_getElem? (i := 417) (by decide +kernel), List.mem_of_getElem? (i := 418) (by decide +kernel), by decide +kernel⟩
theorem wl_141 : LwM 141 55 2 tX8_eat := ⟨rfl, List.mem_of_getElem? (i := 852) (by decide +kernel), List.mem_of_getElem? (i := 853) (by decide +kernel), List.mem_of_getElem? (i := 854) (by decide +kernel), by decide +kernel⟩
theorem wl_80 : LwM 80 56 2 tX7_leave := ⟨rfl, List.mem_of_getElem? (i := 424) (by decide +kernel), List.mem_of_getElem? (i := 425) (by decide +kernel), List.mem_of_getElem? (i := 426) (by decide +kernel), by decide +kernel⟩
theorem wl_142 : LwM 142 59 2 tX8_leave := ⟨rfl, List.mem_of_getElem? (i := 856) (by decide +kernel), List.mem_of_getElem? (i := 857) (by decide +kernel), List.mem_of_getElem? (i := 858) (by decide +kernel), by decide +kernel⟩
theorem wl_81 : LwM 81 60 2 tX7_move := ⟨rfl, List.mem_of_getElem? (i := 438) (by decide +kernel), List.mem_of_getElem? (i := 439) (by decide +kernel), List.mem_of_getElem? (i := 440) (by decide +kernel), by decide +kernel⟩
theorem wl_143 : LwM 143 63 2 tX8_move := ⟨rfl, List.mem_of_getElem? (i := 868) (by decide +kernel), List.mem_of_getElem? (i := 869) (by decide +kernel), List.mem_of_getElem? (i := 870) (by decide +kernel), by decide +kernel⟩
theorem wl_82 : LwM 82 64 1 tX7_sprinkle := ⟨rfl, List.mem_of_getElem? (i := 451) (by decide +kernel), List.mem_of_getElem? (i := 452) (by decide +kernel), List.mem_of_getElem? (i := 453) (by decide +kernel), by decide +kernel⟩
theorem wl_144 : LwM 144 67 1 tX8_sprinkle := ⟨rfl, List.mem_of_getElem? (i := 875) (by decide +kernel), List.mem_of_getElem? (i := 876) (by decide +kernel), List.mem_of_getElem? (i := 877) (by decide +kernel), by decide +kernel⟩
theorem wl_83 : LwM 83 68 0 tX7_undo := ⟨rfl, List.mem_of_getElem? (i := 459) (by decide +kernel), List.mem_of_getElem? (i := 460) (by decide +kernel), List.mem_of_getElem? (i := 461) (by decide +kernel), by decide +kernel⟩
theorem wl_145 : LwM 145 71 0 tX8_undo := ⟨rfl, List.mem_of_getElem? (i := 879) (by decide +kernel), List.mem_of_getElem? (i := 880) (by decide +kernel), List.mem_of_getElem? (i := 881) (by decide +kernel), by decide +kernel⟩
theorem wl_84 : LwM 84 72 2 tX7_later := ⟨rfl, List.mem_of_getElem? (i := 471) (by decide +kernel), List.mem_of_getElem? (i := 472) (by decide +kernel), List.mem_of_getElem? (i := 473) (by decide +kernel), by decide +kernel⟩
theorem wl_147 : LwM 147 75 2 tX8_later := ⟨rfl, List.mem_of_getElem? (i := 883) (by decide +kernel), List.mem_of_getElem? (i := 884) (by decide +kernel), List.mem_of_getElem? (i := 885) (by decide +kernel), by decide +kernel⟩
theorem wl_85 : LwM 85 76 1 tX7_least := ⟨rfl, List.mem_of_getElem? (i := 479) (by decide +kernel), List.mem_of_getElem? (i := 480) (by decide +kernel), List.mem_of_getElem? (i := 481) (by decide +kernel), by decide +kernel⟩
theorem wl_149 : LwM 149 79 1 tX8_least := ⟨rfl, List.mem_of_getElem? (i := 893) (by decide +kernel), List.mem_of_getElem? (i := 894) (by decide +kernel), List.mem_of_getElem? (i := 895) (by decide +kernel), by decide +kernel⟩
theorem wl_86 : LwM 86 82 2 tX7_judge := ⟨rfl, List.mem_of_getElem? (i := 504) (by decide +kernel), List.mem_of_getElem? (i := 505) (by decide +kernel), List.mem_of_getElem? (i := 506) (by decide +kernel), by decide +kernel⟩
theorem wl_154 : LwM 154 86 2 tX8_judge := ⟨rfl, List.mem_of_getElem? (i := 904) (by decide +kernel), List.mem_of_getElem? (i := 905) (by decide +kernel), List.mem_of_getElem? (i := 906) (by decide +kernel), by decide +kernel⟩
theorem wl_87 : LwM 87 87 2 tX7_share := ⟨rfl, List.mem_of_getElem? (i := 512) (by decide +kernel), List.mem_of_getElem? (i := 513) (by decide +kernel), List.mem_of_getElem? (i := 514) (by decide +kernel), by decide +kernel⟩
theorem wl_158 : LwM 158 91 2 tX8_share := ⟨rfl, List.mem_of_getElem? (i := 925) (by decide +kernel), List.mem_of_getElem? (i := 926) (by decide +kernel), List.mem_of_getElem? (i := 927) (by decide +kernel), by decide +kernel⟩
theorem wl_88 : LwM 88 92 2 tX7_say := ⟨rfl, List.mem_of_getElem? (i := 528) (by decide +kernel), List.mem_of_getElem? (i := 529) (by decide +kernel), List.mem_of_getElem? (i := 530) (by decide +kernel), by decide +kernel⟩
theorem wl_159 : LwM 159 95 2 tX8_say := ⟨rfl, List.mem_of_getElem? (i := 938) (by decide +kernel), List.mem_of_getElem? (i := 939) (by decide +kernel), List.mem_of_getElem? (i := 940) (by decide +kernel), by decide +kernel⟩
theorem wl_89 : LwM 89 96 0 tX7_unsay := ⟨rfl, List.mem_of_getElem? (i := 537) (by decide +kernel), List.mem_of_getElem? (i := 538) (by decide +kernel), List.mem_of_getElem? (i := 539) (by decide +kernel), by decide +kernel⟩
theorem wl_160 : LwM 160 99 0 tX8_unsay := ⟨rfl, List.mem_of_getElem? (i := 942) (by decide +kernel), List.mem_of_getElem? (i := 943) (by decide +kernel), List.mem_of_getElem? (i := 944) (by decide +kernel), by decide +kernel⟩
theorem wl_90 : LwM 90 100 1 tX7_lines := ⟨rfl, List.mem_of_getElem? (i := 545) (by decide +kernel), List.mem_of_getElem? (i := 546) (by decide +kernel), List.mem_of_getElem? (i := 547) (by decide +kernel), by decide +kernel⟩
theorem wl_161 : LwM 161 103 1 tX8_lines := ⟨rfl, List.mem_of_getElem? (i := 946) (by decide +kernel), List.mem_of_getElem? (i := 947) (by decide +kernel), List.mem_of_getElem? (i := 948) (by decide +kernel), by decide +kernel⟩
theorem wl_91 : LwM 91 104 3 tX7_rests := ⟨rfl, List.mem_of_getElem? (i := 562) (by decide +kernel), List.mem_of_getElem? (i := 563) (by decide +kernel), List.mem_of_getElem? (i := 564) (by decide +kernel), by decide +kernel⟩
theorem wl_162 : LwM 162 108 3 tX8_rests := ⟨rfl, List.mem_of_getElem? (i := 950) (by decide +kernel), List.mem_of_getElem? (i := 951) (by decide +kernel), List.mem_of_getElem? (i := 952) (by decide +kernel), by decide +kernel⟩
theorem wl_92 : LwM 92 109 3 tX7_stray := ⟨rfl, List.mem_of_getElem? (i := 586) (by decide +kernel), List.mem_of_getElem? (i := 587) (by decide +kernel), List.mem_of_getElem? (i := 588) (by decide +kernel), by decide +kernel⟩
theorem wl_163 : LwM 163 113 3 tX8_stray := ⟨rfl, List.mem_of_getElem? (i := 954) (by decide +kernel), List.mem_of_getElem? (i := 955) (by decide +kernel), List.mem_of_getElem? (i := 956) (by decide +kernel), by decide +kernel⟩
theorem wl_93 : LwM 93 114 1 tX7_seed := ⟨rfl, List.mem_of_getElem? (i := 594) (by decide +kernel), List.mem_of_getElem? (i := 595) (by decide +kernel), List.mem_of_getElem? (i := 596) (by decide +kernel), by decide +kernel⟩
theorem wl_164 : LwM 164 118 1 tX8_seed := ⟨rfl, List.mem_of_getElem? (i := 960) (by decide +kernel), List.mem_of_getElem? (i := 961) (by decide +kernel), List.mem_of_getElem? (i := 962) (by decide +kernel), by decide +kernel⟩
theorem wl_94 : LwM 94 119 1 tX7_years := ⟨rfl, List.mem_of_getElem? (i := 598) (by decide +kernel), List.mem_of_getElem? (i := 599) (by decide +kernel), List.mem_of_getElem? (i := 600) (by decide +kernel), by decide +kernel⟩
theorem wl_165 : LwM 165 122 1 tX8_years := ⟨rfl, List.mem_of_getElem? (i := 964) (by decide +kernel), List.mem_of_getElem? (i := 965) (by decide +kernel), List.mem_of_getElem? (i := 966) (by decide +kernel), by decide +kernel⟩
theorem wl_95 : LwM 95 123 1 tX7_keep := ⟨rfl, List.mem_of_getElem? (i := 607) (by decide +kernel), List.mem_of_getElem? (i := 608) (by decide +kernel), List.mem_of_getElem? (i := 609) (by decide +kernel), by decide +kernel⟩
theorem wl_166 : LwM 166 126 1 tX8_keep := ⟨rfl, List.mem_of_getElem? (i := 972) (by decide +kernel), List.mem_of_getElem? (i := 973) (by decide +kernel), List.mem_of_getElem? (i := 974) (by decide +kernel), by decide +kernel⟩
theorem wl_96 : LwM 96 127 1 tX7_again := ⟨rfl, List.mem_of_getElem? (i := 620) (by decide +kernel), List.mem_of_getElem? (i := 621) (by decide +kernel), List.mem_of_getElem? (i := 622) (by decide +kernel), by decide +kernel⟩
theorem wl_167 : LwM 167 130 1 tX8_again := ⟨rfl, List.mem_of_getElem? (i := 976) (by decide +kernel), List.mem_of_getElem? (i := 977) (by decide +kernel), List.mem_of_getElem? (i := 978) (by decide +kernel), by decide +kernel⟩
