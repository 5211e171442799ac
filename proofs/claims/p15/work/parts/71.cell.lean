theorem wd_45 : Cond.initialized "WorkHallLaw" ∈ gW := gw_mem 45 (by decide +kernel) rfl
theorem wd_63 : Cond.classLink "WorkHallLaw" 8 "WorkHall" ∈ gW := gw_mem 63 (by decide +kernel) rfl
theorem wd_64 : Cond.instantiable "WorkHall" 12 ∈ gW := gw_mem 64 (by decide +kernel) rfl
theorem wd_65 : Cond.methodLink "WorkHallLaw" 77 ⟨"WorkHall", "<init>", "(IIII)V"⟩ ∈ gW := gw_mem 65 (by decide +kernel) rfl
theorem wd_66 : Cond.instanceMethod ⟨"WorkHall", "<init>", "(IIII)V"⟩ ∈ gW := gw_mem 66 (by decide +kernel) rfl
theorem wd_67 : Cond.code ⟨"WorkHall", "<init>", "(IIII)V"⟩ prog_1_method_1_code 5 none ∈ gW := gw_mem 67 (by decide +kernel) rfl
theorem wd_209 : Cond.methodLink "WorkHallLaw" 71 ⟨"WorkHallLaw", "cell", "([II)I"⟩ ∈ gW := gw_mem 209 (by decide +kernel) rfl
theorem wd_210 : Cond.static ⟨"WorkHallLaw", "cell", "([II)I"⟩ ∈ gW := gw_mem 210 (by decide +kernel) rfl
theorem wd_211 : Cond.code ⟨"WorkHallLaw", "cell", "([II)I"⟩ method_2_code 2 (some .int) ∈ gW := gw_mem 211 (by decide +kernel) rfl
theorem wd_212 : Cond.methodLink "WorkHallLaw" 83 ⟨"WorkHallLaw", "job", "(LWorkHall;IIII[J)I"⟩ ∈ gW := gw_mem 212 (by decide +kernel) rfl
theorem wd_213 : Cond.static ⟨"WorkHallLaw", "job", "(LWorkHall;IIII[J)I"⟩ ∈ gW := gw_mem 213 (by decide +kernel) rfl
theorem wd_214 : Cond.codeWith ⟨"WorkHallLaw", "job", "(LWorkHall;IIII[J)I"⟩ method_3_code 7 (some .int) [(0, 14, 17, 13), (0, 14, 21, 15)] ∈ gW := gw_mem 214 (by decide +kernel) rfl
theorem wd_355 : Cond.methodLink "WorkHallLaw" 87 ⟨"WorkHallLaw", "submit", "(LWorkHall;I[J)I"⟩ ∈ gW := gw_mem 355 (by decide +kernel) rfl
theorem wd_356 : Cond.static ⟨"WorkHallLaw", "submit", "(LWorkHall;I[J)I"⟩ ∈ gW := gw_mem 356 (by decide +kernel) rfl
theorem wd_357 : Cond.codeWith ⟨"WorkHallLaw", "submit", "(LWorkHall;I[J)I"⟩ method_4_code 4 (some .int) [(0, 9, 12, 13), (0, 9, 15, 21), (0, 9, 18, 15), (0, 9, 21, 23)] ∈ gW := gw_mem 357 (by decide +kernel) rfl
theorem wd_475 : Cond.methodLink "WorkHallLaw" 91 ⟨"WorkHallLaw", "then", "(LWorkHall;II[J)I"⟩ ∈ gW := gw_mem 475 (by decide +kernel) rfl
theorem wd_476 : Cond.static ⟨"WorkHallLaw", "then", "(LWorkHall;II[J)I"⟩ ∈ gW := gw_mem 476 (by decide +kernel) rfl
theorem wd_477 : Cond.codeWith ⟨"WorkHallLaw", "then", "(LWorkHall;II[J)I"⟩ method_5_code 5 (some .int) [(0, 10, 13, 13), (0, 10, 17, 21), (0, 10, 21, 15)] ∈ gW := gw_mem 477 (by decide +kernel) rfl
theorem wd_488 : Cond.methodLink "WorkHallLaw" 95 ⟨"WorkHallLaw", "step", "(LWorkHall;I[J)I"⟩ ∈ gW := gw_mem 488 (by decide +kernel) rfl
theorem wd_489 : Cond.static ⟨"WorkHallLaw", "step", "(LWorkHall;I[J)I"⟩ ∈ gW := gw_mem 489 (by decide +kernel) rfl
theorem wd_490 : Cond.codeWith ⟨"WorkHallLaw", "step", "(LWorkHall;I[J)I"⟩ method_6_code 4 (some .int) [(0, 9, 12, 13)] ∈ gW := gw_mem 490 (by decide +kernel) rfl
theorem wd_533 : Cond.methodLink "WorkHallLaw" 98 ⟨"WorkHallLaw", "cancel", "(LWorkHall;IZ[J)I"⟩ ∈ gW := gw_mem 533 (by decide +kernel) rfl
theorem wd_534 : Cond.static ⟨"WorkHallLaw", "cancel", "(LWorkHall;IZ[J)I"⟩ ∈ gW := gw_mem 534 (by decide +kernel) rfl
theorem wd_535 : Cond.codeWith ⟨"WorkHallLaw", "cancel", "(LWorkHall;IZ[J)I"⟩ method_7_code 5 (some .int) [(0, 10, 13, 13), (0, 10, 17, 21), (0, 10, 21, 23)] ∈ gW := gw_mem 535 (by decide +kernel) rfl
theorem wd_546 : Cond.methodLink "WorkHallLaw" 102 ⟨"WorkHallLaw", "get", "(LWorkHall;I[J)I"⟩ ∈ gW := gw_mem 546 (by decide +kernel) rfl
theorem wd_547 : Cond.static ⟨"WorkHallLaw", "get", "(LWorkHall;I[J)I"⟩ ∈ gW := gw_mem 547 (by decide +kernel) rfl
theorem wd_548 : Cond.codeWith ⟨"WorkHallLaw", "get", "(LWorkHall;I[J)I"⟩ method_8_code 4 (some .int) [(0, 9, 12, 13), (0, 9, 15, 21), (0, 9, 18, 15), (0, 9, 21, 23), (0, 9, 24, 39), (0, 9, 27, 41)] ∈ gW := gw_mem 548 (by decide +kernel) rfl
theorem wd_590 : Cond.methodLink "WorkHallLaw" 107 ⟨"WorkHallLaw", "clock", "(LWorkHall;IDD[J)I"⟩ ∈ gW := gw_mem 590 (by decide +kernel) rfl
theorem wd_591 : Cond.static ⟨"WorkHallLaw", "clock", "(LWorkHall;IDD[J)I"⟩ ∈ gW := gw_mem 591 (by decide +kernel) rfl
theorem wd_592 : Cond.codeWith ⟨"WorkHallLaw", "clock", "(LWorkHall;IDD[J)I"⟩ method_9_code 8 (some .int) [(0, 13, 16, 13), (0, 13, 20, 21), (0, 13, 24, 15)] ∈ gW := gw_mem 592 (by decide +kernel) rfl
theorem wd_605 : Cond.methodLink "WorkHallLaw" 111 ⟨"WorkHallLaw", "tick", "(LWorkHall;D[J)I"⟩ ∈ gW := gw_mem 605 (by decide +kernel) rfl
theorem wd_606 : Cond.static ⟨"WorkHallLaw", "tick", "(LWorkHall;D[J)I"⟩ ∈ gW := gw_mem 606 (by decide +kernel) rfl
theorem wd_607 : Cond.codeWith ⟨"WorkHallLaw", "tick", "(LWorkHall;D[J)I"⟩ method_10_code 5 (some .int) [(0, 9, 12, 13)] ∈ gW := gw_mem 607 (by decide +kernel) rfl
theorem wd_634 : Cond.methodLink "WorkHallLaw" 115 ⟨"WorkHallLaw", "shut", "(LWorkHall;Z[J)I"⟩ ∈ gW := gw_mem 634 (by decide +kernel) rfl
theorem wd_635 : Cond.static ⟨"WorkHallLaw", "shut", "(LWorkHall;Z[J)I"⟩ ∈ gW := gw_mem 635 (by decide +kernel) rfl
theorem wd_636 : Cond.codeWith ⟨"WorkHallLaw", "shut", "(LWorkHall;Z[J)I"⟩ method_11_code 4 (some .int) [(0, 9, 12, 15)] ∈ gW := gw_mem 636 (by decide +kernel) rfl
theorem wd_651 : Cond.methodLink "WorkHallLaw" 119 ⟨"WorkHallLaw", "about", "(LWorkHall;II[J)I"⟩ ∈ gW := gw_mem 651 (by decide +kernel) rfl
theorem wd_652 : Cond.static ⟨"WorkHallLaw", "about", "(LWorkHall;II[J)I"⟩ ∈ gW := gw_mem 652 (by decide +kernel) rfl
theorem wd_653 : Cond.codeWith ⟨"WorkHallLaw", "about", "(LWorkHall;II[J)I"⟩ method_12_code 5 (some .int) [(0, 10, 13, 13), (0, 10, 17, 21)] ∈ gW := gw_mem 653 (by decide +kernel) rfl
theorem wd_662 : Cond.methodLink "WorkHallLaw" 122 ⟨"WorkHallLaw", "worker", "(LWorkHall;I[J)I"⟩ ∈ gW := gw_mem 662 (by decide +kernel) rfl
theorem wd_663 : Cond.static ⟨"WorkHallLaw", "worker", "(LWorkHall;I[J)I"⟩ ∈ gW := gw_mem 663 (by decide +kernel) rfl
theorem wd_664 : Cond.codeWith ⟨"WorkHallLaw", "worker", "(LWorkHall;I[J)I"⟩ method_13_code 4 (some .int) [(0, 9, 12, 21)] ∈ gW := gw_mem 664 (by decide +kernel) rfl
theorem wd_670 : Cond.methodLink "WorkHallLaw" 125 ⟨"WorkHallLaw", "count", "(LWorkHall;I[J)I"⟩ ∈ gW := gw_mem 670 (by decide +kernel) rfl
theorem wd_671 : Cond.static ⟨"WorkHallLaw", "count", "(LWorkHall;I[J)I"⟩ ∈ gW := gw_mem 671 (by decide +kernel) rfl
theorem wd_672 : Cond.codeWith ⟨"WorkHallLaw", "count", "(LWorkHall;I[J)I"⟩ method_14_code 4 (some .int) [(0, 9, 12, 13)] ∈ gW := gw_mem 672 (by decide +kernel) rfl
theorem wd_677 : Cond.methodLink "WorkHallLaw" 128 ⟨"WorkHallLaw", "delay", "(LWorkHall;[D)I"⟩ ∈ gW := gw_mem 677 (by decide +kernel) rfl
theorem wd_678 : Cond.static ⟨"WorkHallLaw", "delay", "(LWorkHall;[D)I"⟩ ∈ gW := gw_mem 678 (by decide +kernel) rfl
theorem wd_679 : Cond.codeWith ⟨"WorkHallLaw", "delay", "(LWorkHall;[D)I"⟩ method_15_code 3 (some .int) [(0, 7, 10, 41)] ∈ gW := gw_mem 679 (by decide +kernel) rfl
theorem wd_685 : Cond.methodLink "WorkHallLaw" 132 ⟨"WorkHallLaw", "due", "(LWorkHall;[D)I"⟩ ∈ gW := gw_mem 685 (by decide +kernel) rfl
theorem wd_686 : Cond.static ⟨"WorkHallLaw", "due", "(LWorkHall;[D)I"⟩ ∈ gW := gw_mem 686 (by decide +kernel) rfl
theorem wd_687 : Cond.codeWith ⟨"WorkHallLaw", "due", "(LWorkHall;[D)I"⟩ method_16_code 3 (some .int) [(0, 7, 10, 21)] ∈ gW := gw_mem 687 (by decide +kernel) rfl
theorem wd_693 : Cond.classLink "WorkHallLaw" 80 "WorkHallModel" ∈ gW := gw_mem 693 (by decide +kernel) rfl
theorem wd_694 : Cond.instantiable "WorkHallModel" 36 ∈ gW := gw_mem 694 (by decide +kernel) rfl
theorem wd_695 : Cond.methodLink "WorkHallLaw" 82 ⟨"WorkHallModel", "<init>", "(IIII)V"⟩ ∈ gW := gw_mem 695 (by decide +kernel) rfl
theorem wd_696 : Cond.instanceMethod ⟨"WorkHallModel", "<init>", "(IIII)V"⟩ ∈ gW := gw_mem 696 (by decide +kernel) rfl
theorem wd_697 : Cond.code ⟨"WorkHallModel", "<init>", "(IIII)V"⟩ prog_8_method_1_code 5 none ∈ gW := gw_mem 697 (by decide +kernel) rfl
theorem wd_813 : Cond.methodLink "WorkHallLaw" 135 ⟨"WorkHallModel", "thrown", "()I"⟩ ∈ gW := gw_mem 813 (by decide +kernel) rfl
theorem wd_814 : Cond.instanceMethod ⟨"WorkHallModel", "thrown", "()I"⟩ ∈ gW := gw_mem 814 (by decide +kernel) rfl
theorem wd_815 : Cond.selects "WorkHallModel" ⟨"WorkHallModel", "thrown", "()I"⟩ ⟨"WorkHallModel", "thrown", "()I"⟩ ∈ gW := gw_mem 815 (by decide +kernel) rfl
theorem wd_816 : Cond.code ⟨"WorkHallModel", "thrown", "()I"⟩ prog_8_method_3_code 1 (some .int) ∈ gW := gw_mem 816 (by decide +kernel) rfl
theorem wd_817 : Cond.methodLink "WorkHallLaw" 86 ⟨"WorkHallModel", "job", "(IIII)I"⟩ ∈ gW := gw_mem 817 (by decide +kernel) rfl
theorem wd_818 : Cond.instanceMethod ⟨"WorkHallModel", "job", "(IIII)I"⟩ ∈ gW := gw_mem 818 (by decide +kernel) rfl
theorem wd_819 : Cond.selects "WorkHallModel" ⟨"WorkHallModel", "job", "(IIII)I"⟩ ⟨"WorkHallModel", "job", "(IIII)I"⟩ ∈ gW := gw_mem 819 (by decide +kernel) rfl
theorem wd_820 : Cond.code ⟨"WorkHallModel", "job", "(IIII)I"⟩ prog_8_method_8_code 5 (some .int) ∈ gW := gw_mem 820 (by decide +kernel) rfl
theorem wd_837 : Cond.methodLink "WorkHallLaw" 90 ⟨"WorkHallModel", "submit", "(I)I"⟩ ∈ gW := gw_mem 837 (by decide +kernel) rfl
theorem wd_838 : Cond.instanceMethod ⟨"WorkHallModel", "submit", "(I)I"⟩ ∈ gW := gw_mem 838 (by decide +kernel) rfl
theorem wd_839 : Cond.selects "WorkHallModel" ⟨"WorkHallModel", "submit", "(I)I"⟩ ⟨"WorkHallModel", "submit", "(I)I"⟩ ∈ gW := gw_mem 839 (by decide +kernel) rfl
theorem wd_840 : Cond.code ⟨"WorkHallModel", "submit", "(I)I"⟩ prog_8_method_25_code 2 (some .int) ∈ gW := gw_mem 840 (by decide +kernel) rfl
theorem wd_893 : Cond.methodLink "WorkHallLaw" 94 ⟨"WorkHallModel", "then", "(II)I"⟩ ∈ gW := gw_mem 893 (by decide +kernel) rfl
theorem wd_894 : Cond.instanceMethod ⟨"WorkHallModel", "then", "(II)I"⟩ ∈ gW := gw_mem 894 (by decide +kernel) rfl
theorem wd_895 : Cond.selects "WorkHallModel" ⟨"WorkHallModel", "then", "(II)I"⟩ ⟨"WorkHallModel", "then", "(II)I"⟩ ∈ gW := gw_mem 895 (by decide +kernel) rfl
theorem wd_896 : Cond.code ⟨"WorkHallModel", "then", "(II)I"⟩ prog_8_method_26_code 4 (some .int) ∈ gW := gw_mem 896 (by decide +kernel) rfl
theorem wd_897 : Cond.methodLink "WorkHallLaw" 97 ⟨"WorkHallModel", "step", "(I)I"⟩ ∈ gW := gw_mem 897 (by decide +kernel) rfl
theorem wd_898 : Cond.instanceMethod ⟨"WorkHallModel", "step", "(I)I"⟩ ∈ gW := gw_mem 898 (by decide +kernel) rfl
theorem wd_899 : Cond.selects "WorkHallModel" ⟨"WorkHallModel", "step", "(I)I"⟩ ⟨"WorkHallModel", "step", "(I)I"⟩ ∈ gW := gw_mem 899 (by decide +kernel) rfl
theorem wd_900 : Cond.code ⟨"WorkHallModel", "step", "(I)I"⟩ prog_8_method_30_code 9 (some .int) ∈ gW := gw_mem 900 (by decide +kernel) rfl
theorem wd_925 : Cond.methodLink "WorkHallLaw" 101 ⟨"WorkHallModel", "cancel", "(IZ)I"⟩ ∈ gW := gw_mem 925 (by decide +kernel) rfl
theorem wd_926 : Cond.instanceMethod ⟨"WorkHallModel", "cancel", "(IZ)I"⟩ ∈ gW := gw_mem 926 (by decide +kernel) rfl
theorem wd_927 : Cond.selects "WorkHallModel" ⟨"WorkHallModel", "cancel", "(IZ)I"⟩ ⟨"WorkHallModel", "cancel", "(IZ)I"⟩ ∈ gW := gw_mem 927 (by decide +kernel) rfl
theorem wd_928 : Cond.code ⟨"WorkHallModel", "cancel", "(IZ)I"⟩ prog_8_method_33_code 4 (some .int) ∈ gW := gw_mem 928 (by decide +kernel) rfl
theorem wd_937 : Cond.methodLink "WorkHallLaw" 104 ⟨"WorkHallModel", "get", "(I)I"⟩ ∈ gW := gw_mem 937 (by decide +kernel) rfl
theorem wd_938 : Cond.instanceMethod ⟨"WorkHallModel", "get", "(I)I"⟩ ∈ gW := gw_mem 938 (by decide +kernel) rfl
theorem wd_939 : Cond.selects "WorkHallModel" ⟨"WorkHallModel", "get", "(I)I"⟩ ⟨"WorkHallModel", "get", "(I)I"⟩ ∈ gW := gw_mem 939 (by decide +kernel) rfl
theorem wd_940 : Cond.code ⟨"WorkHallModel", "get", "(I)I"⟩ prog_8_method_34_code 3 (some .int) ∈ gW := gw_mem 940 (by decide +kernel) rfl
theorem wd_941 : Cond.methodLink "WorkHallLaw" 110 ⟨"WorkHallModel", "clock", "(IDD)I"⟩ ∈ gW := gw_mem 941 (by decide +kernel) rfl
theorem wd_942 : Cond.instanceMethod ⟨"WorkHallModel", "clock", "(IDD)I"⟩ ∈ gW := gw_mem 942 (by decide +kernel) rfl
theorem wd_943 : Cond.selects "WorkHallModel" ⟨"WorkHallModel", "clock", "(IDD)I"⟩ ⟨"WorkHallModel", "clock", "(IDD)I"⟩ ∈ gW := gw_mem 943 (by decide +kernel) rfl
theorem wd_944 : Cond.code ⟨"WorkHallModel", "clock", "(IDD)I"⟩ prog_8_method_37_code 6 (some .int) ∈ gW := gw_mem 944 (by decide +kernel) rfl
theorem wd_950 : Cond.methodLink "WorkHallLaw" 114 ⟨"WorkHallModel", "tick", "(D)I"⟩ ∈ gW := gw_mem 950 (by decide +kernel) rfl
theorem wd_951 : Cond.instanceMethod ⟨"WorkHallModel", "tick", "(D)I"⟩ ∈ gW := gw_mem 951 (by decide +kernel) rfl
theorem wd_952 : Cond.selects "WorkHallModel" ⟨"WorkHallModel", "tick", "(D)I"⟩ ⟨"WorkHallModel", "tick", "(D)I"⟩ ∈ gW := gw_mem 952 (by decide +kernel) rfl
theorem wd_953 : Cond.code ⟨"WorkHallModel", "tick", "(D)I"⟩ prog_8_method_39_code 8 (some .int) ∈ gW := gw_mem 953 (by decide +kernel) rfl
theorem wd_964 : Cond.methodLink "WorkHallLaw" 118 ⟨"WorkHallModel", "shut", "(Z)I"⟩ ∈ gW := gw_mem 964 (by decide +kernel) rfl
theorem wd_965 : Cond.instanceMethod ⟨"WorkHallModel", "shut", "(Z)I"⟩ ∈ gW := gw_mem 965 (by decide +kernel) rfl
theorem wd_966 : Cond.selects "WorkHallModel" ⟨"WorkHallModel", "shut", "(Z)I"⟩ ⟨"WorkHallModel", "shut", "(Z)I"⟩ ∈ gW := gw_mem 966 (by decide +kernel) rfl
theorem wd_967 : Cond.code ⟨"WorkHallModel", "shut", "(Z)I"⟩ prog_8_method_40_code 4 (some .int) ∈ gW := gw_mem 967 (by decide +kernel) rfl
theorem wd_968 : Cond.methodLink "WorkHallLaw" 121 ⟨"WorkHallModel", "about", "(II)I"⟩ ∈ gW := gw_mem 968 (by decide +kernel) rfl
theorem wd_969 : Cond.instanceMethod ⟨"WorkHallModel", "about", "(II)I"⟩ ∈ gW := gw_mem 969 (by decide +kernel) rfl
theorem wd_970 : Cond.selects "WorkHallModel" ⟨"WorkHallModel", "about", "(II)I"⟩ ⟨"WorkHallModel", "about", "(II)I"⟩ ∈ gW := gw_mem 970 (by decide +kernel) rfl
theorem wd_971 : Cond.code ⟨"WorkHallModel", "about", "(II)I"⟩ prog_8_method_41_code 3 (some .int) ∈ gW := gw_mem 971 (by decide +kernel) rfl
theorem wd_972 : Cond.methodLink "WorkHallLaw" 124 ⟨"WorkHallModel", "worker", "(I)I"⟩ ∈ gW := gw_mem 972 (by decide +kernel) rfl
theorem wd_973 : Cond.instanceMethod ⟨"WorkHallModel", "worker", "(I)I"⟩ ∈ gW := gw_mem 973 (by decide +kernel) rfl
theorem wd_974 : Cond.selects "WorkHallModel" ⟨"WorkHallModel", "worker", "(I)I"⟩ ⟨"WorkHallModel", "worker", "(I)I"⟩ ∈ gW := gw_mem 974 (by decide +kernel) rfl
theorem wd_975 : Cond.code ⟨"WorkHallModel", "worker", "(I)I"⟩ prog_8_method_42_code 2 (some .int) ∈ gW := gw_mem 975 (by decide +kernel) rfl
theorem wd_976 : Cond.methodLink "WorkHallLaw" 127 ⟨"WorkHallModel", "count", "(I)I"⟩ ∈ gW := gw_mem 976 (by decide +kernel) rfl
theorem wd_977 : Cond.instanceMethod ⟨"WorkHallModel", "count", "(I)I"⟩ ∈ gW := gw_mem 977 (by decide +kernel) rfl
theorem wd_978 : Cond.selects "WorkHallModel" ⟨"WorkHallModel", "count", "(I)I"⟩ ⟨"WorkHallModel", "count", "(I)I"⟩ ∈ gW := gw_mem 978 (by decide +kernel) rfl
theorem wd_979 : Cond.code ⟨"WorkHallModel", "count", "(I)I"⟩ prog_8_method_43_code 2 (some .int) ∈ gW := gw_mem 979 (by decide +kernel) rfl
theorem wd_980 : Cond.methodLink "WorkHallLaw" 131 ⟨"WorkHallModel", "delay", "()D"⟩ ∈ gW := gw_mem 980 (by decide +kernel) rfl
theorem wd_981 : Cond.instanceMethod ⟨"WorkHallModel", "delay", "()D"⟩ ∈ gW := gw_mem 981 (by decide +kernel) rfl
theorem wd_982 : Cond.selects "WorkHallModel" ⟨"WorkHallModel", "delay", "()D"⟩ ⟨"WorkHallModel", "delay", "()D"⟩ ∈ gW := gw_mem 982 (by decide +kernel) rfl
theorem wd_983 : Cond.code ⟨"WorkHallModel", "delay", "()D"⟩ prog_8_method_44_code 1 (some .double) ∈ gW := gw_mem 983 (by decide +kernel) rfl
theorem wd_984 : Cond.methodLink "WorkHallLaw" 134 ⟨"WorkHallModel", "due", "()D"⟩ ∈ gW := gw_mem 984 (by decide +kernel) rfl
theorem wd_985 : Cond.instanceMethod ⟨"WorkHallModel", "due", "()D"⟩ ∈ gW := gw_mem 985 (by decide +kernel) rfl
theorem wd_986 : Cond.selects "WorkHallModel" ⟨"WorkHallModel", "due", "()D"⟩ ⟨"WorkHallModel", "due", "()D"⟩ ∈ gW := gw_mem 986 (by decide +kernel) rfl
theorem wd_987 : Cond.code ⟨"WorkHallModel", "due", "()D"⟩ prog_8_method_45_code 2 (some .double) ∈ gW := gw_mem 987 (by decide +kernel) rfl
theorem wd_988 : Cond.constantDouble "WorkHallLaw" 105 4593671619917905920 ∈ gW := gw_mem 988 (by decide +kernel) rfl
theorem wd_989 : Cond.arrayClass .long ∈ gW := gw_mem 989 (by decide +kernel) rfl
theorem dL_cell_0 : decode method_2_code 0 = .ok (.iload_n 1, 1) := by decide +kernel
theorem dL_cell_1 : decode method_2_code 1 = .ok (.aload_n 0, 1) := by decide +kernel
theorem dL_cell_2 : decode method_2_code 2 = .ok (.arraylength, 1) := by decide +kernel
theorem dL_cell_3 : decode method_2_code 3 = .ok (.if_icmp .ge 9, 3) := by decide +kernel
theorem dL_cell_6 : decode method_2_code 6 = .ok (.aload_n 0, 1) := by decide +kernel
theorem dL_cell_7 : decode method_2_code 7 = .ok (.iload_n 1, 1) := by decide +kernel
theorem dL_cell_8 : decode method_2_code 8 = .ok (.iaload, 1) := by decide +kernel
theorem dL_cell_9 : decode method_2_code 9 = .ok (.goto 4, 3) := by decide +kernel
theorem dL_cell_12 : decode method_2_code 12 = .ok (.iconst 0, 1) := by decide +kernel
theorem dL_cell_13 : decode method_2_code 13 = .ok (.ireturn, 1) := by decide +kernel
/-- what the law reads at a place that may lie behind the end -/
def sAt (L : Nat) (xs : Nat → Int32) (k : Int32) : Int32 := if Int32.ofNat L ≤ k then 0 else xs k.toNatClampNeg
set_option maxHeartbeats 8000000 in
set_option maxRecDepth 100000 in
theorem cL_cell (l : Launch) (dC : Nat → ClassId) (dI : Nat → Nat → Nat) (b L : Nat) (xs : Nat → Int32) (sz : Nat) (k : Int32) (hk : 0 ≤ k) (hL : L < 2147483648) : Met l ⟨"WorkHallLaw", "cell", "([II)I"⟩ (gw ⟨"WorkHallLaw", "cell", "([II)I"⟩ method_2_code 2 (some .int)) ({ frames := 1, cells := 0, slots := 0, locals := 40 } : Room) (va_Pc [.ref b, .int k] (gB (dC, dI) vwCl [] (sE b L xs) [] sz)) (va_Qi (fun (r : Int32) (_ : Unit) => r = sAt L xs k) (gAt (dC, dI) vwCl [] (fun _ : Unit => []) (va_A [] sz)) (va_A [] sz)) 0 0 (va_A [] sz) := by
  refine Met.ofW (cc := method_2_code) (maxL := 2) (ret := (some .int)) (by decide) rfl ?_
  intro p e s m args below meth c s₁ B hml hv
  obtain ⟨rfl, hsz, hP, hK, hD0, hE⟩ := hv
  have hx := B.exec
  have hb := B.bytes
  have hr := B.returns
  have hlocks := B.notSynchronized
  subst hsz
  have hD := hD0.self (sz := s.heap.size)
  generalize hAe : va_A [] s.heap.size = A at hD hE ⊢
  obtain ⟨H, hHe⟩ : ∃ z : Heap, z = s.heap := ⟨_, rfl⟩
  rw [← hHe]
  have hS : va_S A s.heap H [] := by rw [hHe]; exact va_S.rf
  have hP : va_P (dC, dI) vwCl [] H := by rw [hHe]; exact hP
  have hl := lv_entry ([.ref b, .int k]) (n := 2) (Nat.le_of_ble_eq_true rfl)
  rw [lg_entry_eq]
  generalize (lg_sl ([.ref b, .int k]) ++ List.replicate (2 - (lg_sl ([.ref b, .int k])).length) Slot.unset).toArray = ls at hl ⊢
  have hl : lv_has ls 2 [(0, .ref b), (1, .int k)] := hl
  clear hAe
  refine lv_iload_n hx hb dL_cell_0 rfl (lv_at hl 1 rfl) ?_
  refine lv_aload_n hx hb dL_cell_1 rfl (lv_at hl 0 rfl) ?_
  refine va_tlen (v := Int32.ofNat L) hx hb hE hS rfl dL_cell_2 ?_
  refine lv_icmp_ge (tgt := 12) hx hb dL_cell_3 (by decide) (fun c1 => ?_) (fun c1 => ?_)
  · refine lv_iconst (v := 0) hx hb dL_cell_12 (by decide) ?_
    exact gr_i (w := fun _ : Unit => []) (u := ()) hx hb hr hlocks (by unfold sAt; rw [if_pos c1]) hP hK hD hS dL_cell_13
  · refine lv_aload_n hx hb dL_cell_6 rfl (lv_at hl 0 rfl) ?_
    refine lv_iload_n hx hb dL_cell_7 rfl (lv_at hl 1 rfl) ?_
    have hin : vp_in k L := by
      intro h
      rcases h with h | h
      · exact absurd hk (Int32.not_le.mpr h)
      · refine c1 ?_
        rw [Int32.le_iff_toInt_le]
        have h1 : (Int32.ofNat L).toInt = L := Int32.toInt_ofNat_of_lt hL
        have h2 : k.toNatClampNeg = k.toInt.toNat := rfl
        have h3 : (0 : Int) ≤ k.toInt := by rw [Int32.le_iff_toInt_le] at hk; exact hk
        rw [h1]; omega
    refine va_ti (v := .int (xs k.toNatClampNeg)) hx hb hE hS hin rfl dL_cell_8 ?_
    refine lv_goto (tgt := 13) hx hb dL_cell_9 (by decide) ?_
    exact gr_i (w := fun _ : Unit => []) (u := ()) hx hb hr hlocks (by unfold sAt; rw [if_neg c1]) hP hK hD hS dL_cell_13

