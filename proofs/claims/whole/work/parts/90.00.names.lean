def R_Lw : String := "PrivateQueriesLaw"
abbrev b_Lw_law : ByteArray := code
abbrev b_Lw_cell : ByteArray := method_2_code
def y_Lw_cell : MethodName := ⟨R_Lw, "cell", "([II)I"⟩
def w_Lw_cell : List Cond := .code y_Lw_cell b_Lw_cell 2 (some .int) :: wG
theorem d_Lw_cell_0 : decode b_Lw_cell 0 = .ok (.iload_n 1, 1) := by decide +kernel
theorem d_Lw_cell_1 : decode b_Lw_cell 1 = .ok (.aload_n 0, 1) := by decide +kernel
theorem d_Lw_cell_2 : decode b_Lw_cell 2 = .ok (.arraylength, 1) := by decide +kernel
theorem d_Lw_cell_3 : decode b_Lw_cell 3 = .ok (.if_icmp .ge 9, 3) := by decide +kernel
theorem d_Lw_cell_6 : decode b_Lw_cell 6 = .ok (.aload_n 0, 1) := by decide +kernel
theorem d_Lw_cell_7 : decode b_Lw_cell 7 = .ok (.iload_n 1, 1) := by decide +kernel
theorem d_Lw_cell_8 : decode b_Lw_cell 8 = .ok (.iaload, 1) := by decide +kernel
theorem d_Lw_cell_9 : decode b_Lw_cell 9 = .ok (.goto 4, 3) := by decide +kernel
theorem d_Lw_cell_12 : decode b_Lw_cell 12 = .ok (.iconst 0, 1) := by decide +kernel
theorem d_Lw_cell_13 : decode b_Lw_cell 13 = .ok (.ireturn, 1) := by decide +kernel
theorem k_910 : (.methodLink R_Lw 21 y_PQ_row : Cond) ∈ wG := wGm 372 (by decide +kernel) (by decide +kernel)
theorem k_911 : (.instanceMethod y_PQ_row : Cond) ∈ wG := wGm 373 (by decide +kernel) (by decide +kernel)
theorem k_912 : (.selects R_PQ y_PQ_row y_PQ_row : Cond) ∈ wG := wGm 374 (by decide +kernel) (by decide +kernel)
theorem k_913 : (.code y_PQ_row b_PQ_row 7 (some .int) : Cond) ∈ wG := wGm 375 (by decide +kernel) (by decide +kernel)
theorem k_914 : (.methodLink R_Lw 25 y_Mo_row : Cond) ∈ wG := wGm 1158 (by decide +kernel) (by decide +kernel)
theorem k_915 : (.instanceMethod y_Mo_row : Cond) ∈ wG := wGm 1159 (by decide +kernel) (by decide +kernel)
theorem k_916 : (.selects R_Mo y_Mo_row y_Mo_row : Cond) ∈ wG := wGm 1160 (by decide +kernel) (by decide +kernel)
theorem k_917 : (.code y_Mo_row b_Mo_row 8 (some .int) : Cond) ∈ wG := wGm 1161 (by decide +kernel) (by decide +kernel)
theorem k_918 : (.methodLink R_Lw 26 y_PQ_drop : Cond) ∈ wG := wGm 384 (by decide +kernel) (by decide +kernel)
theorem k_919 : (.instanceMethod y_PQ_drop : Cond) ∈ wG := wGm 385 (by decide +kernel) (by decide +kernel)
theorem k_920 : (.selects R_PQ y_PQ_drop y_PQ_drop : Cond) ∈ wG := wGm 386 (by decide +kernel) (by decide +kernel)
theorem k_921 : (.code y_PQ_drop b_PQ_drop 2 (some .int) : Cond) ∈ wG := wGm 387 (by decide +kernel) (by decide +kernel)
theorem k_922 : (.methodLink R_Lw 30 y_Mo_drop : Cond) ∈ wG := wGm 1162 (by decide +kernel) (by decide +kernel)
theorem k_923 : (.instanceMethod y_Mo_drop : Cond) ∈ wG := wGm 1163 (by decide +kernel) (by decide +kernel)
theorem k_924 : (.selects R_Mo y_Mo_drop y_Mo_drop : Cond) ∈ wG := wGm 1164 (by decide +kernel) (by decide +kernel)
theorem k_925 : (.code y_Mo_drop b_Mo_drop 3 (some .int) : Cond) ∈ wG := wGm 1165 (by decide +kernel) (by decide +kernel)
theorem k_926 : (.methodLink R_Lw 31 y_PQ_draws : Cond) ∈ wG := wGm 395 (by decide +kernel) (by decide +kernel)
theorem k_927 : (.instanceMethod y_PQ_draws : Cond) ∈ wG := wGm 396 (by decide +kernel) (by decide +kernel)
theorem k_928 : (.selects R_PQ y_PQ_draws y_PQ_draws : Cond) ∈ wG := wGm 397 (by decide +kernel) (by decide +kernel)
theorem k_929 : (.code y_PQ_draws b_PQ_draws 4 (some .int) : Cond) ∈ wG := wGm 398 (by decide +kernel) (by decide +kernel)
theorem k_930 : (.methodLink R_Lw 35 y_Mo_draws : Cond) ∈ wG := wGm 1169 (by decide +kernel) (by decide +kernel)
theorem k_931 : (.instanceMethod y_Mo_draws : Cond) ∈ wG := wGm 1170 (by decide +kernel) (by decide +kernel)
theorem k_932 : (.selects R_Mo y_Mo_draws y_Mo_draws : Cond) ∈ wG := wGm 1171 (by decide +kernel) (by decide +kernel)
theorem k_933 : (.code y_Mo_draws b_Mo_draws 4 (some .int) : Cond) ∈ wG := wGm 1172 (by decide +kernel) (by decide +kernel)
theorem k_934 : (.methodLink R_Lw 36 y_PQ_count : Cond) ∈ wG := wGm 411 (by decide +kernel) (by decide +kernel)
theorem k_935 : (.instanceMethod y_PQ_count : Cond) ∈ wG := wGm 412 (by decide +kernel) (by decide +kernel)
theorem k_936 : (.selects R_PQ y_PQ_count y_PQ_count : Cond) ∈ wG := wGm 413 (by decide +kernel) (by decide +kernel)
theorem k_937 : (.code y_PQ_count b_PQ_count 2 (some .int) : Cond) ∈ wG := wGm 414 (by decide +kernel) (by decide +kernel)
theorem k_938 : (.methodLink R_Lw 39 y_Mo_count : Cond) ∈ wG := wGm 1177 (by decide +kernel) (by decide +kernel)
theorem k_939 : (.instanceMethod y_Mo_count : Cond) ∈ wG := wGm 1178 (by decide +kernel) (by decide +kernel)
theorem k_940 : (.selects R_Mo y_Mo_count y_Mo_count : Cond) ∈ wG := wGm 1179 (by decide +kernel) (by decide +kernel)
theorem k_941 : (.code y_Mo_count b_Mo_count 2 (some .int) : Cond) ∈ wG := wGm 1180 (by decide +kernel) (by decide +kernel)
theorem k_942 : (.methodLink R_Lw 40 y_PQ_budget : Cond) ∈ wG := wGm 427 (by decide +kernel) (by decide +kernel)
theorem k_943 : (.instanceMethod y_PQ_budget : Cond) ∈ wG := wGm 428 (by decide +kernel) (by decide +kernel)
theorem k_944 : (.selects R_PQ y_PQ_budget y_PQ_budget : Cond) ∈ wG := wGm 429 (by decide +kernel) (by decide +kernel)
theorem k_945 : (.code y_PQ_budget b_PQ_budget 4 (some .int) : Cond) ∈ wG := wGm 430 (by decide +kernel) (by decide +kernel)
theorem k_946 : (.methodLink R_Lw 43 y_Mo_budget : Cond) ∈ wG := wGm 1181 (by decide +kernel) (by decide +kernel)
theorem k_947 : (.instanceMethod y_Mo_budget : Cond) ∈ wG := wGm 1182 (by decide +kernel) (by decide +kernel)
theorem k_948 : (.selects R_Mo y_Mo_budget y_Mo_budget : Cond) ∈ wG := wGm 1183 (by decide +kernel) (by decide +kernel)
theorem k_949 : (.code y_Mo_budget b_Mo_budget 4 (some .int) : Cond) ∈ wG := wGm 1184 (by decide +kernel) (by decide +kernel)
theorem k_950 : (.methodLink R_Lw 44 y_PQ_ledger : Cond) ∈ wG := wGm 448 (by decide +kernel) (by decide +kernel)
theorem k_951 : (.instanceMethod y_PQ_ledger : Cond) ∈ wG := wGm 449 (by decide +kernel) (by decide +kernel)
theorem k_952 : (.selects R_PQ y_PQ_ledger y_PQ_ledger : Cond) ∈ wG := wGm 450 (by decide +kernel) (by decide +kernel)
theorem k_953 : (.code y_PQ_ledger b_PQ_ledger 3 (some .int) : Cond) ∈ wG := wGm 451 (by decide +kernel) (by decide +kernel)
theorem k_954 : (.methodLink R_Lw 47 y_Mo_ledger : Cond) ∈ wG := wGm 1186 (by decide +kernel) (by decide +kernel)
theorem k_955 : (.instanceMethod y_Mo_ledger : Cond) ∈ wG := wGm 1187 (by decide +kernel) (by decide +kernel)
theorem k_956 : (.selects R_Mo y_Mo_ledger y_Mo_ledger : Cond) ∈ wG := wGm 1188 (by decide +kernel) (by decide +kernel)
theorem k_957 : (.code y_Mo_ledger b_Mo_ledger 3 (some .int) : Cond) ∈ wG := wGm 1189 (by decide +kernel) (by decide +kernel)
theorem k_958 : (.constantLong R_Lw 48 4294967295 : Cond) ∈ wG := wGm 1451 (by decide +kernel) (by decide +kernel)
theorem k_959 : (.methodLink R_Lw 50 y_PQ_type : Cond) ∈ wG := wGm 458 (by decide +kernel) (by decide +kernel)
theorem k_960 : (.instanceMethod y_PQ_type : Cond) ∈ wG := wGm 459 (by decide +kernel) (by decide +kernel)
theorem k_961 : (.selects R_PQ y_PQ_type y_PQ_type : Cond) ∈ wG := wGm 460 (by decide +kernel) (by decide +kernel)
theorem k_962 : (.code y_PQ_type b_PQ_type 4 (some .int) : Cond) ∈ wG := wGm 461 (by decide +kernel) (by decide +kernel)
theorem k_963 : (.methodLink R_Lw 54 y_Mo_type : Cond) ∈ wG := wGm 1190 (by decide +kernel) (by decide +kernel)
theorem k_964 : (.instanceMethod y_Mo_type : Cond) ∈ wG := wGm 1191 (by decide +kernel) (by decide +kernel)
theorem k_965 : (.selects R_Mo y_Mo_type y_Mo_type : Cond) ∈ wG := wGm 1192 (by decide +kernel) (by decide +kernel)
theorem k_966 : (.code y_Mo_type b_Mo_type 6 (some .int) : Cond) ∈ wG := wGm 1193 (by decide +kernel) (by decide +kernel)
theorem k_967 : (.methodLink R_Lw 55 y_PQ_read : Cond) ∈ wG := wGm 472 (by decide +kernel) (by decide +kernel)
theorem k_968 : (.instanceMethod y_PQ_read : Cond) ∈ wG := wGm 473 (by decide +kernel) (by decide +kernel)
theorem k_969 : (.selects R_PQ y_PQ_read y_PQ_read : Cond) ∈ wG := wGm 474 (by decide +kernel) (by decide +kernel)
theorem k_970 : (.code y_PQ_read b_PQ_read 3 (some .int) : Cond) ∈ wG := wGm 475 (by decide +kernel) (by decide +kernel)
theorem k_971 : (.methodLink R_Lw 59 y_Mo_read : Cond) ∈ wG := wGm 1195 (by decide +kernel) (by decide +kernel)
theorem k_972 : (.instanceMethod y_Mo_read : Cond) ∈ wG := wGm 1196 (by decide +kernel) (by decide +kernel)
theorem k_973 : (.selects R_Mo y_Mo_read y_Mo_read : Cond) ∈ wG := wGm 1197 (by decide +kernel) (by decide +kernel)
theorem k_974 : (.code y_Mo_read b_Mo_read 2 (some .int) : Cond) ∈ wG := wGm 1198 (by decide +kernel) (by decide +kernel)
theorem k_975 : (.methodLink R_Lw 60 y_PQ_question : Cond) ∈ wG := wGm 740 (by decide +kernel) (by decide +kernel)
theorem k_976 : (.instanceMethod y_PQ_question : Cond) ∈ wG := wGm 741 (by decide +kernel) (by decide +kernel)
theorem k_977 : (.selects R_PQ y_PQ_question y_PQ_question : Cond) ∈ wG := wGm 742 (by decide +kernel) (by decide +kernel)
theorem k_978 : (.code y_PQ_question b_PQ_question 3 (some .int) : Cond) ∈ wG := wGm 743 (by decide +kernel) (by decide +kernel)
theorem k_979 : (.methodLink R_Lw 63 y_Mo_question : Cond) ∈ wG := wGm 1333 (by decide +kernel) (by decide +kernel)
theorem k_980 : (.instanceMethod y_Mo_question : Cond) ∈ wG := wGm 1334 (by decide +kernel) (by decide +kernel)
theorem k_981 : (.selects R_Mo y_Mo_question y_Mo_question : Cond) ∈ wG := wGm 1335 (by decide +kernel) (by decide +kernel)
theorem k_982 : (.code y_Mo_question b_Mo_question 3 (some .int) : Cond) ∈ wG := wGm 1336 (by decide +kernel) (by decide +kernel)
theorem k_983 : (.methodLink R_Lw 64 y_PQ_wants : Cond) ∈ wG := wGm 758 (by decide +kernel) (by decide +kernel)
theorem k_984 : (.instanceMethod y_PQ_wants : Cond) ∈ wG := wGm 759 (by decide +kernel) (by decide +kernel)
theorem k_985 : (.selects R_PQ y_PQ_wants y_PQ_wants : Cond) ∈ wG := wGm 760 (by decide +kernel) (by decide +kernel)
theorem k_986 : (.code y_PQ_wants b_PQ_wants 2 (some .int) : Cond) ∈ wG := wGm 761 (by decide +kernel) (by decide +kernel)
theorem k_987 : (.methodLink R_Lw 67 y_Mo_wants : Cond) ∈ wG := wGm 1349 (by decide +kernel) (by decide +kernel)
theorem k_988 : (.instanceMethod y_Mo_wants : Cond) ∈ wG := wGm 1350 (by decide +kernel) (by decide +kernel)
theorem k_989 : (.selects R_Mo y_Mo_wants y_Mo_wants : Cond) ∈ wG := wGm 1351 (by decide +kernel) (by decide +kernel)
theorem k_990 : (.code y_Mo_wants b_Mo_wants 2 (some .int) : Cond) ∈ wG := wGm 1352 (by decide +kernel) (by decide +kernel)
theorem k_991 : (.methodLink R_Lw 68 y_PQ_run : Cond) ∈ wG := wGm 768 (by decide +kernel) (by decide +kernel)
theorem k_992 : (.instanceMethod y_PQ_run : Cond) ∈ wG := wGm 769 (by decide +kernel) (by decide +kernel)
theorem k_993 : (.selects R_PQ y_PQ_run y_PQ_run : Cond) ∈ wG := wGm 770 (by decide +kernel) (by decide +kernel)
theorem k_994 : (.code y_PQ_run b_PQ_run 3 (some .int) : Cond) ∈ wG := wGm 771 (by decide +kernel) (by decide +kernel)
theorem k_995 : (.methodLink R_Lw 71 y_Mo_run : Cond) ∈ wG := wGm 1357 (by decide +kernel) (by decide +kernel)
theorem k_996 : (.instanceMethod y_Mo_run : Cond) ∈ wG := wGm 1358 (by decide +kernel) (by decide +kernel)
theorem k_997 : (.selects R_Mo y_Mo_run y_Mo_run : Cond) ∈ wG := wGm 1359 (by decide +kernel) (by decide +kernel)
theorem k_998 : (.code y_Mo_run b_Mo_run 7 (some .int) : Cond) ∈ wG := wGm 1360 (by decide +kernel) (by decide +kernel)
theorem k_999 : (.methodLink R_Lw 72 y_PQ_told : Cond) ∈ wG := wGm 852 (by decide +kernel) (by decide +kernel)
theorem k_1000 : (.instanceMethod y_PQ_told : Cond) ∈ wG := wGm 853 (by decide +kernel) (by decide +kernel)
theorem k_1001 : (.selects R_PQ y_PQ_told y_PQ_told : Cond) ∈ wG := wGm 854 (by decide +kernel) (by decide +kernel)
theorem k_1002 : (.code y_PQ_told b_PQ_told 2 (some .int) : Cond) ∈ wG := wGm 855 (by decide +kernel) (by decide +kernel)
theorem k_1003 : (.methodLink R_Lw 75 y_Mo_told : Cond) ∈ wG := wGm 1383 (by decide +kernel) (by decide +kernel)
theorem k_1004 : (.instanceMethod y_Mo_told : Cond) ∈ wG := wGm 1384 (by decide +kernel) (by decide +kernel)
theorem k_1005 : (.selects R_Mo y_Mo_told y_Mo_told : Cond) ∈ wG := wGm 1385 (by decide +kernel) (by decide +kernel)
theorem k_1006 : (.code y_Mo_told b_Mo_told 2 (some .int) : Cond) ∈ wG := wGm 1386 (by decide +kernel) (by decide +kernel)
theorem k_1007 : (.methodLink R_Lw 76 y_PQ_noise : Cond) ∈ wG := wGm 856 (by decide +kernel) (by decide +kernel)
theorem k_1008 : (.instanceMethod y_PQ_noise : Cond) ∈ wG := wGm 857 (by decide +kernel) (by decide +kernel)
theorem k_1009 : (.selects R_PQ y_PQ_noise y_PQ_noise : Cond) ∈ wG := wGm 858 (by decide +kernel) (by decide +kernel)
theorem k_1010 : (.code y_PQ_noise b_PQ_noise 3 (some .int) : Cond) ∈ wG := wGm 859 (by decide +kernel) (by decide +kernel)
theorem k_1011 : (.methodLink R_Lw 79 y_Mo_noise : Cond) ∈ wG := wGm 1387 (by decide +kernel) (by decide +kernel)
theorem k_1012 : (.instanceMethod y_Mo_noise : Cond) ∈ wG := wGm 1388 (by decide +kernel) (by decide +kernel)
theorem k_1013 : (.selects R_Mo y_Mo_noise y_Mo_noise : Cond) ∈ wG := wGm 1389 (by decide +kernel) (by decide +kernel)
theorem k_1014 : (.code y_Mo_noise b_Mo_noise 3 (some .int) : Cond) ∈ wG := wGm 1390 (by decide +kernel) (by decide +kernel)
theorem k_1015 : (.methodLink R_Lw 80 y_PQ_print : Cond) ∈ wG := wGm 863 (by decide +kernel) (by decide +kernel)
theorem k_1016 : (.instanceMethod y_PQ_print : Cond) ∈ wG := wGm 864 (by decide +kernel) (by decide +kernel)
theorem k_1017 : (.selects R_PQ y_PQ_print y_PQ_print : Cond) ∈ wG := wGm 865 (by decide +kernel) (by decide +kernel)
theorem k_1018 : (.code y_PQ_print b_PQ_print 1 (some .int) : Cond) ∈ wG := wGm 866 (by decide +kernel) (by decide +kernel)
theorem k_1019 : (.methodLink R_Lw 83 y_Mo_print : Cond) ∈ wG := wGm 1391 (by decide +kernel) (by decide +kernel)
theorem k_1020 : (.instanceMethod y_Mo_print : Cond) ∈ wG := wGm 1392 (by decide +kernel) (by decide +kernel)
theorem k_1021 : (.selects R_Mo y_Mo_print y_Mo_print : Cond) ∈ wG := wGm 1393 (by decide +kernel) (by decide +kernel)
theorem k_1022 : (.code y_Mo_print b_Mo_print 2 (some .int) : Cond) ∈ wG := wGm 1394 (by decide +kernel) (by decide +kernel)
theorem k_1023 : (.methodLink R_Lw 84 y_PQ_share : Cond) ∈ wG := wGm 914 (by decide +kernel) (by decide +kernel)
theorem k_1024 : (.instanceMethod y_PQ_share : Cond) ∈ wG := wGm 915 (by decide +kernel) (by decide +kernel)
theorem k_1025 : (.selects R_PQ y_PQ_share y_PQ_share : Cond) ∈ wG := wGm 916 (by decide +kernel) (by decide +kernel)
theorem k_1026 : (.code y_PQ_share b_PQ_share 4 (some .int) : Cond) ∈ wG := wGm 917 (by decide +kernel) (by decide +kernel)
theorem k_1027 : (.methodLink R_Lw 88 y_Mo_share : Cond) ∈ wG := wGm 1423 (by decide +kernel) (by decide +kernel)
theorem k_1028 : (.instanceMethod y_Mo_share : Cond) ∈ wG := wGm 1424 (by decide +kernel) (by decide +kernel)
theorem k_1029 : (.selects R_Mo y_Mo_share y_Mo_share : Cond) ∈ wG := wGm 1425 (by decide +kernel) (by decide +kernel)
theorem k_1030 : (.code y_Mo_share b_Mo_share 6 (some .int) : Cond) ∈ wG := wGm 1426 (by decide +kernel) (by decide +kernel)
theorem k_1031 : (.methodLink R_Lw 89 y_PQ_out : Cond) ∈ wG := wGm 944 (by decide +kernel) (by decide +kernel)
theorem k_1032 : (.instanceMethod y_PQ_out : Cond) ∈ wG := wGm 945 (by decide +kernel) (by decide +kernel)
theorem k_1033 : (.selects R_PQ y_PQ_out y_PQ_out : Cond) ∈ wG := wGm 946 (by decide +kernel) (by decide +kernel)
theorem k_1034 : (.code y_PQ_out b_PQ_out 2 (some .int) : Cond) ∈ wG := wGm 947 (by decide +kernel) (by decide +kernel)
theorem k_1035 : (.methodLink R_Lw 92 y_Mo_out : Cond) ∈ wG := wGm 1419 (by decide +kernel) (by decide +kernel)
theorem k_1036 : (.instanceMethod y_Mo_out : Cond) ∈ wG := wGm 1420 (by decide +kernel) (by decide +kernel)
theorem k_1037 : (.selects R_Mo y_Mo_out y_Mo_out : Cond) ∈ wG := wGm 1421 (by decide +kernel) (by decide +kernel)
theorem k_1038 : (.code y_Mo_out b_Mo_out 2 (some .int) : Cond) ∈ wG := wGm 1422 (by decide +kernel) (by decide +kernel)
theorem k_1039 : (.methodLink R_Lw 93 y_PQ_within : Cond) ∈ wG := wGm 952 (by decide +kernel) (by decide +kernel)
theorem k_1040 : (.instanceMethod y_PQ_within : Cond) ∈ wG := wGm 953 (by decide +kernel) (by decide +kernel)
theorem k_1041 : (.selects R_PQ y_PQ_within y_PQ_within : Cond) ∈ wG := wGm 954 (by decide +kernel) (by decide +kernel)
theorem k_1042 : (.code y_PQ_within b_PQ_within 4 (some .boolean) : Cond) ∈ wG := wGm 955 (by decide +kernel) (by decide +kernel)
theorem k_1043 : (.methodLink R_Lw 97 y_Mo_within : Cond) ∈ wG := wGm 1439 (by decide +kernel) (by decide +kernel)
theorem k_1044 : (.instanceMethod y_Mo_within : Cond) ∈ wG := wGm 1440 (by decide +kernel) (by decide +kernel)
theorem k_1045 : (.selects R_Mo y_Mo_within y_Mo_within : Cond) ∈ wG := wGm 1441 (by decide +kernel) (by decide +kernel)
theorem k_1046 : (.code y_Mo_within b_Mo_within 6 (some .boolean) : Cond) ∈ wG := wGm 1442 (by decide +kernel) (by decide +kernel)
theorem k_1047 : (.instantiable R_PQ 13 : Cond) ∈ wG := wGm 106 (by decide +kernel) (by decide +kernel)
theorem k_1048 : (.instantiable R_Mo 64 : Cond) ∈ wG := wGm 960 (by decide +kernel) (by decide +kernel)
theorem k_1049 : (.classLink R_Lw 7 R_PQ : Cond) ∈ wG := wGm 105 (by decide +kernel) (by decide +kernel)
theorem k_1050 : (.methodLink R_Lw 9 y_Lw_cell : Cond) ∈ wG := wGm 956 (by decide +kernel) (by decide +kernel)
theorem k_1051 : (.static y_Lw_cell : Cond) ∈ wG := wGm 957 (by decide +kernel) (by decide +kernel)
theorem k_1052 : (.initialized R_Lw : Cond) ∈ wG := wGm 84 (by decide +kernel) (by decide +kernel)
theorem k_1053 : (.code y_Lw_cell b_Lw_cell 2 (some .int) : Cond) ∈ wG := wGm 958 (by decide +kernel) (by decide +kernel)
theorem k_1054 : (.code y_PQ_init b_PQ_init 3 none : Cond) ∈ wG := wGm 109 (by decide +kernel) (by decide +kernel)
theorem k_1055 : (.methodLink R_Lw 15 y_PQ_init : Cond) ∈ wG := wGm 107 (by decide +kernel) (by decide +kernel)
theorem k_1056 : (.instanceMethod y_PQ_init : Cond) ∈ wG := wGm 108 (by decide +kernel) (by decide +kernel)
theorem k_1057 : (.classLink R_Lw 18 R_Mo : Cond) ∈ wG := wGm 959 (by decide +kernel) (by decide +kernel)
theorem k_1058 : (.code y_Mo_init b_Mo_init 3 none : Cond) ∈ wG := wGm 963 (by decide +kernel) (by decide +kernel)
theorem k_1059 : (.methodLink R_Lw 20 y_Mo_init : Cond) ∈ wG := wGm 961 (by decide +kernel) (by decide +kernel)
theorem k_1060 : (.instanceMethod y_Mo_init : Cond) ∈ wG := wGm 962 (by decide +kernel) (by decide +kernel)
theorem g_Lw_21 : GoodIn wG (wsV R_Lw 21 R_PQ y_PQ_row w_PQ_row) := wGa (fun w hw => by
  rcases List.mem_cons.mp hw with e | hw
  · exact e ▸ k_910
  rcases List.mem_cons.mp hw with e | hw
  · exact e ▸ k_911
  rcases List.mem_cons.mp hw with e | hw
  · exact e ▸ k_912
  rcases List.mem_cons.mp hw with e | hw
  · exact e ▸ k_521
  · exact absurd hw List.not_mem_nil) (wGc k_913)
theorem g_Lw_25 : GoodIn wG (wsV R_Lw 25 R_Mo y_Mo_row w_Mo_row) := wGa (fun w hw => by
  rcases List.mem_cons.mp hw with e | hw
  · exact e ▸ k_914
  rcases List.mem_cons.mp hw with e | hw
  · exact e ▸ k_915
  rcases List.mem_cons.mp hw with e | hw
  · exact e ▸ k_916
  rcases List.mem_cons.mp hw with e | hw
  · exact e ▸ k_185
  · exact absurd hw List.not_mem_nil) (wGc k_917)
theorem g_Lw_26 : GoodIn wG (wsV R_Lw 26 R_PQ y_PQ_drop w_PQ_drop) := wGa (fun w hw => by
  rcases List.mem_cons.mp hw with e | hw
  · exact e ▸ k_918
  rcases List.mem_cons.mp hw with e | hw
  · exact e ▸ k_919
  rcases List.mem_cons.mp hw with e | hw
  · exact e ▸ k_920
  rcases List.mem_cons.mp hw with e | hw
  · exact e ▸ k_521
  · exact absurd hw List.not_mem_nil) (wGc k_921)
theorem g_Lw_30 : GoodIn wG (wsV R_Lw 30 R_Mo y_Mo_drop w_Mo_drop) := wGa (fun w hw => by
  rcases List.mem_cons.mp hw with e | hw
  · exact e ▸ k_922
  rcases List.mem_cons.mp hw with e | hw
  · exact e ▸ k_923
  rcases List.mem_cons.mp hw with e | hw
  · exact e ▸ k_924
  rcases List.mem_cons.mp hw with e | hw
  · exact e ▸ k_185
  · exact absurd hw List.not_mem_nil) (wGc k_925)
theorem g_Lw_31 : GoodIn wG (wsV R_Lw 31 R_PQ y_PQ_draws w_PQ_draws) := wGa (fun w hw => by
  rcases List.mem_cons.mp hw with e | hw
  · exact e ▸ k_926
  rcases List.mem_cons.mp hw with e | hw
  · exact e ▸ k_927
  rcases List.mem_cons.mp hw with e | hw
  · exact e ▸ k_928
  rcases List.mem_cons.mp hw with e | hw
  · exact e ▸ k_521
  · exact absurd hw List.not_mem_nil) (wGc k_929)
theorem g_Lw_35 : GoodIn wG (wsV R_Lw 35 R_Mo y_Mo_draws w_Mo_draws) := wGa (fun w hw => by
  rcases List.mem_cons.mp hw with e | hw
  · exact e ▸ k_930
  rcases List.mem_cons.mp hw with e | hw
  · exact e ▸ k_931
  rcases List.mem_cons.mp hw with e | hw
  · exact e ▸ k_932
  rcases List.mem_cons.mp hw with e | hw
  · exact e ▸ k_185
  · exact absurd hw List.not_mem_nil) (wGc k_933)
theorem g_Lw_36 : GoodIn wG (wsV R_Lw 36 R_PQ y_PQ_count w_PQ_count) := wGa (fun w hw => by
  rcases List.mem_cons.mp hw with e | hw
  · exact e ▸ k_934
  rcases List.mem_cons.mp hw with e | hw
  · exact e ▸ k_935
  rcases List.mem_cons.mp hw with e | hw
  · exact e ▸ k_936
  rcases List.mem_cons.mp hw with e | hw
  · exact e ▸ k_521
  · exact absurd hw List.not_mem_nil) (wGc k_937)
theorem g_Lw_39 : GoodIn wG (wsV R_Lw 39 R_Mo y_Mo_count w_Mo_count) := wGa (fun w hw => by
  rcases List.mem_cons.mp hw with e | hw
  · exact e ▸ k_938
  rcases List.mem_cons.mp hw with e | hw
  · exact e ▸ k_939
  rcases List.mem_cons.mp hw with e | hw
  · exact e ▸ k_940
  rcases List.mem_cons.mp hw with e | hw
  · exact e ▸ k_185
  · exact absurd hw List.not_mem_nil) (wGc k_941)
theorem g_Lw_40 : GoodIn wG (wsV R_Lw 40 R_PQ y_PQ_budget w_PQ_budget) := wGa (fun w hw => by
  rcases List.mem_cons.mp hw with e | hw
  · exact e ▸ k_942
  rcases List.mem_cons.mp hw with e | hw
  · exact e ▸ k_943
  rcases List.mem_cons.mp hw with e | hw
  · exact e ▸ k_944
  rcases List.mem_cons.mp hw with e | hw
  · exact e ▸ k_521
  · exact absurd hw List.not_mem_nil) (wGc k_945)
theorem g_Lw_43 : GoodIn wG (wsV R_Lw 43 R_Mo y_Mo_budget w_Mo_budget) := wGa (fun w hw => by
  rcases List.mem_cons.mp hw with e | hw
  · exact e ▸ k_946
  rcases List.mem_cons.mp hw with e | hw
  · exact e ▸ k_947
  rcases List.mem_cons.mp hw with e | hw
  · exact e ▸ k_948
  rcases List.mem_cons.mp hw with e | hw
  · exact e ▸ k_185
  · exact absurd hw List.not_mem_nil) (wGc k_949)
theorem g_Lw_44 : GoodIn wG (wsV R_Lw 44 R_PQ y_PQ_ledger w_PQ_ledger) := wGa (fun w hw => by
  rcases List.mem_cons.mp hw with e | hw
  · exact e ▸ k_950
  rcases List.mem_cons.mp hw with e | hw
  · exact e ▸ k_951
  rcases List.mem_cons.mp hw with e | hw
  · exact e ▸ k_952
  rcases List.mem_cons.mp hw with e | hw
  · exact e ▸ k_521
  · exact absurd hw List.not_mem_nil) (wGc k_953)
theorem g_Lw_47 : GoodIn wG (wsV R_Lw 47 R_Mo y_Mo_ledger w_Mo_ledger) := wGa (fun w hw => by
  rcases List.mem_cons.mp hw with e | hw
  · exact e ▸ k_954
  rcases List.mem_cons.mp hw with e | hw
  · exact e ▸ k_955
  rcases List.mem_cons.mp hw with e | hw
  · exact e ▸ k_956
  rcases List.mem_cons.mp hw with e | hw
  · exact e ▸ k_185
  · exact absurd hw List.not_mem_nil) (wGc k_957)
theorem g_Lw_50 : GoodIn wG (wsV R_Lw 50 R_PQ y_PQ_type w_PQ_type) := wGa (fun w hw => by
  rcases List.mem_cons.mp hw with e | hw
  · exact e ▸ k_959
  rcases List.mem_cons.mp hw with e | hw
  · exact e ▸ k_960
  rcases List.mem_cons.mp hw with e | hw
  · exact e ▸ k_961
  rcases List.mem_cons.mp hw with e | hw
  · exact e ▸ k_521
  · exact absurd hw List.not_mem_nil) (wGc k_962)
theorem g_Lw_54 : GoodIn wG (wsV R_Lw 54 R_Mo y_Mo_type w_Mo_type) := wGa (fun w hw => by
  rcases List.mem_cons.mp hw with e | hw
  · exact e ▸ k_963
  rcases List.mem_cons.mp hw with e | hw
  · exact e ▸ k_964
  rcases List.mem_cons.mp hw with e | hw
  · exact e ▸ k_965
  rcases List.mem_cons.mp hw with e | hw
  · exact e ▸ k_185
  · exact absurd hw List.not_mem_nil) (wGc k_966)
theorem g_Lw_55 : GoodIn wG (wsV R_Lw 55 R_PQ y_PQ_read w_PQ_read) := wGa (fun w hw => by
  rcases List.mem_cons.mp hw with e | hw
  · exact e ▸ k_967
  rcases List.mem_cons.mp hw with e | hw
  · exact e ▸ k_968
  rcases List.mem_cons.mp hw with e | hw
  · exact e ▸ k_969
  rcases List.mem_cons.mp hw with e | hw
  · exact e ▸ k_521
  · exact absurd hw List.not_mem_nil) (wGc k_970)
theorem g_Lw_59 : GoodIn wG (wsV R_Lw 59 R_Mo y_Mo_read w_Mo_read) := wGa (fun w hw => by
  rcases List.mem_cons.mp hw with e | hw
  · exact e ▸ k_971
  rcases List.mem_cons.mp hw with e | hw
  · exact e ▸ k_972
  rcases List.mem_cons.mp hw with e | hw
  · exact e ▸ k_973
  rcases List.mem_cons.mp hw with e | hw
  · exact e ▸ k_185
  · exact absurd hw List.not_mem_nil) (wGc k_974)
theorem g_Lw_60 : GoodIn wG (wsV R_Lw 60 R_PQ y_PQ_question w_PQ_question) := wGa (fun w hw => by
  rcases List.mem_cons.mp hw with e | hw
  · exact e ▸ k_975
  rcases List.mem_cons.mp hw with e | hw
  · exact e ▸ k_976
  rcases List.mem_cons.mp hw with e | hw
  · exact e ▸ k_977
  rcases List.mem_cons.mp hw with e | hw
  · exact e ▸ k_521
  · exact absurd hw List.not_mem_nil) (wGc k_978)
theorem g_Lw_63 : GoodIn wG (wsV R_Lw 63 R_Mo y_Mo_question w_Mo_question) := wGa (fun w hw => by
  rcases List.mem_cons.mp hw with e | hw
  · exact e ▸ k_979
  rcases List.mem_cons.mp hw with e | hw
  · exact e ▸ k_980
  rcases List.mem_cons.mp hw with e | hw
  · exact e ▸ k_981
  rcases List.mem_cons.mp hw with e | hw
  · exact e ▸ k_185
  · exact absurd hw List.not_mem_nil) (wGc k_982)
theorem g_Lw_64 : GoodIn wG (wsV R_Lw 64 R_PQ y_PQ_wants w_PQ_wants) := wGa (fun w hw => by
  rcases List.mem_cons.mp hw with e | hw
  · exact e ▸ k_983
  rcases List.mem_cons.mp hw with e | hw
  · exact e ▸ k_984
  rcases List.mem_cons.mp hw with e | hw
  · exact e ▸ k_985
  rcases List.mem_cons.mp hw with e | hw
  · exact e ▸ k_521
  · exact absurd hw List.not_mem_nil) (wGc k_986)
theorem g_Lw_67 : GoodIn wG (wsV R_Lw 67 R_Mo y_Mo_wants w_Mo_wants) := wGa (fun w hw => by
  rcases List.mem_cons.mp hw with e | hw
  · exact e ▸ k_987
  rcases List.mem_cons.mp hw with e | hw
  · exact e ▸ k_988
  rcases List.mem_cons.mp hw with e | hw
  · exact e ▸ k_989
  rcases List.mem_cons.mp hw with e | hw
  · exact e ▸ k_185
  · exact absurd hw List.not_mem_nil) (wGc k_990)
theorem g_Lw_68 : GoodIn wG (wsV R_Lw 68 R_PQ y_PQ_run w_PQ_run) := wGa (fun w hw => by
  rcases List.mem_cons.mp hw with e | hw
  · exact e ▸ k_991
  rcases List.mem_cons.mp hw with e | hw
  · exact e ▸ k_992
  rcases List.mem_cons.mp hw with e | hw
  · exact e ▸ k_993
  rcases List.mem_cons.mp hw with e | hw
  · exact e ▸ k_521
  · exact absurd hw List.not_mem_nil) (wGc k_994)
theorem g_Lw_71 : GoodIn wG (wsV R_Lw 71 R_Mo y_Mo_run w_Mo_run) := wGa (fun w hw => by
  rcases List.mem_cons.mp hw with e | hw
  · exact e ▸ k_995
  rcases List.mem_cons.mp hw with e | hw
  · exact e ▸ k_996
  rcases List.mem_cons.mp hw with e | hw
  · exact e ▸ k_997
  rcases List.mem_cons.mp hw with e | hw
  · exact e ▸ k_185
  · exact absurd hw List.not_mem_nil) (wGc k_998)
theorem g_Lw_72 : GoodIn wG (wsV R_Lw 72 R_PQ y_PQ_told w_PQ_told) := wGa (fun w hw => by
  rcases List.mem_cons.mp hw with e | hw
  · exact e ▸ k_999
  rcases List.mem_cons.mp hw with e | hw
  · exact e ▸ k_1000
  rcases List.mem_cons.mp hw with e | hw
  · exact e ▸ k_1001
  rcases List.mem_cons.mp hw with e | hw
  · exact e ▸ k_521
  · exact absurd hw List.not_mem_nil) (wGc k_1002)
theorem g_Lw_75 : GoodIn wG (wsV R_Lw 75 R_Mo y_Mo_told w_Mo_told) := wGa (fun w hw => by
  rcases List.mem_cons.mp hw with e | hw
  · exact e ▸ k_1003
  rcases List.mem_cons.mp hw with e | hw
  · exact e ▸ k_1004
  rcases List.mem_cons.mp hw with e | hw
  · exact e ▸ k_1005
  rcases List.mem_cons.mp hw with e | hw
  · exact e ▸ k_185
  · exact absurd hw List.not_mem_nil) (wGc k_1006)
theorem g_Lw_76 : GoodIn wG (wsV R_Lw 76 R_PQ y_PQ_noise w_PQ_noise) := wGa (fun w hw => by
  rcases List.mem_cons.mp hw with e | hw
  · exact e ▸ k_1007
  rcases List.mem_cons.mp hw with e | hw
  · exact e ▸ k_1008
  rcases List.mem_cons.mp hw with e | hw
  · exact e ▸ k_1009
  rcases List.mem_cons.mp hw with e | hw
  · exact e ▸ k_521
  · exact absurd hw List.not_mem_nil) (wGc k_1010)
theorem g_Lw_79 : GoodIn wG (wsV R_Lw 79 R_Mo y_Mo_noise w_Mo_noise) := wGa (fun w hw => by
  rcases List.mem_cons.mp hw with e | hw
  · exact e ▸ k_1011
  rcases List.mem_cons.mp hw with e | hw
  · exact e ▸ k_1012
  rcases List.mem_cons.mp hw with e | hw
  · exact e ▸ k_1013
  rcases List.mem_cons.mp hw with e | hw
  · exact e ▸ k_185
  · exact absurd hw List.not_mem_nil) (wGc k_1014)
theorem g_Lw_80 : GoodIn wG (wsV R_Lw 80 R_PQ y_PQ_print w_PQ_print) := wGa (fun w hw => by
  rcases List.mem_cons.mp hw with e | hw
  · exact e ▸ k_1015
  rcases List.mem_cons.mp hw with e | hw
  · exact e ▸ k_1016
  rcases List.mem_cons.mp hw with e | hw
  · exact e ▸ k_1017
  rcases List.mem_cons.mp hw with e | hw
  · exact e ▸ k_521
  · exact absurd hw List.not_mem_nil) (wGc k_1018)
theorem g_Lw_83 : GoodIn wG (wsV R_Lw 83 R_Mo y_Mo_print w_Mo_print) := wGa (fun w hw => by
  rcases List.mem_cons.mp hw with e | hw
  · exact e ▸ k_1019
  rcases List.mem_cons.mp hw with e | hw
  · exact e ▸ k_1020
  rcases List.mem_cons.mp hw with e | hw
  · exact e ▸ k_1021
  rcases List.mem_cons.mp hw with e | hw
  · exact e ▸ k_185
  · exact absurd hw List.not_mem_nil) (wGc k_1022)
theorem g_Lw_84 : GoodIn wG (wsV R_Lw 84 R_PQ y_PQ_share w_PQ_share) := wGa (fun w hw => by
  rcases List.mem_cons.mp hw with e | hw
  · exact e ▸ k_1023
  rcases List.mem_cons.mp hw with e | hw
  · exact e ▸ k_1024
  rcases List.mem_cons.mp hw with e | hw
  · exact e ▸ k_1025
  rcases List.mem_cons.mp hw with e | hw
  · exact e ▸ k_521
  · exact absurd hw List.not_mem_nil) (wGc k_1026)
theorem g_Lw_88 : GoodIn wG (wsV R_Lw 88 R_Mo y_Mo_share w_Mo_share) := wGa (fun w hw => by
  rcases List.mem_cons.mp hw with e | hw
  · exact e ▸ k_1027
  rcases List.mem_cons.mp hw with e | hw
  · exact e ▸ k_1028
  rcases List.mem_cons.mp hw with e | hw
  · exact e ▸ k_1029
  rcases List.mem_cons.mp hw with e | hw
  · exact e ▸ k_185
  · exact absurd hw List.not_mem_nil) (wGc k_1030)
theorem g_Lw_89 : GoodIn wG (wsV R_Lw 89 R_PQ y_PQ_out w_PQ_out) := wGa (fun w hw => by
  rcases List.mem_cons.mp hw with e | hw
  · exact e ▸ k_1031
  rcases List.mem_cons.mp hw with e | hw
  · exact e ▸ k_1032
  rcases List.mem_cons.mp hw with e | hw
  · exact e ▸ k_1033
  rcases List.mem_cons.mp hw with e | hw
  · exact e ▸ k_521
  · exact absurd hw List.not_mem_nil) (wGc k_1034)
theorem g_Lw_92 : GoodIn wG (wsV R_Lw 92 R_Mo y_Mo_out w_Mo_out) := wGa (fun w hw => by
  rcases List.mem_cons.mp hw with e | hw
  · exact e ▸ k_1035
  rcases List.mem_cons.mp hw with e | hw
  · exact e ▸ k_1036
  rcases List.mem_cons.mp hw with e | hw
  · exact e ▸ k_1037
  rcases List.mem_cons.mp hw with e | hw
  · exact e ▸ k_185
  · exact absurd hw List.not_mem_nil) (wGc k_1038)
theorem g_Lw_93 : GoodIn wG (wsV R_Lw 93 R_PQ y_PQ_within w_PQ_within) := wGa (fun w hw => by
  rcases List.mem_cons.mp hw with e | hw
  · exact e ▸ k_1039
  rcases List.mem_cons.mp hw with e | hw
  · exact e ▸ k_1040
  rcases List.mem_cons.mp hw with e | hw
  · exact e ▸ k_1041
  rcases List.mem_cons.mp hw with e | hw
  · exact e ▸ k_521
  · exact absurd hw List.not_mem_nil) (wGc k_1042)
theorem g_Lw_97 : GoodIn wG (wsV R_Lw 97 R_Mo y_Mo_within w_Mo_within) := wGa (fun w hw => by
  rcases List.mem_cons.mp hw with e | hw
  · exact e ▸ k_1043
  rcases List.mem_cons.mp hw with e | hw
  · exact e ▸ k_1044
  rcases List.mem_cons.mp hw with e | hw
  · exact e ▸ k_1045
  rcases List.mem_cons.mp hw with e | hw
  · exact e ▸ k_185
  · exact absurd hw List.not_mem_nil) (wGc k_1046)
theorem g_Lw_9 : GoodIn wG (wsS R_Lw 9 y_Lw_cell w_Lw_cell) := wGa (fun w hw => by
  rcases List.mem_cons.mp hw with e | hw
  · exact e ▸ k_1050
  rcases List.mem_cons.mp hw with e | hw
  · exact e ▸ k_1051
  rcases List.mem_cons.mp hw with e | hw
  · exact e ▸ k_1052
  · exact absurd hw List.not_mem_nil) (wGc k_1053)
theorem g_Lw_15 : GoodIn wG w_PQ_init := wGc k_1054
theorem g_Lw_20 : GoodIn wG w_Mo_init := wGc k_1058
