/-! LAW: its cases, printed by wip/whole/law.py -/
theorem lwd_0 : Cond.methodLink RL 19 yX9_sign ∈ gb_B := gb_mem1 402 (by decide +kernel) (by decide +kernel)
theorem lwd_1 : Cond.instanceMethod yX9_sign ∈ gb_B := gb_mem1 403 (by decide +kernel) (by decide +kernel)
theorem lwd_2 : Cond.selects RX9 yX9_sign yX9_sign ∈ gb_B := gb_mem1 404 (by decide +kernel) (by decide +kernel)
theorem lwd_3 : Cond.initialized RX9 ∈ gb_B := gb_mem1 88 (by decide +kernel) (by decide +kernel)
theorem lwd_4 : Cond.code yX9_sign cX9_sign 2 (some .int) ∈ gb_B := gb_mem1 405 (by decide +kernel) (by decide +kernel)
theorem lwd_5 : Cond.methodLink RL 23 yX10_sign ∈ gb_B := gb_mem1 1193 (by decide +kernel) (by decide +kernel)
theorem lwd_6 : Cond.instanceMethod yX10_sign ∈ gb_B := gb_mem1 1194 (by decide +kernel) (by decide +kernel)
theorem lwd_7 : Cond.selects RX10 yX10_sign yX10_sign ∈ gb_B := gb_mem1 1195 (by decide +kernel) (by decide +kernel)
theorem lwd_8 : Cond.initialized RX10 ∈ gb_B := gb_mem1 98 (by decide +kernel) (by decide +kernel)
theorem lwd_9 : Cond.code yX10_sign cX10_sign 3 (some .int) ∈ gb_B := gb_mem1 1196 (by decide +kernel) (by decide +kernel)
theorem lwd_10 : Cond.methodLink RL 24 yX9_end ∈ gb_B := gb_mem1 410 (by decide +kernel) (by decide +kernel)
theorem lwd_11 : Cond.instanceMethod yX9_end ∈ gb_B := gb_mem1 411 (by decide +kernel) (by decide +kernel)
theorem lwd_12 : Cond.selects RX9 yX9_end yX9_end ∈ gb_B := gb_mem1 412 (by decide +kernel) (by decide +kernel)
theorem lwd_13 : Cond.code yX9_end cX9_end 2 (some .boolean) ∈ gb_B := gb_mem1 413 (by decide +kernel) (by decide +kernel)
theorem lwd_14 : Cond.methodLink RL 28 yX10_end ∈ gb_B := gb_mem1 1197 (by decide +kernel) (by decide +kernel)
theorem lwd_15 : Cond.instanceMethod yX10_end ∈ gb_B := gb_mem1 1198 (by decide +kernel) (by decide +kernel)
theorem lwd_16 : Cond.selects RX10 yX10_end yX10_end ∈ gb_B := gb_mem1 1199 (by decide +kernel) (by decide +kernel)
theorem lwd_17 : Cond.code yX10_end cX10_end 2 (some .boolean) ∈ gb_B := gb_mem1 1200 (by decide +kernel) (by decide +kernel)
theorem lwd_18 : Cond.methodLink RL 29 yX9_land ∈ gb_B := gb_mem1 418 (by decide +kernel) (by decide +kernel)
theorem lwd_19 : Cond.instanceMethod yX9_land ∈ gb_B := gb_mem1 419 (by decide +kernel) (by decide +kernel)
theorem lwd_20 : Cond.selects RX9 yX9_land yX9_land ∈ gb_B := gb_mem1 420 (by decide +kernel) (by decide +kernel)
theorem lwd_21 : Cond.code yX9_land cX9_land 2 (some .int) ∈ gb_B := gb_mem1 421 (by decide +kernel) (by decide +kernel)
theorem lwd_22 : Cond.methodLink RL 33 yX10_land ∈ gb_B := gb_mem1 1204 (by decide +kernel) (by decide +kernel)
theorem lwd_23 : Cond.instanceMethod yX10_land ∈ gb_B := gb_mem1 1205 (by decide +kernel) (by decide +kernel)
theorem lwd_24 : Cond.selects RX10 yX10_land yX10_land ∈ gb_B := gb_mem1 1206 (by decide +kernel) (by decide +kernel)
theorem lwd_25 : Cond.code yX10_land cX10_land 4 (some .int) ∈ gb_B := gb_mem1 1207 (by decide +kernel) (by decide +kernel)
theorem lwd_26 : Cond.methodLink RL 34 yX9_grade ∈ gb_B := gb_mem1 491 (by decide +kernel) (by decide +kernel)
theorem lwd_27 : Cond.instanceMethod yX9_grade ∈ gb_B := gb_mem1 492 (by decide +kernel) (by decide +kernel)
theorem lwd_28 : Cond.selects RX9 yX9_grade yX9_grade ∈ gb_B := gb_mem1 493 (by decide +kernel) (by decide +kernel)
theorem lwd_29 : Cond.code yX9_grade cX9_grade 3 (some .int) ∈ gb_B := gb_mem1 494 (by decide +kernel) (by decide +kernel)
theorem lwd_30 : Cond.methodLink RL 38 yX10_grade ∈ gb_B := gb_mem1 1253 (by decide +kernel) (by decide +kernel)
theorem lwd_31 : Cond.instanceMethod yX10_grade ∈ gb_B := gb_mem1 1254 (by decide +kernel) (by decide +kernel)
theorem lwd_32 : Cond.selects RX10 yX10_grade yX10_grade ∈ gb_B := gb_mem1 1255 (by decide +kernel) (by decide +kernel)
theorem lwd_33 : Cond.code yX10_grade cX10_grade 5 (some .int) ∈ gb_B := gb_mem1 1256 (by decide +kernel) (by decide +kernel)
theorem lwd_34 : Cond.methodLink RL 39 yX9_pair ∈ gb_B := gb_mem1 502 (by decide +kernel) (by decide +kernel)
theorem lwd_35 : Cond.instanceMethod yX9_pair ∈ gb_B := gb_mem1 503 (by decide +kernel) (by decide +kernel)
theorem lwd_36 : Cond.selects RX9 yX9_pair yX9_pair ∈ gb_B := gb_mem1 504 (by decide +kernel) (by decide +kernel)
theorem lwd_37 : Cond.code yX9_pair cX9_pair 3 (some .int) ∈ gb_B := gb_mem1 505 (by decide +kernel) (by decide +kernel)
theorem lwd_38 : Cond.methodLink RL 42 yX10_pair ∈ gb_B := gb_mem1 1273 (by decide +kernel) (by decide +kernel)
theorem lwd_39 : Cond.instanceMethod yX10_pair ∈ gb_B := gb_mem1 1274 (by decide +kernel) (by decide +kernel)
theorem lwd_40 : Cond.selects RX10 yX10_pair yX10_pair ∈ gb_B := gb_mem1 1275 (by decide +kernel) (by decide +kernel)
theorem lwd_41 : Cond.code yX10_pair cX10_pair 3 (some .int) ∈ gb_B := gb_mem1 1276 (by decide +kernel) (by decide +kernel)
theorem lwd_42 : Cond.methodLink RL 43 yX9_bin ∈ gb_B := gb_mem1 514 (by decide +kernel) (by decide +kernel)
theorem lwd_43 : Cond.instanceMethod yX9_bin ∈ gb_B := gb_mem1 515 (by decide +kernel) (by decide +kernel)
theorem lwd_44 : Cond.selects RX9 yX9_bin yX9_bin ∈ gb_B := gb_mem1 516 (by decide +kernel) (by decide +kernel)
theorem lwd_45 : Cond.code yX9_bin cX9_bin 3 (some .int) ∈ gb_B := gb_mem1 517 (by decide +kernel) (by decide +kernel)
theorem lwd_46 : Cond.methodLink RL 46 yX10_bin ∈ gb_B := gb_mem1 1281 (by decide +kernel) (by decide +kernel)
theorem lwd_47 : Cond.instanceMethod yX10_bin ∈ gb_B := gb_mem1 1282 (by decide +kernel) (by decide +kernel)
theorem lwd_48 : Cond.selects RX10 yX10_bin yX10_bin ∈ gb_B := gb_mem1 1283 (by decide +kernel) (by decide +kernel)
theorem lwd_49 : Cond.code yX10_bin cX10_bin 3 (some .int) ∈ gb_B := gb_mem1 1284 (by decide +kernel) (by decide +kernel)
theorem lwd_50 : Cond.methodLink RL 47 yX9_layer ∈ gb_B := gb_mem1 528 (by decide +kernel) (by decide +kernel)
theorem lwd_51 : Cond.instanceMethod yX9_layer ∈ gb_B := gb_mem1 529 (by decide +kernel) (by decide +kernel)
theorem lwd_52 : Cond.selects RX9 yX9_layer yX9_layer ∈ gb_B := gb_mem1 530 (by decide +kernel) (by decide +kernel)
theorem lwd_53 : Cond.code yX9_layer cX9_layer 5 (some .int) ∈ gb_B := gb_mem1 531 (by decide +kernel) (by decide +kernel)
theorem lwd_54 : Cond.methodLink RL 51 yX10_layer ∈ gb_B := gb_mem1 1296 (by decide +kernel) (by decide +kernel)
theorem lwd_55 : Cond.instanceMethod yX10_layer ∈ gb_B := gb_mem1 1297 (by decide +kernel) (by decide +kernel)
theorem lwd_56 : Cond.selects RX10 yX10_layer yX10_layer ∈ gb_B := gb_mem1 1298 (by decide +kernel) (by decide +kernel)
theorem lwd_57 : Cond.code yX10_layer cX10_layer 4 (some .int) ∈ gb_B := gb_mem1 1299 (by decide +kernel) (by decide +kernel)
theorem lwd_58 : Cond.methodLink RL 52 yX9_load ∈ gb_B := gb_mem1 540 (by decide +kernel) (by decide +kernel)
theorem lwd_59 : Cond.instanceMethod yX9_load ∈ gb_B := gb_mem1 541 (by decide +kernel) (by decide +kernel)
theorem lwd_60 : Cond.selects RX9 yX9_load yX9_load ∈ gb_B := gb_mem1 542 (by decide +kernel) (by decide +kernel)
theorem lwd_61 : Cond.code yX9_load cX9_load 5 (some .int) ∈ gb_B := gb_mem1 543 (by decide +kernel) (by decide +kernel)
theorem lwd_62 : Cond.methodLink RL 55 yX10_load ∈ gb_B := gb_mem1 1309 (by decide +kernel) (by decide +kernel)
theorem lwd_63 : Cond.instanceMethod yX10_load ∈ gb_B := gb_mem1 1310 (by decide +kernel) (by decide +kernel)
theorem lwd_64 : Cond.selects RX10 yX10_load yX10_load ∈ gb_B := gb_mem1 1311 (by decide +kernel) (by decide +kernel)
theorem lwd_65 : Cond.code yX10_load cX10_load 5 (some .int) ∈ gb_B := gb_mem1 1312 (by decide +kernel) (by decide +kernel)
theorem lwd_66 : Cond.methodLink RL 56 yX9_draw ∈ gb_B := gb_mem1 580 (by decide +kernel) (by decide +kernel)
theorem lwd_67 : Cond.instanceMethod yX9_draw ∈ gb_B := gb_mem1 581 (by decide +kernel) (by decide +kernel)
theorem lwd_68 : Cond.selects RX9 yX9_draw yX9_draw ∈ gb_B := gb_mem1 582 (by decide +kernel) (by decide +kernel)
theorem lwd_69 : Cond.code yX9_draw cX9_draw 4 (some .int) ∈ gb_B := gb_mem1 583 (by decide +kernel) (by decide +kernel)
theorem lwd_70 : Cond.methodLink RL 59 yX10_draw ∈ gb_B := gb_mem1 1353 (by decide +kernel) (by decide +kernel)
theorem lwd_71 : Cond.instanceMethod yX10_draw ∈ gb_B := gb_mem1 1354 (by decide +kernel) (by decide +kernel)
theorem lwd_72 : Cond.selects RX10 yX10_draw yX10_draw ∈ gb_B := gb_mem1 1355 (by decide +kernel) (by decide +kernel)
theorem lwd_73 : Cond.code yX10_draw cX10_draw 6 (some .int) ∈ gb_B := gb_mem1 1356 (by decide +kernel) (by decide +kernel)
theorem lwd_74 : Cond.methodLink RL 60 yX9_move ∈ gb_B := gb_mem1 616 (by decide +kernel) (by decide +kernel)
theorem lwd_75 : Cond.instanceMethod yX9_move ∈ gb_B := gb_mem1 617 (by decide +kernel) (by decide +kernel)
theorem lwd_76 : Cond.selects RX9 yX9_move yX9_move ∈ gb_B := gb_mem1 618 (by decide +kernel) (by decide +kernel)
theorem lwd_77 : Cond.code yX9_move cX9_move 6 (some .int) ∈ gb_B := gb_mem1 619 (by decide +kernel) (by decide +kernel)
theorem lwd_78 : Cond.methodLink RL 63 yX10_move ∈ gb_B := gb_mem1 1373 (by decide +kernel) (by decide +kernel)
theorem lwd_79 : Cond.instanceMethod yX10_move ∈ gb_B := gb_mem1 1374 (by decide +kernel) (by decide +kernel)
theorem lwd_80 : Cond.selects RX10 yX10_move yX10_move ∈ gb_B := gb_mem1 1375 (by decide +kernel) (by decide +kernel)
theorem lwd_81 : Cond.code yX10_move cX10_move 6 (some .int) ∈ gb_B := gb_mem1 1376 (by decide +kernel) (by decide +kernel)
theorem lwd_82 : Cond.methodLink RL 64 yX9_turn ∈ gb_B := gb_mem1 654 (by decide +kernel) (by decide +kernel)
theorem lwd_83 : Cond.instanceMethod yX9_turn ∈ gb_B := gb_mem1 655 (by decide +kernel) (by decide +kernel)
theorem lwd_84 : Cond.selects RX9 yX9_turn yX9_turn ∈ gb_B := gb_mem1 656 (by decide +kernel) (by decide +kernel)
theorem lwd_85 : Cond.code yX9_turn cX9_turn 3 (some .int) ∈ gb_B := gb_mem1 657 (by decide +kernel) (by decide +kernel)
theorem lwd_86 : Cond.methodLink RL 67 yX10_turn ∈ gb_B := gb_mem1 1405 (by decide +kernel) (by decide +kernel)
theorem lwd_87 : Cond.instanceMethod yX10_turn ∈ gb_B := gb_mem1 1406 (by decide +kernel) (by decide +kernel)
theorem lwd_88 : Cond.selects RX10 yX10_turn yX10_turn ∈ gb_B := gb_mem1 1407 (by decide +kernel) (by decide +kernel)
theorem lwd_89 : Cond.code yX10_turn cX10_turn 4 (some .int) ∈ gb_B := gb_mem1 1408 (by decide +kernel) (by decide +kernel)
theorem lwd_90 : Cond.methodLink RL 68 yX9_fumes ∈ gb_B := gb_mem1 670 (by decide +kernel) (by decide +kernel)
theorem lwd_91 : Cond.instanceMethod yX9_fumes ∈ gb_B := gb_mem1 671 (by decide +kernel) (by decide +kernel)
theorem lwd_92 : Cond.selects RX9 yX9_fumes yX9_fumes ∈ gb_B := gb_mem1 672 (by decide +kernel) (by decide +kernel)
theorem lwd_93 : Cond.code yX9_fumes cX9_fumes 3 (some .int) ∈ gb_B := gb_mem1 673 (by decide +kernel) (by decide +kernel)
theorem lwd_94 : Cond.methodLink RL 71 yX10_fumes ∈ gb_B := gb_mem1 1409 (by decide +kernel) (by decide +kernel)
theorem lwd_95 : Cond.instanceMethod yX10_fumes ∈ gb_B := gb_mem1 1410 (by decide +kernel) (by decide +kernel)
theorem lwd_96 : Cond.selects RX10 yX10_fumes yX10_fumes ∈ gb_B := gb_mem1 1411 (by decide +kernel) (by decide +kernel)
theorem lwd_97 : Cond.code yX10_fumes cX10_fumes 3 (some .int) ∈ gb_B := gb_mem1 1412 (by decide +kernel) (by decide +kernel)
theorem lwd_98 : Cond.methodLink RL 72 yX9_days ∈ gb_B := gb_mem1 678 (by decide +kernel) (by decide +kernel)
theorem lwd_99 : Cond.instanceMethod yX9_days ∈ gb_B := gb_mem1 679 (by decide +kernel) (by decide +kernel)
theorem lwd_100 : Cond.selects RX9 yX9_days yX9_days ∈ gb_B := gb_mem1 680 (by decide +kernel) (by decide +kernel)
theorem lwd_101 : Cond.code yX9_days cX9_days 2 (some .int) ∈ gb_B := gb_mem1 681 (by decide +kernel) (by decide +kernel)
theorem lwd_102 : Cond.methodLink RL 75 yX10_days ∈ gb_B := gb_mem1 1418 (by decide +kernel) (by decide +kernel)
theorem lwd_103 : Cond.instanceMethod yX10_days ∈ gb_B := gb_mem1 1419 (by decide +kernel) (by decide +kernel)
theorem lwd_104 : Cond.selects RX10 yX10_days yX10_days ∈ gb_B := gb_mem1 1420 (by decide +kernel) (by decide +kernel)
theorem lwd_105 : Cond.code yX10_days cX10_days 2 (some .int) ∈ gb_B := gb_mem1 1421 (by decide +kernel) (by decide +kernel)
theorem lwd_106 : Cond.methodLink RL 76 yX9_price ∈ gb_B := gb_mem1 682 (by decide +kernel) (by decide +kernel)
theorem lwd_107 : Cond.instanceMethod yX9_price ∈ gb_B := gb_mem1 683 (by decide +kernel) (by decide +kernel)
theorem lwd_108 : Cond.selects RX9 yX9_price yX9_price ∈ gb_B := gb_mem1 684 (by decide +kernel) (by decide +kernel)
theorem lwd_109 : Cond.code yX9_price cX9_price 4 (some .int) ∈ gb_B := gb_mem1 685 (by decide +kernel) (by decide +kernel)
theorem lwd_110 : Cond.methodLink RL 79 yX10_price ∈ gb_B := gb_mem1 1422 (by decide +kernel) (by decide +kernel)
theorem lwd_111 : Cond.instanceMethod yX10_price ∈ gb_B := gb_mem1 1423 (by decide +kernel) (by decide +kernel)
theorem lwd_112 : Cond.selects RX10 yX10_price yX10_price ∈ gb_B := gb_mem1 1424 (by decide +kernel) (by decide +kernel)
theorem lwd_113 : Cond.code yX10_price cX10_price 4 (some .int) ∈ gb_B := gb_mem1 1425 (by decide +kernel) (by decide +kernel)
theorem lwd_114 : Cond.methodLink RL 80 yX9_sells ∈ gb_B := gb_mem1 686 (by decide +kernel) (by decide +kernel)
theorem lwd_115 : Cond.instanceMethod yX9_sells ∈ gb_B := gb_mem1 687 (by decide +kernel) (by decide +kernel)
theorem lwd_116 : Cond.selects RX9 yX9_sells yX9_sells ∈ gb_B := gb_mem1 688 (by decide +kernel) (by decide +kernel)
theorem lwd_117 : Cond.code yX9_sells cX9_sells 6 (some .int) ∈ gb_B := gb_mem1 689 (by decide +kernel) (by decide +kernel)
theorem lwd_118 : Cond.methodLink RL 83 yX10_sells ∈ gb_B := gb_mem1 1427 (by decide +kernel) (by decide +kernel)
theorem lwd_119 : Cond.instanceMethod yX10_sells ∈ gb_B := gb_mem1 1428 (by decide +kernel) (by decide +kernel)
theorem lwd_120 : Cond.selects RX10 yX10_sells yX10_sells ∈ gb_B := gb_mem1 1429 (by decide +kernel) (by decide +kernel)
theorem lwd_121 : Cond.code yX10_sells cX10_sells 5 (some .int) ∈ gb_B := gb_mem1 1430 (by decide +kernel) (by decide +kernel)
theorem lwd_122 : Cond.methodLink RL 84 yX9_value ∈ gb_B := gb_mem1 729 (by decide +kernel) (by decide +kernel)
theorem lwd_123 : Cond.instanceMethod yX9_value ∈ gb_B := gb_mem1 730 (by decide +kernel) (by decide +kernel)
theorem lwd_124 : Cond.selects RX9 yX9_value yX9_value ∈ gb_B := gb_mem1 731 (by decide +kernel) (by decide +kernel)
theorem lwd_125 : Cond.code yX9_value cX9_value 2 (some .int) ∈ gb_B := gb_mem1 732 (by decide +kernel) (by decide +kernel)
theorem lwd_126 : Cond.methodLink RL 87 yX10_value ∈ gb_B := gb_mem1 1471 (by decide +kernel) (by decide +kernel)
theorem lwd_127 : Cond.instanceMethod yX10_value ∈ gb_B := gb_mem1 1472 (by decide +kernel) (by decide +kernel)
theorem lwd_128 : Cond.selects RX10 yX10_value yX10_value ∈ gb_B := gb_mem1 1473 (by decide +kernel) (by decide +kernel)
theorem lwd_129 : Cond.code yX10_value cX10_value 4 (some .int) ∈ gb_B := gb_mem1 1474 (by decide +kernel) (by decide +kernel)
theorem lwd_130 : Cond.methodLink RL 88 yX9_all ∈ gb_B := gb_mem1 739 (by decide +kernel) (by decide +kernel)
theorem lwd_131 : Cond.instanceMethod yX9_all ∈ gb_B := gb_mem1 740 (by decide +kernel) (by decide +kernel)
theorem lwd_132 : Cond.selects RX9 yX9_all yX9_all ∈ gb_B := gb_mem1 741 (by decide +kernel) (by decide +kernel)
theorem lwd_133 : Cond.code yX9_all cX9_all 2 (some .int) ∈ gb_B := gb_mem1 742 (by decide +kernel) (by decide +kernel)
theorem lwd_134 : Cond.methodLink RL 91 yX10_all ∈ gb_B := gb_mem1 1475 (by decide +kernel) (by decide +kernel)
theorem lwd_135 : Cond.instanceMethod yX10_all ∈ gb_B := gb_mem1 1476 (by decide +kernel) (by decide +kernel)
theorem lwd_136 : Cond.selects RX10 yX10_all yX10_all ∈ gb_B := gb_mem1 1477 (by decide +kernel) (by decide +kernel)
theorem lwd_137 : Cond.code yX10_all cX10_all 2 (some .int) ∈ gb_B := gb_mem1 1478 (by decide +kernel) (by decide +kernel)
theorem lwd_138 : Cond.methodLink RL 92 yX9_mixed ∈ gb_B := gb_mem1 743 (by decide +kernel) (by decide +kernel)
theorem lwd_139 : Cond.instanceMethod yX9_mixed ∈ gb_B := gb_mem1 744 (by decide +kernel) (by decide +kernel)
theorem lwd_140 : Cond.selects RX9 yX9_mixed yX9_mixed ∈ gb_B := gb_mem1 745 (by decide +kernel) (by decide +kernel)
theorem lwd_141 : Cond.code yX9_mixed cX9_mixed 6 (some .int) ∈ gb_B := gb_mem1 746 (by decide +kernel) (by decide +kernel)
theorem lwd_142 : Cond.methodLink RL 95 yX10_mixed ∈ gb_B := gb_mem1 1479 (by decide +kernel) (by decide +kernel)
theorem lwd_143 : Cond.instanceMethod yX10_mixed ∈ gb_B := gb_mem1 1480 (by decide +kernel) (by decide +kernel)
theorem lwd_144 : Cond.selects RX10 yX10_mixed yX10_mixed ∈ gb_B := gb_mem1 1481 (by decide +kernel) (by decide +kernel)
theorem lwd_145 : Cond.code yX10_mixed cX10_mixed 6 (some .int) ∈ gb_B := gb_mem1 1482 (by decide +kernel) (by decide +kernel)
theorem lwd_146 : Cond.methodLink RL 96 yX9_would ∈ gb_B := gb_mem1 748 (by decide +kernel) (by decide +kernel)
theorem lwd_147 : Cond.instanceMethod yX9_would ∈ gb_B := gb_mem1 749 (by decide +kernel) (by decide +kernel)
theorem lwd_148 : Cond.selects RX9 yX9_would yX9_would ∈ gb_B := gb_mem1 750 (by decide +kernel) (by decide +kernel)
theorem lwd_149 : Cond.code yX9_would cX9_would 6 (some .int) ∈ gb_B := gb_mem1 751 (by decide +kernel) (by decide +kernel)
theorem lwd_150 : Cond.methodLink RL 99 yX10_would ∈ gb_B := gb_mem1 1483 (by decide +kernel) (by decide +kernel)
theorem lwd_151 : Cond.instanceMethod yX10_would ∈ gb_B := gb_mem1 1484 (by decide +kernel) (by decide +kernel)
theorem lwd_152 : Cond.selects RX10 yX10_would yX10_would ∈ gb_B := gb_mem1 1485 (by decide +kernel) (by decide +kernel)
theorem lwd_153 : Cond.code yX10_would cX10_would 6 (some .int) ∈ gb_B := gb_mem1 1486 (by decide +kernel) (by decide +kernel)
theorem lwd_154 : Cond.methodLink RL 100 yX9_worst ∈ gb_B := gb_mem1 762 (by decide +kernel) (by decide +kernel)
theorem lwd_155 : Cond.instanceMethod yX9_worst ∈ gb_B := gb_mem1 763 (by decide +kernel) (by decide +kernel)
theorem lwd_156 : Cond.selects RX9 yX9_worst yX9_worst ∈ gb_B := gb_mem1 764 (by decide +kernel) (by decide +kernel)
theorem lwd_157 : Cond.code yX9_worst cX9_worst 8 (some .int) ∈ gb_B := gb_mem1 765 (by decide +kernel) (by decide +kernel)
theorem lwd_158 : Cond.methodLink RL 103 yX10_worst ∈ gb_B := gb_mem1 1492 (by decide +kernel) (by decide +kernel)
theorem lwd_159 : Cond.instanceMethod yX10_worst ∈ gb_B := gb_mem1 1493 (by decide +kernel) (by decide +kernel)
theorem lwd_160 : Cond.selects RX10 yX10_worst yX10_worst ∈ gb_B := gb_mem1 1494 (by decide +kernel) (by decide +kernel)
theorem lwd_161 : Cond.code yX10_worst cX10_worst 7 (some .int) ∈ gb_B := gb_mem1 1495 (by decide +kernel) (by decide +kernel)
theorem lwd_162 : Cond.methodLink RL 104 yX9_dear ∈ gb_B := gb_mem1 766 (by decide +kernel) (by decide +kernel)
theorem lwd_163 : Cond.instanceMethod yX9_dear ∈ gb_B := gb_mem1 767 (by decide +kernel) (by decide +kernel)
theorem lwd_164 : Cond.selects RX9 yX9_dear yX9_dear ∈ gb_B := gb_mem1 768 (by decide +kernel) (by decide +kernel)
theorem lwd_165 : Cond.code yX9_dear cX9_dear 5 (some .int) ∈ gb_B := gb_mem1 769 (by decide +kernel) (by decide +kernel)
theorem lwd_166 : Cond.methodLink RL 107 yX10_dear ∈ gb_B := gb_mem1 1519 (by decide +kernel) (by decide +kernel)
theorem lwd_167 : Cond.instanceMethod yX10_dear ∈ gb_B := gb_mem1 1520 (by decide +kernel) (by decide +kernel)
theorem lwd_168 : Cond.selects RX10 yX10_dear yX10_dear ∈ gb_B := gb_mem1 1521 (by decide +kernel) (by decide +kernel)
theorem lwd_169 : Cond.code yX10_dear cX10_dear 6 (some .int) ∈ gb_B := gb_mem1 1522 (by decide +kernel) (by decide +kernel)
theorem lwd_170 : Cond.methodLink RL 108 yX9_best ∈ gb_B := gb_mem1 774 (by decide +kernel) (by decide +kernel)
theorem lwd_171 : Cond.instanceMethod yX9_best ∈ gb_B := gb_mem1 775 (by decide +kernel) (by decide +kernel)
theorem lwd_172 : Cond.selects RX9 yX9_best yX9_best ∈ gb_B := gb_mem1 776 (by decide +kernel) (by decide +kernel)
theorem lwd_173 : Cond.code yX9_best cX9_best 7 (some .int) ∈ gb_B := gb_mem1 777 (by decide +kernel) (by decide +kernel)
theorem lwd_174 : Cond.methodLink RL 111 yX10_best ∈ gb_B := gb_mem1 1496 (by decide +kernel) (by decide +kernel)
theorem lwd_175 : Cond.instanceMethod yX10_best ∈ gb_B := gb_mem1 1497 (by decide +kernel) (by decide +kernel)
theorem lwd_176 : Cond.selects RX10 yX10_best yX10_best ∈ gb_B := gb_mem1 1498 (by decide +kernel) (by decide +kernel)
theorem lwd_177 : Cond.code yX10_best cX10_best 7 (some .int) ∈ gb_B := gb_mem1 1499 (by decide +kernel) (by decide +kernel)
theorem lwd_178 : Cond.methodLink RL 112 yX9_lays ∈ gb_B := gb_mem1 778 (by decide +kernel) (by decide +kernel)
theorem lwd_179 : Cond.instanceMethod yX9_lays ∈ gb_B := gb_mem1 779 (by decide +kernel) (by decide +kernel)
theorem lwd_180 : Cond.selects RX9 yX9_lays yX9_lays ∈ gb_B := gb_mem1 780 (by decide +kernel) (by decide +kernel)
theorem lwd_181 : Cond.code yX9_lays cX9_lays 4 (some .int) ∈ gb_B := gb_mem1 781 (by decide +kernel) (by decide +kernel)
theorem lwd_182 : Cond.methodLink RL 115 yX10_lays ∈ gb_B := gb_mem1 1500 (by decide +kernel) (by decide +kernel)
theorem lwd_183 : Cond.instanceMethod yX10_lays ∈ gb_B := gb_mem1 1501 (by decide +kernel) (by decide +kernel)
theorem lwd_184 : Cond.selects RX10 yX10_lays yX10_lays ∈ gb_B := gb_mem1 1502 (by decide +kernel) (by decide +kernel)
theorem lwd_185 : Cond.code yX10_lays cX10_lays 3 (some .int) ∈ gb_B := gb_mem1 1503 (by decide +kernel) (by decide +kernel)
theorem lwd_186 : Cond.methodLink RL 116 yX9_few ∈ gb_B := gb_mem1 826 (by decide +kernel) (by decide +kernel)
theorem lwd_187 : Cond.instanceMethod yX9_few ∈ gb_B := gb_mem1 827 (by decide +kernel) (by decide +kernel)
theorem lwd_188 : Cond.selects RX9 yX9_few yX9_few ∈ gb_B := gb_mem1 828 (by decide +kernel) (by decide +kernel)
theorem lwd_189 : Cond.code yX9_few cX9_few 3 (some .int) ∈ gb_B := gb_mem1 829 (by decide +kernel) (by decide +kernel)
theorem lwd_190 : Cond.methodLink RL 119 yX10_few ∈ gb_B := gb_mem1 1515 (by decide +kernel) (by decide +kernel)
theorem lwd_191 : Cond.instanceMethod yX10_few ∈ gb_B := gb_mem1 1516 (by decide +kernel) (by decide +kernel)
theorem lwd_192 : Cond.selects RX10 yX10_few yX10_few ∈ gb_B := gb_mem1 1517 (by decide +kernel) (by decide +kernel)
theorem lwd_193 : Cond.code yX10_few cX10_few 1 (some .int) ∈ gb_B := gb_mem1 1518 (by decide +kernel) (by decide +kernel)
theorem lwd_194 : Cond.methodLink RL 120 yX9_room ∈ gb_B := gb_mem1 848 (by decide +kernel) (by decide +kernel)
theorem lwd_195 : Cond.instanceMethod yX9_room ∈ gb_B := gb_mem1 849 (by decide +kernel) (by decide +kernel)
theorem lwd_196 : Cond.selects RX9 yX9_room yX9_room ∈ gb_B := gb_mem1 850 (by decide +kernel) (by decide +kernel)
theorem lwd_197 : Cond.code yX9_room cX9_room 6 (some .int) ∈ gb_B := gb_mem1 851 (by decide +kernel) (by decide +kernel)
theorem lwd_198 : Cond.methodLink RL 123 yX10_room ∈ gb_B := gb_mem1 1527 (by decide +kernel) (by decide +kernel)
theorem lwd_199 : Cond.instanceMethod yX10_room ∈ gb_B := gb_mem1 1528 (by decide +kernel) (by decide +kernel)
theorem lwd_200 : Cond.selects RX10 yX10_room yX10_room ∈ gb_B := gb_mem1 1529 (by decide +kernel) (by decide +kernel)
theorem lwd_201 : Cond.code yX10_room cX10_room 6 (some .int) ∈ gb_B := gb_mem1 1530 (by decide +kernel) (by decide +kernel)
theorem lwd_202 : Cond.methodLink RL 124 yX9_takers ∈ gb_B := gb_mem1 852 (by decide +kernel) (by decide +kernel)
theorem lwd_203 : Cond.instanceMethod yX9_takers ∈ gb_B := gb_mem1 853 (by decide +kernel) (by decide +kernel)
theorem lwd_204 : Cond.selects RX9 yX9_takers yX9_takers ∈ gb_B := gb_mem1 854 (by decide +kernel) (by decide +kernel)
theorem lwd_205 : Cond.code yX9_takers cX9_takers 6 (some .int) ∈ gb_B := gb_mem1 855 (by decide +kernel) (by decide +kernel)
theorem lwd_206 : Cond.methodLink RL 127 yX10_takers ∈ gb_B := gb_mem1 1523 (by decide +kernel) (by decide +kernel)
theorem lwd_207 : Cond.instanceMethod yX10_takers ∈ gb_B := gb_mem1 1524 (by decide +kernel) (by decide +kernel)
theorem lwd_208 : Cond.selects RX10 yX10_takers yX10_takers ∈ gb_B := gb_mem1 1525 (by decide +kernel) (by decide +kernel)
theorem lwd_209 : Cond.code yX10_takers cX10_takers 6 (some .int) ∈ gb_B := gb_mem1 1526 (by decide +kernel) (by decide +kernel)
theorem lwd_210 : Cond.methodLink RL 128 yX9_bottom ∈ gb_B := gb_mem1 856 (by decide +kernel) (by decide +kernel)
theorem lwd_211 : Cond.instanceMethod yX9_bottom ∈ gb_B := gb_mem1 857 (by decide +kernel) (by decide +kernel)
theorem lwd_212 : Cond.selects RX9 yX9_bottom yX9_bottom ∈ gb_B := gb_mem1 858 (by decide +kernel) (by decide +kernel)
theorem lwd_213 : Cond.code yX9_bottom cX9_bottom 4 (some .int) ∈ gb_B := gb_mem1 859 (by decide +kernel) (by decide +kernel)
theorem lwd_214 : Cond.methodLink RL 131 yX10_bottom ∈ gb_B := gb_mem1 1531 (by decide +kernel) (by decide +kernel)
theorem lwd_215 : Cond.instanceMethod yX10_bottom ∈ gb_B := gb_mem1 1532 (by decide +kernel) (by decide +kernel)
theorem lwd_216 : Cond.selects RX10 yX10_bottom yX10_bottom ∈ gb_B := gb_mem1 1533 (by decide +kernel) (by decide +kernel)
theorem lwd_217 : Cond.code yX10_bottom cX10_bottom 4 (some .int) ∈ gb_B := gb_mem1 1534 (by decide +kernel) (by decide +kernel)
theorem lwd_218 : Cond.methodLink RL 132 yX9_reaches ∈ gb_B := gb_mem1 865 (by decide +kernel) (by decide +kernel)
theorem lwd_219 : Cond.instanceMethod yX9_reaches ∈ gb_B := gb_mem1 866 (by decide +kernel) (by decide +kernel)
theorem lwd_220 : Cond.selects RX9 yX9_reaches yX9_reaches ∈ gb_B := gb_mem1 867 (by decide +kernel) (by decide +kernel)
theorem lwd_221 : Cond.code yX9_reaches cX9_reaches 7 (some .int) ∈ gb_B := gb_mem1 868 (by decide +kernel) (by decide +kernel)
theorem lwd_222 : Cond.methodLink RL 135 yX10_reaches ∈ gb_B := gb_mem1 1535 (by decide +kernel) (by decide +kernel)
theorem lwd_223 : Cond.instanceMethod yX10_reaches ∈ gb_B := gb_mem1 1536 (by decide +kernel) (by decide +kernel)
theorem lwd_224 : Cond.selects RX10 yX10_reaches yX10_reaches ∈ gb_B := gb_mem1 1537 (by decide +kernel) (by decide +kernel)
theorem lwd_225 : Cond.code yX10_reaches cX10_reaches 7 (some .int) ∈ gb_B := gb_mem1 1538 (by decide +kernel) (by decide +kernel)
theorem lwd_226 : Cond.methodLink RL 136 yX9_serves ∈ gb_B := gb_mem1 874 (by decide +kernel) (by decide +kernel)
theorem lwd_227 : Cond.instanceMethod yX9_serves ∈ gb_B := gb_mem1 875 (by decide +kernel) (by decide +kernel)
theorem lwd_228 : Cond.selects RX9 yX9_serves yX9_serves ∈ gb_B := gb_mem1 876 (by decide +kernel) (by decide +kernel)
theorem lwd_229 : Cond.code yX9_serves cX9_serves 4 (some .int) ∈ gb_B := gb_mem1 877 (by decide +kernel) (by decide +kernel)
theorem lwd_230 : Cond.methodLink RL 139 yX10_serves ∈ gb_B := gb_mem1 1543 (by decide +kernel) (by decide +kernel)
theorem lwd_231 : Cond.instanceMethod yX10_serves ∈ gb_B := gb_mem1 1544 (by decide +kernel) (by decide +kernel)
theorem lwd_232 : Cond.selects RX10 yX10_serves yX10_serves ∈ gb_B := gb_mem1 1545 (by decide +kernel) (by decide +kernel)
theorem lwd_233 : Cond.code yX10_serves cX10_serves 2 (some .int) ∈ gb_B := gb_mem1 1546 (by decide +kernel) (by decide +kernel)
theorem lwd_234 : Cond.methodLink RL 140 yX9_picks ∈ gb_B := gb_mem1 878 (by decide +kernel) (by decide +kernel)
theorem lwd_235 : Cond.instanceMethod yX9_picks ∈ gb_B := gb_mem1 879 (by decide +kernel) (by decide +kernel)
theorem lwd_236 : Cond.selects RX9 yX9_picks yX9_picks ∈ gb_B := gb_mem1 880 (by decide +kernel) (by decide +kernel)
theorem lwd_237 : Cond.code yX9_picks cX9_picks 4 (some .int) ∈ gb_B := gb_mem1 881 (by decide +kernel) (by decide +kernel)
theorem lwd_238 : Cond.methodLink RL 143 yX10_picks ∈ gb_B := gb_mem1 1547 (by decide +kernel) (by decide +kernel)
theorem lwd_239 : Cond.instanceMethod yX10_picks ∈ gb_B := gb_mem1 1548 (by decide +kernel) (by decide +kernel)
theorem lwd_240 : Cond.selects RX10 yX10_picks yX10_picks ∈ gb_B := gb_mem1 1549 (by decide +kernel) (by decide +kernel)
theorem lwd_241 : Cond.code yX10_picks cX10_picks 2 (some .int) ∈ gb_B := gb_mem1 1550 (by decide +kernel) (by decide +kernel)
theorem lwd_242 : Cond.methodLink RL 144 yX9_empties ∈ gb_B := gb_mem1 889 (by decide +kernel) (by decide +kernel)
theorem lwd_243 : Cond.instanceMethod yX9_empties ∈ gb_B := gb_mem1 890 (by decide +kernel) (by decide +kernel)
theorem lwd_244 : Cond.selects RX9 yX9_empties yX9_empties ∈ gb_B := gb_mem1 891 (by decide +kernel) (by decide +kernel)
theorem lwd_245 : Cond.code yX9_empties cX9_empties 4 (some .int) ∈ gb_B := gb_mem1 892 (by decide +kernel) (by decide +kernel)
theorem lwd_246 : Cond.methodLink RL 147 yX10_empties ∈ gb_B := gb_mem1 1555 (by decide +kernel) (by decide +kernel)
theorem lwd_247 : Cond.instanceMethod yX10_empties ∈ gb_B := gb_mem1 1556 (by decide +kernel) (by decide +kernel)
theorem lwd_248 : Cond.selects RX10 yX10_empties yX10_empties ∈ gb_B := gb_mem1 1557 (by decide +kernel) (by decide +kernel)
theorem lwd_249 : Cond.code yX10_empties cX10_empties 3 (some .int) ∈ gb_B := gb_mem1 1558 (by decide +kernel) (by decide +kernel)
theorem lwd_250 : Cond.methodLink RL 148 yX9_then ∈ gb_B := gb_mem1 899 (by decide +kernel) (by decide +kernel)
theorem lwd_251 : Cond.instanceMethod yX9_then ∈ gb_B := gb_mem1 900 (by decide +kernel) (by decide +kernel)
theorem lwd_252 : Cond.selects RX9 yX9_then yX9_then ∈ gb_B := gb_mem1 901 (by decide +kernel) (by decide +kernel)
theorem lwd_253 : Cond.code yX9_then cX9_then 3 (some .int) ∈ gb_B := gb_mem1 902 (by decide +kernel) (by decide +kernel)
theorem lwd_254 : Cond.methodLink RL 151 yX10_then ∈ gb_B := gb_mem1 1567 (by decide +kernel) (by decide +kernel)
theorem lwd_255 : Cond.instanceMethod yX10_then ∈ gb_B := gb_mem1 1568 (by decide +kernel) (by decide +kernel)
theorem lwd_256 : Cond.selects RX10 yX10_then yX10_then ∈ gb_B := gb_mem1 1569 (by decide +kernel) (by decide +kernel)
theorem lwd_257 : Cond.code yX10_then cX10_then 5 (some .int) ∈ gb_B := gb_mem1 1570 (by decide +kernel) (by decide +kernel)
theorem lwd_258 : Cond.methodLink RL 152 yX9_falls ∈ gb_B := gb_mem1 911 (by decide +kernel) (by decide +kernel)
theorem lwd_259 : Cond.instanceMethod yX9_falls ∈ gb_B := gb_mem1 912 (by decide +kernel) (by decide +kernel)
theorem lwd_260 : Cond.selects RX9 yX9_falls yX9_falls ∈ gb_B := gb_mem1 913 (by decide +kernel) (by decide +kernel)
theorem lwd_261 : Cond.code yX9_falls cX9_falls 6 (some .int) ∈ gb_B := gb_mem1 914 (by decide +kernel) (by decide +kernel)
theorem lwd_262 : Cond.methodLink RL 155 yX10_falls ∈ gb_B := gb_mem1 1571 (by decide +kernel) (by decide +kernel)
theorem lwd_263 : Cond.instanceMethod yX10_falls ∈ gb_B := gb_mem1 1572 (by decide +kernel) (by decide +kernel)
theorem lwd_264 : Cond.selects RX10 yX10_falls yX10_falls ∈ gb_B := gb_mem1 1573 (by decide +kernel) (by decide +kernel)
theorem lwd_265 : Cond.code yX10_falls cX10_falls 4 (some .int) ∈ gb_B := gb_mem1 1574 (by decide +kernel) (by decide +kernel)
theorem lwd_266 : Cond.methodLink RL 156 yX9_old ∈ gb_B := gb_mem1 916 (by decide +kernel) (by decide +kernel)
theorem lwd_267 : Cond.instanceMethod yX9_old ∈ gb_B := gb_mem1 917 (by decide +kernel) (by decide +kernel)
theorem lwd_268 : Cond.selects RX9 yX9_old yX9_old ∈ gb_B := gb_mem1 918 (by decide +kernel) (by decide +kernel)
theorem lwd_269 : Cond.code yX9_old cX9_old 5 (some .int) ∈ gb_B := gb_mem1 919 (by decide +kernel) (by decide +kernel)
theorem lwd_270 : Cond.methodLink RL 159 yX10_old ∈ gb_B := gb_mem1 1575 (by decide +kernel) (by decide +kernel)
theorem lwd_271 : Cond.instanceMethod yX10_old ∈ gb_B := gb_mem1 1576 (by decide +kernel) (by decide +kernel)
theorem lwd_272 : Cond.selects RX10 yX10_old yX10_old ∈ gb_B := gb_mem1 1577 (by decide +kernel) (by decide +kernel)
theorem lwd_273 : Cond.code yX10_old cX10_old 6 (some .int) ∈ gb_B := gb_mem1 1578 (by decide +kernel) (by decide +kernel)
theorem lwd_274 : Cond.methodLink RL 160 yX9_cures ∈ gb_B := gb_mem1 924 (by decide +kernel) (by decide +kernel)
theorem lwd_275 : Cond.instanceMethod yX9_cures ∈ gb_B := gb_mem1 925 (by decide +kernel) (by decide +kernel)
theorem lwd_276 : Cond.selects RX9 yX9_cures yX9_cures ∈ gb_B := gb_mem1 926 (by decide +kernel) (by decide +kernel)
theorem lwd_277 : Cond.code yX9_cures cX9_cures 7 (some .int) ∈ gb_B := gb_mem1 927 (by decide +kernel) (by decide +kernel)
theorem lwd_278 : Cond.methodLink RL 163 yX10_cures ∈ gb_B := gb_mem1 1579 (by decide +kernel) (by decide +kernel)
theorem lwd_279 : Cond.instanceMethod yX10_cures ∈ gb_B := gb_mem1 1580 (by decide +kernel) (by decide +kernel)
theorem lwd_280 : Cond.selects RX10 yX10_cures yX10_cures ∈ gb_B := gb_mem1 1581 (by decide +kernel) (by decide +kernel)
theorem lwd_281 : Cond.code yX10_cures cX10_cures 8 (some .int) ∈ gb_B := gb_mem1 1582 (by decide +kernel) (by decide +kernel)
theorem lwd_282 : Cond.methodLink RL 164 yX9_undo ∈ gb_B := gb_mem1 932 (by decide +kernel) (by decide +kernel)
theorem lwd_283 : Cond.instanceMethod yX9_undo ∈ gb_B := gb_mem1 933 (by decide +kernel) (by decide +kernel)
theorem lwd_284 : Cond.selects RX9 yX9_undo yX9_undo ∈ gb_B := gb_mem1 934 (by decide +kernel) (by decide +kernel)
theorem lwd_285 : Cond.code yX9_undo cX9_undo 1 (some .int) ∈ gb_B := gb_mem1 935 (by decide +kernel) (by decide +kernel)
theorem lwd_286 : Cond.methodLink RL 167 yX10_undo ∈ gb_B := gb_mem1 1583 (by decide +kernel) (by decide +kernel)
theorem lwd_287 : Cond.instanceMethod yX10_undo ∈ gb_B := gb_mem1 1584 (by decide +kernel) (by decide +kernel)
theorem lwd_288 : Cond.selects RX10 yX10_undo yX10_undo ∈ gb_B := gb_mem1 1585 (by decide +kernel) (by decide +kernel)
theorem lwd_289 : Cond.code yX10_undo cX10_undo 2 (some .int) ∈ gb_B := gb_mem1 1586 (by decide +kernel) (by decide +kernel)
theorem lwd_290 : Cond.methodLink RL 168 yX9_keeps ∈ gb_B := gb_mem1 940 (by decide +kernel) (by decide +kernel)
theorem lwd_291 : Cond.instanceMethod yX9_keeps ∈ gb_B := gb_mem1 941 (by decide +kernel) (by decide +kernel)
theorem lwd_292 : Cond.selects RX9 yX9_keeps yX9_keeps ∈ gb_B := gb_mem1 942 (by decide +kernel) (by decide +kernel)
theorem lwd_293 : Cond.code yX9_keeps cX9_keeps 1 (some .int) ∈ gb_B := gb_mem1 943 (by decide +kernel) (by decide +kernel)
theorem lwd_294 : Cond.methodLink RL 171 yX10_keeps ∈ gb_B := gb_mem1 1587 (by decide +kernel) (by decide +kernel)
theorem lwd_295 : Cond.instanceMethod yX10_keeps ∈ gb_B := gb_mem1 1588 (by decide +kernel) (by decide +kernel)
theorem lwd_296 : Cond.selects RX10 yX10_keeps yX10_keeps ∈ gb_B := gb_mem1 1589 (by decide +kernel) (by decide +kernel)
theorem lwd_297 : Cond.code yX10_keeps cX10_keeps 2 (some .int) ∈ gb_B := gb_mem1 1590 (by decide +kernel) (by decide +kernel)
theorem lwd_298 : Cond.methodLink RL 172 yX9_back ∈ gb_B := gb_mem1 945 (by decide +kernel) (by decide +kernel)
theorem lwd_299 : Cond.instanceMethod yX9_back ∈ gb_B := gb_mem1 946 (by decide +kernel) (by decide +kernel)
theorem lwd_300 : Cond.selects RX9 yX9_back yX9_back ∈ gb_B := gb_mem1 947 (by decide +kernel) (by decide +kernel)
theorem lwd_301 : Cond.code yX9_back cX9_back 1 (some .int) ∈ gb_B := gb_mem1 948 (by decide +kernel) (by decide +kernel)
theorem lwd_302 : Cond.methodLink RL 175 yX10_back ∈ gb_B := gb_mem1 1591 (by decide +kernel) (by decide +kernel)
theorem lwd_303 : Cond.instanceMethod yX10_back ∈ gb_B := gb_mem1 1592 (by decide +kernel) (by decide +kernel)
theorem lwd_304 : Cond.selects RX10 yX10_back yX10_back ∈ gb_B := gb_mem1 1593 (by decide +kernel) (by decide +kernel)
theorem lwd_305 : Cond.code yX10_back cX10_back 2 (some .int) ∈ gb_B := gb_mem1 1594 (by decide +kernel) (by decide +kernel)
theorem lwd_306 : Cond.methodLink RL 176 yX9_written ∈ gb_B := gb_mem1 949 (by decide +kernel) (by decide +kernel)
theorem lwd_307 : Cond.instanceMethod yX9_written ∈ gb_B := gb_mem1 950 (by decide +kernel) (by decide +kernel)
theorem lwd_308 : Cond.selects RX9 yX9_written yX9_written ∈ gb_B := gb_mem1 951 (by decide +kernel) (by decide +kernel)
theorem lwd_309 : Cond.code yX9_written cX9_written 2 (some .int) ∈ gb_B := gb_mem1 952 (by decide +kernel) (by decide +kernel)
theorem lwd_310 : Cond.methodLink RL 179 yX10_written ∈ gb_B := gb_mem1 1595 (by decide +kernel) (by decide +kernel)
theorem lwd_311 : Cond.instanceMethod yX10_written ∈ gb_B := gb_mem1 1596 (by decide +kernel) (by decide +kernel)
theorem lwd_312 : Cond.selects RX10 yX10_written yX10_written ∈ gb_B := gb_mem1 1597 (by decide +kernel) (by decide +kernel)
theorem lwd_313 : Cond.code yX10_written cX10_written 4 (some .int) ∈ gb_B := gb_mem1 1598 (by decide +kernel) (by decide +kernel)
theorem lwd_314 : Cond.methodLink RL 180 yX9_count ∈ gb_B := gb_mem1 974 (by decide +kernel) (by decide +kernel)
theorem lwd_315 : Cond.instanceMethod yX9_count ∈ gb_B := gb_mem1 975 (by decide +kernel) (by decide +kernel)
theorem lwd_316 : Cond.selects RX9 yX9_count yX9_count ∈ gb_B := gb_mem1 976 (by decide +kernel) (by decide +kernel)
theorem lwd_317 : Cond.code yX9_count cX9_count 2 (some .int) ∈ gb_B := gb_mem1 977 (by decide +kernel) (by decide +kernel)
theorem lwd_318 : Cond.methodLink RL 183 yX10_count ∈ gb_B := gb_mem1 1607 (by decide +kernel) (by decide +kernel)
theorem lwd_319 : Cond.instanceMethod yX10_count ∈ gb_B := gb_mem1 1608 (by decide +kernel) (by decide +kernel)
theorem lwd_320 : Cond.selects RX10 yX10_count yX10_count ∈ gb_B := gb_mem1 1609 (by decide +kernel) (by decide +kernel)
theorem lwd_321 : Cond.code yX10_count cX10_count 7 (some .int) ∈ gb_B := gb_mem1 1610 (by decide +kernel) (by decide +kernel)
theorem lw_in0 {k : Int} (h : k ∈ ([] : List Int)) : k ∈ ([1, 2, 3] : List Int) := by cases h
theorem lw_in1 {k : Int} (h : k ∈ ([1] : List Int)) : k ∈ ([1, 2, 3] : List Int) := by simp at h; simp [h]
theorem lw_in2 {k : Int} (h : k ∈ ([1, 2] : List Int)) : k ∈ ([1, 2, 3] : List Int) := by
  simp at h
  rcases h with h | h <;> simp [h]
theorem lw_in3 {k : Int} (h : k ∈ ([1, 2, 3] : List Int)) : k ∈ ([1, 2, 3] : List Int) := h
theorem dw_216 : decode code 216 = .ok (.aload_n 1, 1) := by decide +kernel
theorem dw_217 : decode code 217 = .ok (.aload_n 0, 1) := by decide +kernel
theorem dw_218 : decode code 218 = .ok (.iload 4, 2) := by decide +kernel
theorem dw_220 : decode code 220 = .ok (.iconst 1, 1) := by decide +kernel
theorem dw_221 : decode code 221 = .ok (.iadd, 1) := by decide +kernel
theorem dw_222 : decode code 222 = .ok (.iaload, 1) := by decide +kernel
theorem dw_223 : decode code 223 = .ok (.invokevirtual 19, 3) := by decide +kernel
theorem dw_226 : decode code 226 = .ok (.aload_n 2, 1) := by decide +kernel
theorem dw_227 : decode code 227 = .ok (.aload_n 0, 1) := by decide +kernel
theorem dw_228 : decode code 228 = .ok (.iload 4, 2) := by decide +kernel
theorem dw_230 : decode code 230 = .ok (.iconst 1, 1) := by decide +kernel
theorem dw_231 : decode code 231 = .ok (.iadd, 1) := by decide +kernel
theorem dw_232 : decode code 232 = .ok (.iaload, 1) := by decide +kernel
theorem dw_233 : decode code 233 = .ok (.invokevirtual 23, 3) := by decide +kernel
theorem dw_236 : decode code 236 = .ok (.if_icmp .eq 1095, 3) := by decide +kernel
theorem dw_241 : decode code 241 = .ok (.aload_n 1, 1) := by decide +kernel
theorem dw_242 : decode code 242 = .ok (.aload_n 0, 1) := by decide +kernel
theorem dw_243 : decode code 243 = .ok (.iload 4, 2) := by decide +kernel
theorem dw_245 : decode code 245 = .ok (.iconst 1, 1) := by decide +kernel
theorem dw_246 : decode code 246 = .ok (.iadd, 1) := by decide +kernel
theorem dw_247 : decode code 247 = .ok (.iaload, 1) := by decide +kernel
theorem dw_248 : decode code 248 = .ok (.invokevirtual 24, 3) := by decide +kernel
theorem dw_251 : decode code 251 = .ok (.aload_n 2, 1) := by decide +kernel
theorem dw_252 : decode code 252 = .ok (.aload_n 0, 1) := by decide +kernel
theorem dw_253 : decode code 253 = .ok (.iload 4, 2) := by decide +kernel
theorem dw_255 : decode code 255 = .ok (.iconst 1, 1) := by decide +kernel
theorem dw_256 : decode code 256 = .ok (.iadd, 1) := by decide +kernel
theorem dw_257 : decode code 257 = .ok (.iaload, 1) := by decide +kernel
theorem dw_258 : decode code 258 = .ok (.invokevirtual 28, 3) := by decide +kernel
theorem dw_261 : decode code 261 = .ok (.if_icmp .eq 1070, 3) := by decide +kernel
theorem dw_266 : decode code 266 = .ok (.aload_n 1, 1) := by decide +kernel
theorem dw_267 : decode code 267 = .ok (.invokevirtual 29, 3) := by decide +kernel
theorem dw_270 : decode code 270 = .ok (.aload_n 2, 1) := by decide +kernel
theorem dw_271 : decode code 271 = .ok (.invokevirtual 33, 3) := by decide +kernel
theorem dw_274 : decode code 274 = .ok (.if_icmp .eq 1057, 3) := by decide +kernel
theorem dw_279 : decode code 279 = .ok (.aload_n 1, 1) := by decide +kernel
theorem dw_280 : decode code 280 = .ok (.aload_n 0, 1) := by decide +kernel
theorem dw_281 : decode code 281 = .ok (.iload 4, 2) := by decide +kernel
theorem dw_283 : decode code 283 = .ok (.iconst 1, 1) := by decide +kernel
theorem dw_284 : decode code 284 = .ok (.iadd, 1) := by decide +kernel
theorem dw_285 : decode code 285 = .ok (.iaload, 1) := by decide +kernel
theorem dw_286 : decode code 286 = .ok (.aload_n 0, 1) := by decide +kernel
theorem dw_287 : decode code 287 = .ok (.iload 4, 2) := by decide +kernel
theorem dw_289 : decode code 289 = .ok (.iconst 2, 1) := by decide +kernel
theorem dw_290 : decode code 290 = .ok (.iadd, 1) := by decide +kernel
theorem dw_291 : decode code 291 = .ok (.iaload, 1) := by decide +kernel
theorem dw_292 : decode code 292 = .ok (.invokevirtual 34, 3) := by decide +kernel
theorem dw_295 : decode code 295 = .ok (.aload_n 2, 1) := by decide +kernel
theorem dw_296 : decode code 296 = .ok (.aload_n 0, 1) := by decide +kernel
theorem dw_297 : decode code 297 = .ok (.iload 4, 2) := by decide +kernel
theorem dw_299 : decode code 299 = .ok (.iconst 1, 1) := by decide +kernel
theorem dw_300 : decode code 300 = .ok (.iadd, 1) := by decide +kernel
theorem dw_301 : decode code 301 = .ok (.iaload, 1) := by decide +kernel
theorem dw_302 : decode code 302 = .ok (.aload_n 0, 1) := by decide +kernel
theorem dw_303 : decode code 303 = .ok (.iload 4, 2) := by decide +kernel
theorem dw_305 : decode code 305 = .ok (.iconst 2, 1) := by decide +kernel
theorem dw_306 : decode code 306 = .ok (.iadd, 1) := by decide +kernel
theorem dw_307 : decode code 307 = .ok (.iaload, 1) := by decide +kernel
theorem dw_308 : decode code 308 = .ok (.invokevirtual 38, 3) := by decide +kernel
theorem dw_311 : decode code 311 = .ok (.if_icmp .eq 1020, 3) := by decide +kernel
theorem dw_316 : decode code 316 = .ok (.aload_n 1, 1) := by decide +kernel
theorem dw_317 : decode code 317 = .ok (.aload_n 0, 1) := by decide +kernel
theorem dw_318 : decode code 318 = .ok (.iload 4, 2) := by decide +kernel
theorem dw_320 : decode code 320 = .ok (.iconst 1, 1) := by decide +kernel
theorem dw_321 : decode code 321 = .ok (.iadd, 1) := by decide +kernel
theorem dw_322 : decode code 322 = .ok (.iaload, 1) := by decide +kernel
theorem dw_323 : decode code 323 = .ok (.aload_n 0, 1) := by decide +kernel
theorem dw_324 : decode code 324 = .ok (.iload 4, 2) := by decide +kernel
theorem dw_326 : decode code 326 = .ok (.iconst 2, 1) := by decide +kernel
theorem dw_327 : decode code 327 = .ok (.iadd, 1) := by decide +kernel
theorem dw_328 : decode code 328 = .ok (.iaload, 1) := by decide +kernel
theorem dw_329 : decode code 329 = .ok (.invokevirtual 39, 3) := by decide +kernel
theorem dw_332 : decode code 332 = .ok (.aload_n 2, 1) := by decide +kernel
theorem dw_333 : decode code 333 = .ok (.aload_n 0, 1) := by decide +kernel
theorem dw_334 : decode code 334 = .ok (.iload 4, 2) := by decide +kernel
theorem dw_336 : decode code 336 = .ok (.iconst 1, 1) := by decide +kernel
theorem dw_337 : decode code 337 = .ok (.iadd, 1) := by decide +kernel
theorem dw_338 : decode code 338 = .ok (.iaload, 1) := by decide +kernel
theorem dw_339 : decode code 339 = .ok (.aload_n 0, 1) := by decide +kernel
theorem dw_340 : decode code 340 = .ok (.iload 4, 2) := by decide +kernel
theorem dw_342 : decode code 342 = .ok (.iconst 2, 1) := by decide +kernel
theorem dw_343 : decode code 343 = .ok (.iadd, 1) := by decide +kernel
theorem dw_344 : decode code 344 = .ok (.iaload, 1) := by decide +kernel
theorem dw_345 : decode code 345 = .ok (.invokevirtual 42, 3) := by decide +kernel
theorem dw_348 : decode code 348 = .ok (.if_icmp .eq 983, 3) := by decide +kernel
theorem dw_353 : decode code 353 = .ok (.aload_n 1, 1) := by decide +kernel
theorem dw_354 : decode code 354 = .ok (.aload_n 0, 1) := by decide +kernel
theorem dw_355 : decode code 355 = .ok (.iload 4, 2) := by decide +kernel
theorem dw_357 : decode code 357 = .ok (.iconst 1, 1) := by decide +kernel
theorem dw_358 : decode code 358 = .ok (.iadd, 1) := by decide +kernel
theorem dw_359 : decode code 359 = .ok (.iaload, 1) := by decide +kernel
theorem dw_360 : decode code 360 = .ok (.aload_n 0, 1) := by decide +kernel
theorem dw_361 : decode code 361 = .ok (.iload 4, 2) := by decide +kernel
theorem dw_363 : decode code 363 = .ok (.iconst 2, 1) := by decide +kernel
theorem dw_364 : decode code 364 = .ok (.iadd, 1) := by decide +kernel
theorem dw_365 : decode code 365 = .ok (.iaload, 1) := by decide +kernel
theorem dw_366 : decode code 366 = .ok (.invokevirtual 43, 3) := by decide +kernel
theorem dw_369 : decode code 369 = .ok (.aload_n 2, 1) := by decide +kernel
theorem dw_370 : decode code 370 = .ok (.aload_n 0, 1) := by decide +kernel
theorem dw_371 : decode code 371 = .ok (.iload 4, 2) := by decide +kernel
theorem dw_373 : decode code 373 = .ok (.iconst 1, 1) := by decide +kernel
theorem dw_374 : decode code 374 = .ok (.iadd, 1) := by decide +kernel
theorem dw_375 : decode code 375 = .ok (.iaload, 1) := by decide +kernel
theorem dw_376 : decode code 376 = .ok (.aload_n 0, 1) := by decide +kernel
theorem dw_377 : decode code 377 = .ok (.iload 4, 2) := by decide +kernel
theorem dw_379 : decode code 379 = .ok (.iconst 2, 1) := by decide +kernel
theorem dw_380 : decode code 380 = .ok (.iadd, 1) := by decide +kernel
theorem dw_381 : decode code 381 = .ok (.iaload, 1) := by decide +kernel
theorem dw_382 : decode code 382 = .ok (.invokevirtual 46, 3) := by decide +kernel
theorem dw_385 : decode code 385 = .ok (.if_icmp .eq 946, 3) := by decide +kernel
theorem dw_390 : decode code 390 = .ok (.aload_n 1, 1) := by decide +kernel
theorem dw_391 : decode code 391 = .ok (.aload_n 0, 1) := by decide +kernel
theorem dw_392 : decode code 392 = .ok (.iload 4, 2) := by decide +kernel
theorem dw_394 : decode code 394 = .ok (.iconst 1, 1) := by decide +kernel
theorem dw_395 : decode code 395 = .ok (.iadd, 1) := by decide +kernel
theorem dw_396 : decode code 396 = .ok (.iaload, 1) := by decide +kernel
theorem dw_397 : decode code 397 = .ok (.aload_n 0, 1) := by decide +kernel
theorem dw_398 : decode code 398 = .ok (.iload 4, 2) := by decide +kernel
theorem dw_400 : decode code 400 = .ok (.iconst 2, 1) := by decide +kernel
theorem dw_401 : decode code 401 = .ok (.iadd, 1) := by decide +kernel
theorem dw_402 : decode code 402 = .ok (.iaload, 1) := by decide +kernel
theorem dw_403 : decode code 403 = .ok (.aload_n 0, 1) := by decide +kernel
theorem dw_404 : decode code 404 = .ok (.iload 4, 2) := by decide +kernel
theorem dw_406 : decode code 406 = .ok (.iconst 3, 1) := by decide +kernel
theorem dw_407 : decode code 407 = .ok (.iadd, 1) := by decide +kernel
theorem dw_408 : decode code 408 = .ok (.iaload, 1) := by decide +kernel
theorem dw_409 : decode code 409 = .ok (.invokevirtual 47, 3) := by decide +kernel
theorem dw_412 : decode code 412 = .ok (.aload_n 2, 1) := by decide +kernel
theorem dw_413 : decode code 413 = .ok (.aload_n 0, 1) := by decide +kernel
theorem dw_414 : decode code 414 = .ok (.iload 4, 2) := by decide +kernel
theorem dw_416 : decode code 416 = .ok (.iconst 1, 1) := by decide +kernel
theorem dw_417 : decode code 417 = .ok (.iadd, 1) := by decide +kernel
theorem dw_418 : decode code 418 = .ok (.iaload, 1) := by decide +kernel
theorem dw_419 : decode code 419 = .ok (.aload_n 0, 1) := by decide +kernel
theorem dw_420 : decode code 420 = .ok (.iload 4, 2) := by decide +kernel
theorem dw_422 : decode code 422 = .ok (.iconst 2, 1) := by decide +kernel
theorem dw_423 : decode code 423 = .ok (.iadd, 1) := by decide +kernel
theorem dw_424 : decode code 424 = .ok (.iaload, 1) := by decide +kernel
theorem dw_425 : decode code 425 = .ok (.aload_n 0, 1) := by decide +kernel
theorem dw_426 : decode code 426 = .ok (.iload 4, 2) := by decide +kernel
theorem dw_428 : decode code 428 = .ok (.iconst 3, 1) := by decide +kernel
theorem dw_429 : decode code 429 = .ok (.iadd, 1) := by decide +kernel
theorem dw_430 : decode code 430 = .ok (.iaload, 1) := by decide +kernel
theorem dw_431 : decode code 431 = .ok (.invokevirtual 51, 3) := by decide +kernel
theorem dw_434 : decode code 434 = .ok (.if_icmp .eq 897, 3) := by decide +kernel
theorem dw_439 : decode code 439 = .ok (.aload_n 1, 1) := by decide +kernel
theorem dw_440 : decode code 440 = .ok (.aload_n 0, 1) := by decide +kernel
theorem dw_441 : decode code 441 = .ok (.iload 4, 2) := by decide +kernel
theorem dw_443 : decode code 443 = .ok (.iconst 1, 1) := by decide +kernel
theorem dw_444 : decode code 444 = .ok (.iadd, 1) := by decide +kernel
theorem dw_445 : decode code 445 = .ok (.iaload, 1) := by decide +kernel
theorem dw_446 : decode code 446 = .ok (.aload_n 0, 1) := by decide +kernel
theorem dw_447 : decode code 447 = .ok (.iload 4, 2) := by decide +kernel
theorem dw_449 : decode code 449 = .ok (.iconst 2, 1) := by decide +kernel
theorem dw_450 : decode code 450 = .ok (.iadd, 1) := by decide +kernel
theorem dw_451 : decode code 451 = .ok (.iaload, 1) := by decide +kernel
theorem dw_452 : decode code 452 = .ok (.aload_n 0, 1) := by decide +kernel
theorem dw_453 : decode code 453 = .ok (.iload 4, 2) := by decide +kernel
theorem dw_455 : decode code 455 = .ok (.iconst 3, 1) := by decide +kernel
theorem dw_456 : decode code 456 = .ok (.iadd, 1) := by decide +kernel
theorem dw_457 : decode code 457 = .ok (.iaload, 1) := by decide +kernel
theorem dw_458 : decode code 458 = .ok (.invokevirtual 52, 3) := by decide +kernel
theorem dw_461 : decode code 461 = .ok (.aload_n 2, 1) := by decide +kernel
theorem dw_462 : decode code 462 = .ok (.aload_n 0, 1) := by decide +kernel
theorem dw_463 : decode code 463 = .ok (.iload 4, 2) := by decide +kernel
theorem dw_465 : decode code 465 = .ok (.iconst 1, 1) := by decide +kernel
theorem dw_466 : decode code 466 = .ok (.iadd, 1) := by decide +kernel
theorem dw_467 : decode code 467 = .ok (.iaload, 1) := by decide +kernel
theorem dw_468 : decode code 468 = .ok (.aload_n 0, 1) := by decide +kernel
theorem dw_469 : decode code 469 = .ok (.iload 4, 2) := by decide +kernel
theorem dw_471 : decode code 471 = .ok (.iconst 2, 1) := by decide +kernel
theorem dw_472 : decode code 472 = .ok (.iadd, 1) := by decide +kernel
theorem dw_473 : decode code 473 = .ok (.iaload, 1) := by decide +kernel
theorem dw_474 : decode code 474 = .ok (.aload_n 0, 1) := by decide +kernel
theorem dw_475 : decode code 475 = .ok (.iload 4, 2) := by decide +kernel
theorem dw_477 : decode code 477 = .ok (.iconst 3, 1) := by decide +kernel
theorem dw_478 : decode code 478 = .ok (.iadd, 1) := by decide +kernel
theorem dw_479 : decode code 479 = .ok (.iaload, 1) := by decide +kernel
theorem dw_480 : decode code 480 = .ok (.invokevirtual 55, 3) := by decide +kernel
theorem dw_483 : decode code 483 = .ok (.if_icmp .eq 848, 3) := by decide +kernel
theorem dw_488 : decode code 488 = .ok (.aload_n 1, 1) := by decide +kernel
theorem dw_489 : decode code 489 = .ok (.aload_n 0, 1) := by decide +kernel
theorem dw_490 : decode code 490 = .ok (.iload 4, 2) := by decide +kernel
theorem dw_492 : decode code 492 = .ok (.iconst 1, 1) := by decide +kernel
theorem dw_493 : decode code 493 = .ok (.iadd, 1) := by decide +kernel
theorem dw_494 : decode code 494 = .ok (.iaload, 1) := by decide +kernel
theorem dw_495 : decode code 495 = .ok (.aload_n 0, 1) := by decide +kernel
theorem dw_496 : decode code 496 = .ok (.iload 4, 2) := by decide +kernel
theorem dw_498 : decode code 498 = .ok (.iconst 2, 1) := by decide +kernel
theorem dw_499 : decode code 499 = .ok (.iadd, 1) := by decide +kernel
theorem dw_500 : decode code 500 = .ok (.iaload, 1) := by decide +kernel
theorem dw_501 : decode code 501 = .ok (.invokevirtual 56, 3) := by decide +kernel
theorem dw_504 : decode code 504 = .ok (.aload_n 2, 1) := by decide +kernel
theorem dw_505 : decode code 505 = .ok (.aload_n 0, 1) := by decide +kernel
theorem dw_506 : decode code 506 = .ok (.iload 4, 2) := by decide +kernel
theorem dw_508 : decode code 508 = .ok (.iconst 1, 1) := by decide +kernel
theorem dw_509 : decode code 509 = .ok (.iadd, 1) := by decide +kernel
theorem dw_510 : decode code 510 = .ok (.iaload, 1) := by decide +kernel
theorem dw_511 : decode code 511 = .ok (.aload_n 0, 1) := by decide +kernel
theorem dw_512 : decode code 512 = .ok (.iload 4, 2) := by decide +kernel
theorem dw_514 : decode code 514 = .ok (.iconst 2, 1) := by decide +kernel
theorem dw_515 : decode code 515 = .ok (.iadd, 1) := by decide +kernel
theorem dw_516 : decode code 516 = .ok (.iaload, 1) := by decide +kernel
theorem dw_517 : decode code 517 = .ok (.invokevirtual 59, 3) := by decide +kernel
theorem dw_520 : decode code 520 = .ok (.if_icmp .eq 811, 3) := by decide +kernel
theorem dw_525 : decode code 525 = .ok (.aload_n 1, 1) := by decide +kernel
theorem dw_526 : decode code 526 = .ok (.aload_n 0, 1) := by decide +kernel
theorem dw_527 : decode code 527 = .ok (.iload 4, 2) := by decide +kernel
theorem dw_529 : decode code 529 = .ok (.iconst 1, 1) := by decide +kernel
theorem dw_530 : decode code 530 = .ok (.iadd, 1) := by decide +kernel
theorem dw_531 : decode code 531 = .ok (.iaload, 1) := by decide +kernel
theorem dw_532 : decode code 532 = .ok (.aload_n 0, 1) := by decide +kernel
theorem dw_533 : decode code 533 = .ok (.iload 4, 2) := by decide +kernel
theorem dw_535 : decode code 535 = .ok (.iconst 2, 1) := by decide +kernel
theorem dw_536 : decode code 536 = .ok (.iadd, 1) := by decide +kernel
theorem dw_537 : decode code 537 = .ok (.iaload, 1) := by decide +kernel
theorem dw_538 : decode code 538 = .ok (.aload_n 0, 1) := by decide +kernel
theorem dw_539 : decode code 539 = .ok (.iload 4, 2) := by decide +kernel
theorem dw_541 : decode code 541 = .ok (.iconst 3, 1) := by decide +kernel
theorem dw_542 : decode code 542 = .ok (.iadd, 1) := by decide +kernel
theorem dw_543 : decode code 543 = .ok (.iaload, 1) := by decide +kernel
theorem dw_544 : decode code 544 = .ok (.invokevirtual 60, 3) := by decide +kernel
theorem dw_547 : decode code 547 = .ok (.aload_n 2, 1) := by decide +kernel
theorem dw_548 : decode code 548 = .ok (.aload_n 0, 1) := by decide +kernel
theorem dw_549 : decode code 549 = .ok (.iload 4, 2) := by decide +kernel
theorem dw_551 : decode code 551 = .ok (.iconst 1, 1) := by decide +kernel
theorem dw_552 : decode code 552 = .ok (.iadd, 1) := by decide +kernel
theorem dw_553 : decode code 553 = .ok (.iaload, 1) := by decide +kernel
theorem dw_554 : decode code 554 = .ok (.aload_n 0, 1) := by decide +kernel
theorem dw_555 : decode code 555 = .ok (.iload 4, 2) := by decide +kernel
theorem dw_557 : decode code 557 = .ok (.iconst 2, 1) := by decide +kernel
theorem dw_558 : decode code 558 = .ok (.iadd, 1) := by decide +kernel
theorem dw_559 : decode code 559 = .ok (.iaload, 1) := by decide +kernel
theorem dw_560 : decode code 560 = .ok (.aload_n 0, 1) := by decide +kernel
theorem dw_561 : decode code 561 = .ok (.iload 4, 2) := by decide +kernel
theorem dw_563 : decode code 563 = .ok (.iconst 3, 1) := by decide +kernel
theorem dw_564 : decode code 564 = .ok (.iadd, 1) := by decide +kernel
theorem dw_565 : decode code 565 = .ok (.iaload, 1) := by decide +kernel
theorem dw_566 : decode code 566 = .ok (.invokevirtual 63, 3) := by decide +kernel
theorem dw_569 : decode code 569 = .ok (.if_icmp .eq 762, 3) := by decide +kernel
theorem dw_574 : decode code 574 = .ok (.aload_n 1, 1) := by decide +kernel
theorem dw_575 : decode code 575 = .ok (.aload_n 0, 1) := by decide +kernel
theorem dw_576 : decode code 576 = .ok (.iload 4, 2) := by decide +kernel
theorem dw_578 : decode code 578 = .ok (.iconst 1, 1) := by decide +kernel
theorem dw_579 : decode code 579 = .ok (.iadd, 1) := by decide +kernel
theorem dw_580 : decode code 580 = .ok (.iaload, 1) := by decide +kernel
theorem dw_581 : decode code 581 = .ok (.invokevirtual 64, 3) := by decide +kernel
theorem dw_584 : decode code 584 = .ok (.aload_n 2, 1) := by decide +kernel
theorem dw_585 : decode code 585 = .ok (.aload_n 0, 1) := by decide +kernel
theorem dw_586 : decode code 586 = .ok (.iload 4, 2) := by decide +kernel
theorem dw_588 : decode code 588 = .ok (.iconst 1, 1) := by decide +kernel
theorem dw_589 : decode code 589 = .ok (.iadd, 1) := by decide +kernel
theorem dw_590 : decode code 590 = .ok (.iaload, 1) := by decide +kernel
theorem dw_591 : decode code 591 = .ok (.invokevirtual 67, 3) := by decide +kernel
theorem dw_594 : decode code 594 = .ok (.if_icmp .eq 737, 3) := by decide +kernel
theorem dw_599 : decode code 599 = .ok (.aload_n 1, 1) := by decide +kernel
theorem dw_600 : decode code 600 = .ok (.aload_n 0, 1) := by decide +kernel
theorem dw_601 : decode code 601 = .ok (.iload 4, 2) := by decide +kernel
theorem dw_603 : decode code 603 = .ok (.iconst 1, 1) := by decide +kernel
theorem dw_604 : decode code 604 = .ok (.iadd, 1) := by decide +kernel
theorem dw_605 : decode code 605 = .ok (.iaload, 1) := by decide +kernel
theorem dw_606 : decode code 606 = .ok (.aload_n 0, 1) := by decide +kernel
theorem dw_607 : decode code 607 = .ok (.iload 4, 2) := by decide +kernel
theorem dw_609 : decode code 609 = .ok (.iconst 2, 1) := by decide +kernel
theorem dw_610 : decode code 610 = .ok (.iadd, 1) := by decide +kernel
theorem dw_611 : decode code 611 = .ok (.iaload, 1) := by decide +kernel
theorem dw_612 : decode code 612 = .ok (.invokevirtual 68, 3) := by decide +kernel
theorem dw_615 : decode code 615 = .ok (.aload_n 2, 1) := by decide +kernel
theorem dw_616 : decode code 616 = .ok (.aload_n 0, 1) := by decide +kernel
theorem dw_617 : decode code 617 = .ok (.iload 4, 2) := by decide +kernel
theorem dw_619 : decode code 619 = .ok (.iconst 1, 1) := by decide +kernel
theorem dw_620 : decode code 620 = .ok (.iadd, 1) := by decide +kernel
theorem dw_621 : decode code 621 = .ok (.iaload, 1) := by decide +kernel
theorem dw_622 : decode code 622 = .ok (.aload_n 0, 1) := by decide +kernel
theorem dw_623 : decode code 623 = .ok (.iload 4, 2) := by decide +kernel
theorem dw_625 : decode code 625 = .ok (.iconst 2, 1) := by decide +kernel
theorem dw_626 : decode code 626 = .ok (.iadd, 1) := by decide +kernel
theorem dw_627 : decode code 627 = .ok (.iaload, 1) := by decide +kernel
theorem dw_628 : decode code 628 = .ok (.invokevirtual 71, 3) := by decide +kernel
theorem dw_631 : decode code 631 = .ok (.if_icmp .eq 700, 3) := by decide +kernel
theorem dw_636 : decode code 636 = .ok (.aload_n 1, 1) := by decide +kernel
theorem dw_637 : decode code 637 = .ok (.aload_n 0, 1) := by decide +kernel
theorem dw_638 : decode code 638 = .ok (.iload 4, 2) := by decide +kernel
theorem dw_640 : decode code 640 = .ok (.iconst 1, 1) := by decide +kernel
theorem dw_641 : decode code 641 = .ok (.iadd, 1) := by decide +kernel
theorem dw_642 : decode code 642 = .ok (.iaload, 1) := by decide +kernel
theorem dw_643 : decode code 643 = .ok (.invokevirtual 72, 3) := by decide +kernel
theorem dw_646 : decode code 646 = .ok (.aload_n 2, 1) := by decide +kernel
theorem dw_647 : decode code 647 = .ok (.aload_n 0, 1) := by decide +kernel
theorem dw_648 : decode code 648 = .ok (.iload 4, 2) := by decide +kernel
theorem dw_650 : decode code 650 = .ok (.iconst 1, 1) := by decide +kernel
theorem dw_651 : decode code 651 = .ok (.iadd, 1) := by decide +kernel
theorem dw_652 : decode code 652 = .ok (.iaload, 1) := by decide +kernel
theorem dw_653 : decode code 653 = .ok (.invokevirtual 75, 3) := by decide +kernel
theorem dw_656 : decode code 656 = .ok (.if_icmp .eq 675, 3) := by decide +kernel
theorem dw_661 : decode code 661 = .ok (.aload_n 1, 1) := by decide +kernel
theorem dw_662 : decode code 662 = .ok (.aload_n 0, 1) := by decide +kernel
theorem dw_663 : decode code 663 = .ok (.iload 4, 2) := by decide +kernel
theorem dw_665 : decode code 665 = .ok (.iconst 1, 1) := by decide +kernel
theorem dw_666 : decode code 666 = .ok (.iadd, 1) := by decide +kernel
theorem dw_667 : decode code 667 = .ok (.iaload, 1) := by decide +kernel
theorem dw_668 : decode code 668 = .ok (.aload_n 0, 1) := by decide +kernel
theorem dw_669 : decode code 669 = .ok (.iload 4, 2) := by decide +kernel
theorem dw_671 : decode code 671 = .ok (.iconst 2, 1) := by decide +kernel
theorem dw_672 : decode code 672 = .ok (.iadd, 1) := by decide +kernel
theorem dw_673 : decode code 673 = .ok (.iaload, 1) := by decide +kernel
theorem dw_674 : decode code 674 = .ok (.invokevirtual 76, 3) := by decide +kernel
theorem dw_677 : decode code 677 = .ok (.aload_n 2, 1) := by decide +kernel
theorem dw_678 : decode code 678 = .ok (.aload_n 0, 1) := by decide +kernel
theorem dw_679 : decode code 679 = .ok (.iload 4, 2) := by decide +kernel
theorem dw_681 : decode code 681 = .ok (.iconst 1, 1) := by decide +kernel
theorem dw_682 : decode code 682 = .ok (.iadd, 1) := by decide +kernel
theorem dw_683 : decode code 683 = .ok (.iaload, 1) := by decide +kernel
theorem dw_684 : decode code 684 = .ok (.aload_n 0, 1) := by decide +kernel
theorem dw_685 : decode code 685 = .ok (.iload 4, 2) := by decide +kernel
theorem dw_687 : decode code 687 = .ok (.iconst 2, 1) := by decide +kernel
theorem dw_688 : decode code 688 = .ok (.iadd, 1) := by decide +kernel
theorem dw_689 : decode code 689 = .ok (.iaload, 1) := by decide +kernel
theorem dw_690 : decode code 690 = .ok (.invokevirtual 79, 3) := by decide +kernel
theorem dw_693 : decode code 693 = .ok (.if_icmp .eq 638, 3) := by decide +kernel
theorem dw_698 : decode code 698 = .ok (.aload_n 1, 1) := by decide +kernel
theorem dw_699 : decode code 699 = .ok (.invokevirtual 80, 3) := by decide +kernel
theorem dw_702 : decode code 702 = .ok (.aload_n 2, 1) := by decide +kernel
theorem dw_703 : decode code 703 = .ok (.invokevirtual 83, 3) := by decide +kernel
theorem dw_706 : decode code 706 = .ok (.if_icmp .eq 625, 3) := by decide +kernel
theorem dw_711 : decode code 711 = .ok (.aload_n 1, 1) := by decide +kernel
theorem dw_712 : decode code 712 = .ok (.aload_n 0, 1) := by decide +kernel
theorem dw_713 : decode code 713 = .ok (.iload 4, 2) := by decide +kernel
theorem dw_715 : decode code 715 = .ok (.iconst 1, 1) := by decide +kernel
theorem dw_716 : decode code 716 = .ok (.iadd, 1) := by decide +kernel
theorem dw_717 : decode code 717 = .ok (.iaload, 1) := by decide +kernel
theorem dw_718 : decode code 718 = .ok (.invokevirtual 84, 3) := by decide +kernel
theorem dw_721 : decode code 721 = .ok (.aload_n 2, 1) := by decide +kernel
theorem dw_722 : decode code 722 = .ok (.aload_n 0, 1) := by decide +kernel
theorem dw_723 : decode code 723 = .ok (.iload 4, 2) := by decide +kernel
theorem dw_725 : decode code 725 = .ok (.iconst 1, 1) := by decide +kernel
theorem dw_726 : decode code 726 = .ok (.iadd, 1) := by decide +kernel
theorem dw_727 : decode code 727 = .ok (.iaload, 1) := by decide +kernel
theorem dw_728 : decode code 728 = .ok (.invokevirtual 87, 3) := by decide +kernel
theorem dw_731 : decode code 731 = .ok (.if_icmp .eq 600, 3) := by decide +kernel
theorem dw_736 : decode code 736 = .ok (.aload_n 1, 1) := by decide +kernel
theorem dw_737 : decode code 737 = .ok (.invokevirtual 88, 3) := by decide +kernel
theorem dw_740 : decode code 740 = .ok (.aload_n 2, 1) := by decide +kernel
theorem dw_741 : decode code 741 = .ok (.invokevirtual 91, 3) := by decide +kernel
theorem dw_744 : decode code 744 = .ok (.if_icmp .eq 587, 3) := by decide +kernel
theorem dw_749 : decode code 749 = .ok (.aload_n 1, 1) := by decide +kernel
theorem dw_750 : decode code 750 = .ok (.aload_n 0, 1) := by decide +kernel
theorem dw_751 : decode code 751 = .ok (.iload 4, 2) := by decide +kernel
theorem dw_753 : decode code 753 = .ok (.iconst 1, 1) := by decide +kernel
theorem dw_754 : decode code 754 = .ok (.iadd, 1) := by decide +kernel
theorem dw_755 : decode code 755 = .ok (.iaload, 1) := by decide +kernel
theorem dw_756 : decode code 756 = .ok (.invokevirtual 92, 3) := by decide +kernel
theorem dw_759 : decode code 759 = .ok (.aload_n 2, 1) := by decide +kernel
theorem dw_760 : decode code 760 = .ok (.aload_n 0, 1) := by decide +kernel
theorem dw_761 : decode code 761 = .ok (.iload 4, 2) := by decide +kernel
theorem dw_763 : decode code 763 = .ok (.iconst 1, 1) := by decide +kernel
theorem dw_764 : decode code 764 = .ok (.iadd, 1) := by decide +kernel
theorem dw_765 : decode code 765 = .ok (.iaload, 1) := by decide +kernel
theorem dw_766 : decode code 766 = .ok (.invokevirtual 95, 3) := by decide +kernel
theorem dw_769 : decode code 769 = .ok (.if_icmp .eq 562, 3) := by decide +kernel
theorem dw_774 : decode code 774 = .ok (.aload_n 1, 1) := by decide +kernel
theorem dw_775 : decode code 775 = .ok (.aload_n 0, 1) := by decide +kernel
theorem dw_776 : decode code 776 = .ok (.iload 4, 2) := by decide +kernel
theorem dw_778 : decode code 778 = .ok (.iconst 1, 1) := by decide +kernel
theorem dw_779 : decode code 779 = .ok (.iadd, 1) := by decide +kernel
theorem dw_780 : decode code 780 = .ok (.iaload, 1) := by decide +kernel
theorem dw_781 : decode code 781 = .ok (.aload_n 0, 1) := by decide +kernel
theorem dw_782 : decode code 782 = .ok (.iload 4, 2) := by decide +kernel
theorem dw_784 : decode code 784 = .ok (.iconst 2, 1) := by decide +kernel
theorem dw_785 : decode code 785 = .ok (.iadd, 1) := by decide +kernel
theorem dw_786 : decode code 786 = .ok (.iaload, 1) := by decide +kernel
theorem dw_787 : decode code 787 = .ok (.aload_n 0, 1) := by decide +kernel
theorem dw_788 : decode code 788 = .ok (.iload 4, 2) := by decide +kernel
theorem dw_790 : decode code 790 = .ok (.iconst 3, 1) := by decide +kernel
theorem dw_791 : decode code 791 = .ok (.iadd, 1) := by decide +kernel
theorem dw_792 : decode code 792 = .ok (.iaload, 1) := by decide +kernel
theorem dw_793 : decode code 793 = .ok (.invokevirtual 96, 3) := by decide +kernel
theorem dw_796 : decode code 796 = .ok (.aload_n 2, 1) := by decide +kernel
theorem dw_797 : decode code 797 = .ok (.aload_n 0, 1) := by decide +kernel
theorem dw_798 : decode code 798 = .ok (.iload 4, 2) := by decide +kernel
theorem dw_800 : decode code 800 = .ok (.iconst 1, 1) := by decide +kernel
theorem dw_801 : decode code 801 = .ok (.iadd, 1) := by decide +kernel
theorem dw_802 : decode code 802 = .ok (.iaload, 1) := by decide +kernel
theorem dw_803 : decode code 803 = .ok (.aload_n 0, 1) := by decide +kernel
theorem dw_804 : decode code 804 = .ok (.iload 4, 2) := by decide +kernel
theorem dw_806 : decode code 806 = .ok (.iconst 2, 1) := by decide +kernel
theorem dw_807 : decode code 807 = .ok (.iadd, 1) := by decide +kernel
theorem dw_808 : decode code 808 = .ok (.iaload, 1) := by decide +kernel
theorem dw_809 : decode code 809 = .ok (.aload_n 0, 1) := by decide +kernel
theorem dw_810 : decode code 810 = .ok (.iload 4, 2) := by decide +kernel
theorem dw_812 : decode code 812 = .ok (.iconst 3, 1) := by decide +kernel
theorem dw_813 : decode code 813 = .ok (.iadd, 1) := by decide +kernel
theorem dw_814 : decode code 814 = .ok (.iaload, 1) := by decide +kernel
theorem dw_815 : decode code 815 = .ok (.invokevirtual 99, 3) := by decide +kernel
theorem dw_818 : decode code 818 = .ok (.if_icmp .eq 513, 3) := by decide +kernel
theorem dw_823 : decode code 823 = .ok (.aload_n 1, 1) := by decide +kernel
theorem dw_824 : decode code 824 = .ok (.invokevirtual 100, 3) := by decide +kernel
theorem dw_827 : decode code 827 = .ok (.aload_n 2, 1) := by decide +kernel
theorem dw_828 : decode code 828 = .ok (.invokevirtual 103, 3) := by decide +kernel
theorem dw_831 : decode code 831 = .ok (.if_icmp .eq 500, 3) := by decide +kernel
theorem dw_836 : decode code 836 = .ok (.aload_n 1, 1) := by decide +kernel
theorem dw_837 : decode code 837 = .ok (.invokevirtual 104, 3) := by decide +kernel
theorem dw_840 : decode code 840 = .ok (.aload_n 2, 1) := by decide +kernel
theorem dw_841 : decode code 841 = .ok (.invokevirtual 107, 3) := by decide +kernel
theorem dw_844 : decode code 844 = .ok (.if_icmp .eq 487, 3) := by decide +kernel
theorem dw_849 : decode code 849 = .ok (.aload_n 1, 1) := by decide +kernel
theorem dw_850 : decode code 850 = .ok (.aload_n 0, 1) := by decide +kernel
theorem dw_851 : decode code 851 = .ok (.iload 4, 2) := by decide +kernel
theorem dw_853 : decode code 853 = .ok (.iconst 1, 1) := by decide +kernel
theorem dw_854 : decode code 854 = .ok (.iadd, 1) := by decide +kernel
theorem dw_855 : decode code 855 = .ok (.iaload, 1) := by decide +kernel
theorem dw_856 : decode code 856 = .ok (.aload_n 0, 1) := by decide +kernel
theorem dw_857 : decode code 857 = .ok (.iload 4, 2) := by decide +kernel
theorem dw_859 : decode code 859 = .ok (.iconst 2, 1) := by decide +kernel
theorem dw_860 : decode code 860 = .ok (.iadd, 1) := by decide +kernel
theorem dw_861 : decode code 861 = .ok (.iaload, 1) := by decide +kernel
theorem dw_862 : decode code 862 = .ok (.invokevirtual 108, 3) := by decide +kernel
theorem dw_865 : decode code 865 = .ok (.aload_n 2, 1) := by decide +kernel
theorem dw_866 : decode code 866 = .ok (.aload_n 0, 1) := by decide +kernel
theorem dw_867 : decode code 867 = .ok (.iload 4, 2) := by decide +kernel
theorem dw_869 : decode code 869 = .ok (.iconst 1, 1) := by decide +kernel
theorem dw_870 : decode code 870 = .ok (.iadd, 1) := by decide +kernel
theorem dw_871 : decode code 871 = .ok (.iaload, 1) := by decide +kernel
theorem dw_872 : decode code 872 = .ok (.aload_n 0, 1) := by decide +kernel
theorem dw_873 : decode code 873 = .ok (.iload 4, 2) := by decide +kernel
theorem dw_875 : decode code 875 = .ok (.iconst 2, 1) := by decide +kernel
theorem dw_876 : decode code 876 = .ok (.iadd, 1) := by decide +kernel
theorem dw_877 : decode code 877 = .ok (.iaload, 1) := by decide +kernel
theorem dw_878 : decode code 878 = .ok (.invokevirtual 111, 3) := by decide +kernel
theorem dw_881 : decode code 881 = .ok (.if_icmp .eq 450, 3) := by decide +kernel
theorem dw_886 : decode code 886 = .ok (.aload_n 1, 1) := by decide +kernel
theorem dw_887 : decode code 887 = .ok (.invokevirtual 112, 3) := by decide +kernel
theorem dw_890 : decode code 890 = .ok (.aload_n 2, 1) := by decide +kernel
theorem dw_891 : decode code 891 = .ok (.invokevirtual 115, 3) := by decide +kernel
theorem dw_894 : decode code 894 = .ok (.if_icmp .eq 437, 3) := by decide +kernel
theorem dw_899 : decode code 899 = .ok (.aload_n 1, 1) := by decide +kernel
theorem dw_900 : decode code 900 = .ok (.invokevirtual 116, 3) := by decide +kernel
theorem dw_903 : decode code 903 = .ok (.aload_n 2, 1) := by decide +kernel
theorem dw_904 : decode code 904 = .ok (.invokevirtual 119, 3) := by decide +kernel
theorem dw_907 : decode code 907 = .ok (.if_icmp .eq 424, 3) := by decide +kernel
theorem dw_912 : decode code 912 = .ok (.aload_n 1, 1) := by decide +kernel
theorem dw_913 : decode code 913 = .ok (.aload_n 0, 1) := by decide +kernel
theorem dw_914 : decode code 914 = .ok (.iload 4, 2) := by decide +kernel
theorem dw_916 : decode code 916 = .ok (.iconst 1, 1) := by decide +kernel
theorem dw_917 : decode code 917 = .ok (.iadd, 1) := by decide +kernel
theorem dw_918 : decode code 918 = .ok (.iaload, 1) := by decide +kernel
theorem dw_919 : decode code 919 = .ok (.invokevirtual 120, 3) := by decide +kernel
theorem dw_922 : decode code 922 = .ok (.aload_n 2, 1) := by decide +kernel
theorem dw_923 : decode code 923 = .ok (.aload_n 0, 1) := by decide +kernel
theorem dw_924 : decode code 924 = .ok (.iload 4, 2) := by decide +kernel
theorem dw_926 : decode code 926 = .ok (.iconst 1, 1) := by decide +kernel
theorem dw_927 : decode code 927 = .ok (.iadd, 1) := by decide +kernel
theorem dw_928 : decode code 928 = .ok (.iaload, 1) := by decide +kernel
theorem dw_929 : decode code 929 = .ok (.invokevirtual 123, 3) := by decide +kernel
theorem dw_932 : decode code 932 = .ok (.if_icmp .eq 399, 3) := by decide +kernel
theorem dw_937 : decode code 937 = .ok (.aload_n 1, 1) := by decide +kernel
theorem dw_938 : decode code 938 = .ok (.aload_n 0, 1) := by decide +kernel
theorem dw_939 : decode code 939 = .ok (.iload 4, 2) := by decide +kernel
theorem dw_941 : decode code 941 = .ok (.iconst 1, 1) := by decide +kernel
theorem dw_942 : decode code 942 = .ok (.iadd, 1) := by decide +kernel
theorem dw_943 : decode code 943 = .ok (.iaload, 1) := by decide +kernel
theorem dw_944 : decode code 944 = .ok (.invokevirtual 124, 3) := by decide +kernel
theorem dw_947 : decode code 947 = .ok (.aload_n 2, 1) := by decide +kernel
theorem dw_948 : decode code 948 = .ok (.aload_n 0, 1) := by decide +kernel
theorem dw_949 : decode code 949 = .ok (.iload 4, 2) := by decide +kernel
theorem dw_951 : decode code 951 = .ok (.iconst 1, 1) := by decide +kernel
theorem dw_952 : decode code 952 = .ok (.iadd, 1) := by decide +kernel
theorem dw_953 : decode code 953 = .ok (.iaload, 1) := by decide +kernel
theorem dw_954 : decode code 954 = .ok (.invokevirtual 127, 3) := by decide +kernel
theorem dw_957 : decode code 957 = .ok (.if_icmp .eq 374, 3) := by decide +kernel
theorem dw_962 : decode code 962 = .ok (.aload_n 1, 1) := by decide +kernel
theorem dw_963 : decode code 963 = .ok (.aload_n 0, 1) := by decide +kernel
theorem dw_964 : decode code 964 = .ok (.iload 4, 2) := by decide +kernel
theorem dw_966 : decode code 966 = .ok (.iconst 1, 1) := by decide +kernel
theorem dw_967 : decode code 967 = .ok (.iadd, 1) := by decide +kernel
theorem dw_968 : decode code 968 = .ok (.iaload, 1) := by decide +kernel
theorem dw_969 : decode code 969 = .ok (.invokevirtual 128, 3) := by decide +kernel
theorem dw_972 : decode code 972 = .ok (.aload_n 2, 1) := by decide +kernel
theorem dw_973 : decode code 973 = .ok (.aload_n 0, 1) := by decide +kernel
theorem dw_974 : decode code 974 = .ok (.iload 4, 2) := by decide +kernel
theorem dw_976 : decode code 976 = .ok (.iconst 1, 1) := by decide +kernel
theorem dw_977 : decode code 977 = .ok (.iadd, 1) := by decide +kernel
theorem dw_978 : decode code 978 = .ok (.iaload, 1) := by decide +kernel
theorem dw_979 : decode code 979 = .ok (.invokevirtual 131, 3) := by decide +kernel
theorem dw_982 : decode code 982 = .ok (.if_icmp .eq 349, 3) := by decide +kernel
theorem dw_987 : decode code 987 = .ok (.aload_n 1, 1) := by decide +kernel
theorem dw_988 : decode code 988 = .ok (.aload_n 0, 1) := by decide +kernel
theorem dw_989 : decode code 989 = .ok (.iload 4, 2) := by decide +kernel
theorem dw_991 : decode code 991 = .ok (.iconst 1, 1) := by decide +kernel
theorem dw_992 : decode code 992 = .ok (.iadd, 1) := by decide +kernel
theorem dw_993 : decode code 993 = .ok (.iaload, 1) := by decide +kernel
theorem dw_994 : decode code 994 = .ok (.aload_n 0, 1) := by decide +kernel
theorem dw_995 : decode code 995 = .ok (.iload 4, 2) := by decide +kernel
theorem dw_997 : decode code 997 = .ok (.iconst 2, 1) := by decide +kernel
theorem dw_998 : decode code 998 = .ok (.iadd, 1) := by decide +kernel
theorem dw_999 : decode code 999 = .ok (.iaload, 1) := by decide +kernel
theorem dw_1000 : decode code 1000 = .ok (.invokevirtual 132, 3) := by decide +kernel
theorem dw_1003 : decode code 1003 = .ok (.aload_n 2, 1) := by decide +kernel
theorem dw_1004 : decode code 1004 = .ok (.aload_n 0, 1) := by decide +kernel
theorem dw_1005 : decode code 1005 = .ok (.iload 4, 2) := by decide +kernel
theorem dw_1007 : decode code 1007 = .ok (.iconst 1, 1) := by decide +kernel
theorem dw_1008 : decode code 1008 = .ok (.iadd, 1) := by decide +kernel
theorem dw_1009 : decode code 1009 = .ok (.iaload, 1) := by decide +kernel
theorem dw_1010 : decode code 1010 = .ok (.aload_n 0, 1) := by decide +kernel
theorem dw_1011 : decode code 1011 = .ok (.iload 4, 2) := by decide +kernel
theorem dw_1013 : decode code 1013 = .ok (.iconst 2, 1) := by decide +kernel
theorem dw_1014 : decode code 1014 = .ok (.iadd, 1) := by decide +kernel
theorem dw_1015 : decode code 1015 = .ok (.iaload, 1) := by decide +kernel
theorem dw_1016 : decode code 1016 = .ok (.invokevirtual 135, 3) := by decide +kernel
theorem dw_1019 : decode code 1019 = .ok (.if_icmp .eq 312, 3) := by decide +kernel
theorem dw_1024 : decode code 1024 = .ok (.aload_n 1, 1) := by decide +kernel
theorem dw_1025 : decode code 1025 = .ok (.invokevirtual 136, 3) := by decide +kernel
theorem dw_1028 : decode code 1028 = .ok (.aload_n 2, 1) := by decide +kernel
theorem dw_1029 : decode code 1029 = .ok (.invokevirtual 139, 3) := by decide +kernel
theorem dw_1032 : decode code 1032 = .ok (.if_icmp .eq 299, 3) := by decide +kernel
theorem dw_1037 : decode code 1037 = .ok (.aload_n 1, 1) := by decide +kernel
theorem dw_1038 : decode code 1038 = .ok (.invokevirtual 140, 3) := by decide +kernel
theorem dw_1041 : decode code 1041 = .ok (.aload_n 2, 1) := by decide +kernel
theorem dw_1042 : decode code 1042 = .ok (.invokevirtual 143, 3) := by decide +kernel
theorem dw_1045 : decode code 1045 = .ok (.if_icmp .eq 286, 3) := by decide +kernel
theorem dw_1050 : decode code 1050 = .ok (.aload_n 1, 1) := by decide +kernel
theorem dw_1051 : decode code 1051 = .ok (.aload_n 0, 1) := by decide +kernel
theorem dw_1052 : decode code 1052 = .ok (.iload 4, 2) := by decide +kernel
theorem dw_1054 : decode code 1054 = .ok (.iconst 1, 1) := by decide +kernel
theorem dw_1055 : decode code 1055 = .ok (.iadd, 1) := by decide +kernel
theorem dw_1056 : decode code 1056 = .ok (.iaload, 1) := by decide +kernel
theorem dw_1057 : decode code 1057 = .ok (.invokevirtual 144, 3) := by decide +kernel
theorem dw_1060 : decode code 1060 = .ok (.aload_n 2, 1) := by decide +kernel
theorem dw_1061 : decode code 1061 = .ok (.aload_n 0, 1) := by decide +kernel
theorem dw_1062 : decode code 1062 = .ok (.iload 4, 2) := by decide +kernel
theorem dw_1064 : decode code 1064 = .ok (.iconst 1, 1) := by decide +kernel
theorem dw_1065 : decode code 1065 = .ok (.iadd, 1) := by decide +kernel
theorem dw_1066 : decode code 1066 = .ok (.iaload, 1) := by decide +kernel
theorem dw_1067 : decode code 1067 = .ok (.invokevirtual 147, 3) := by decide +kernel
theorem dw_1070 : decode code 1070 = .ok (.if_icmp .eq 261, 3) := by decide +kernel
theorem dw_1075 : decode code 1075 = .ok (.aload_n 1, 1) := by decide +kernel
theorem dw_1076 : decode code 1076 = .ok (.aload_n 0, 1) := by decide +kernel
theorem dw_1077 : decode code 1077 = .ok (.iload 4, 2) := by decide +kernel
theorem dw_1079 : decode code 1079 = .ok (.iconst 1, 1) := by decide +kernel
theorem dw_1080 : decode code 1080 = .ok (.iadd, 1) := by decide +kernel
theorem dw_1081 : decode code 1081 = .ok (.iaload, 1) := by decide +kernel
theorem dw_1082 : decode code 1082 = .ok (.invokevirtual 148, 3) := by decide +kernel
theorem dw_1085 : decode code 1085 = .ok (.aload_n 2, 1) := by decide +kernel
theorem dw_1086 : decode code 1086 = .ok (.aload_n 0, 1) := by decide +kernel
theorem dw_1087 : decode code 1087 = .ok (.iload 4, 2) := by decide +kernel
theorem dw_1089 : decode code 1089 = .ok (.iconst 1, 1) := by decide +kernel
theorem dw_1090 : decode code 1090 = .ok (.iadd, 1) := by decide +kernel
theorem dw_1091 : decode code 1091 = .ok (.iaload, 1) := by decide +kernel
theorem dw_1092 : decode code 1092 = .ok (.invokevirtual 151, 3) := by decide +kernel
theorem dw_1095 : decode code 1095 = .ok (.if_icmp .eq 236, 3) := by decide +kernel
theorem dw_1100 : decode code 1100 = .ok (.aload_n 1, 1) := by decide +kernel
theorem dw_1101 : decode code 1101 = .ok (.aload_n 0, 1) := by decide +kernel
theorem dw_1102 : decode code 1102 = .ok (.iload 4, 2) := by decide +kernel
theorem dw_1104 : decode code 1104 = .ok (.iconst 1, 1) := by decide +kernel
theorem dw_1105 : decode code 1105 = .ok (.iadd, 1) := by decide +kernel
theorem dw_1106 : decode code 1106 = .ok (.iaload, 1) := by decide +kernel
theorem dw_1107 : decode code 1107 = .ok (.aload_n 0, 1) := by decide +kernel
theorem dw_1108 : decode code 1108 = .ok (.iload 4, 2) := by decide +kernel
theorem dw_1110 : decode code 1110 = .ok (.iconst 2, 1) := by decide +kernel
theorem dw_1111 : decode code 1111 = .ok (.iadd, 1) := by decide +kernel
theorem dw_1112 : decode code 1112 = .ok (.iaload, 1) := by decide +kernel
theorem dw_1113 : decode code 1113 = .ok (.invokevirtual 152, 3) := by decide +kernel
theorem dw_1116 : decode code 1116 = .ok (.aload_n 2, 1) := by decide +kernel
theorem dw_1117 : decode code 1117 = .ok (.aload_n 0, 1) := by decide +kernel
theorem dw_1118 : decode code 1118 = .ok (.iload 4, 2) := by decide +kernel
theorem dw_1120 : decode code 1120 = .ok (.iconst 1, 1) := by decide +kernel
theorem dw_1121 : decode code 1121 = .ok (.iadd, 1) := by decide +kernel
theorem dw_1122 : decode code 1122 = .ok (.iaload, 1) := by decide +kernel
theorem dw_1123 : decode code 1123 = .ok (.aload_n 0, 1) := by decide +kernel
theorem dw_1124 : decode code 1124 = .ok (.iload 4, 2) := by decide +kernel
theorem dw_1126 : decode code 1126 = .ok (.iconst 2, 1) := by decide +kernel
theorem dw_1127 : decode code 1127 = .ok (.iadd, 1) := by decide +kernel
theorem dw_1128 : decode code 1128 = .ok (.iaload, 1) := by decide +kernel
theorem dw_1129 : decode code 1129 = .ok (.invokevirtual 155, 3) := by decide +kernel
theorem dw_1132 : decode code 1132 = .ok (.if_icmp .eq 199, 3) := by decide +kernel
theorem dw_1137 : decode code 1137 = .ok (.aload_n 1, 1) := by decide +kernel
theorem dw_1138 : decode code 1138 = .ok (.invokevirtual 156, 3) := by decide +kernel
theorem dw_1141 : decode code 1141 = .ok (.aload_n 2, 1) := by decide +kernel
theorem dw_1142 : decode code 1142 = .ok (.invokevirtual 159, 3) := by decide +kernel
theorem dw_1145 : decode code 1145 = .ok (.if_icmp .eq 186, 3) := by decide +kernel
theorem dw_1150 : decode code 1150 = .ok (.aload_n 1, 1) := by decide +kernel
theorem dw_1151 : decode code 1151 = .ok (.aload_n 0, 1) := by decide +kernel
theorem dw_1152 : decode code 1152 = .ok (.iload 4, 2) := by decide +kernel
theorem dw_1154 : decode code 1154 = .ok (.iconst 1, 1) := by decide +kernel
theorem dw_1155 : decode code 1155 = .ok (.iadd, 1) := by decide +kernel
theorem dw_1156 : decode code 1156 = .ok (.iaload, 1) := by decide +kernel
theorem dw_1157 : decode code 1157 = .ok (.aload_n 0, 1) := by decide +kernel
theorem dw_1158 : decode code 1158 = .ok (.iload 4, 2) := by decide +kernel
theorem dw_1160 : decode code 1160 = .ok (.iconst 2, 1) := by decide +kernel
theorem dw_1161 : decode code 1161 = .ok (.iadd, 1) := by decide +kernel
theorem dw_1162 : decode code 1162 = .ok (.iaload, 1) := by decide +kernel
theorem dw_1163 : decode code 1163 = .ok (.invokevirtual 160, 3) := by decide +kernel
theorem dw_1166 : decode code 1166 = .ok (.aload_n 2, 1) := by decide +kernel
theorem dw_1167 : decode code 1167 = .ok (.aload_n 0, 1) := by decide +kernel
theorem dw_1168 : decode code 1168 = .ok (.iload 4, 2) := by decide +kernel
theorem dw_1170 : decode code 1170 = .ok (.iconst 1, 1) := by decide +kernel
theorem dw_1171 : decode code 1171 = .ok (.iadd, 1) := by decide +kernel
theorem dw_1172 : decode code 1172 = .ok (.iaload, 1) := by decide +kernel
theorem dw_1173 : decode code 1173 = .ok (.aload_n 0, 1) := by decide +kernel
theorem dw_1174 : decode code 1174 = .ok (.iload 4, 2) := by decide +kernel
theorem dw_1176 : decode code 1176 = .ok (.iconst 2, 1) := by decide +kernel
theorem dw_1177 : decode code 1177 = .ok (.iadd, 1) := by decide +kernel
theorem dw_1178 : decode code 1178 = .ok (.iaload, 1) := by decide +kernel
theorem dw_1179 : decode code 1179 = .ok (.invokevirtual 163, 3) := by decide +kernel
theorem dw_1182 : decode code 1182 = .ok (.if_icmp .eq 149, 3) := by decide +kernel
theorem dw_1187 : decode code 1187 = .ok (.aload_n 1, 1) := by decide +kernel
theorem dw_1188 : decode code 1188 = .ok (.invokevirtual 164, 3) := by decide +kernel
theorem dw_1191 : decode code 1191 = .ok (.aload_n 2, 1) := by decide +kernel
theorem dw_1192 : decode code 1192 = .ok (.invokevirtual 167, 3) := by decide +kernel
theorem dw_1195 : decode code 1195 = .ok (.if_icmp .eq 136, 3) := by decide +kernel
theorem dw_1200 : decode code 1200 = .ok (.aload_n 1, 1) := by decide +kernel
theorem dw_1201 : decode code 1201 = .ok (.invokevirtual 168, 3) := by decide +kernel
theorem dw_1204 : decode code 1204 = .ok (.aload_n 2, 1) := by decide +kernel
theorem dw_1205 : decode code 1205 = .ok (.invokevirtual 171, 3) := by decide +kernel
theorem dw_1208 : decode code 1208 = .ok (.if_icmp .eq 123, 3) := by decide +kernel
theorem dw_1213 : decode code 1213 = .ok (.aload_n 1, 1) := by decide +kernel
theorem dw_1214 : decode code 1214 = .ok (.invokevirtual 172, 3) := by decide +kernel
theorem dw_1217 : decode code 1217 = .ok (.aload_n 2, 1) := by decide +kernel
theorem dw_1218 : decode code 1218 = .ok (.invokevirtual 175, 3) := by decide +kernel
theorem dw_1221 : decode code 1221 = .ok (.if_icmp .eq 110, 3) := by decide +kernel
theorem dw_1226 : decode code 1226 = .ok (.aload_n 1, 1) := by decide +kernel
theorem dw_1227 : decode code 1227 = .ok (.aload_n 0, 1) := by decide +kernel
theorem dw_1228 : decode code 1228 = .ok (.iload 4, 2) := by decide +kernel
theorem dw_1230 : decode code 1230 = .ok (.iconst 1, 1) := by decide +kernel
theorem dw_1231 : decode code 1231 = .ok (.iadd, 1) := by decide +kernel
theorem dw_1232 : decode code 1232 = .ok (.iaload, 1) := by decide +kernel
theorem dw_1233 : decode code 1233 = .ok (.invokevirtual 176, 3) := by decide +kernel
theorem dw_1236 : decode code 1236 = .ok (.aload_n 2, 1) := by decide +kernel
theorem dw_1237 : decode code 1237 = .ok (.aload_n 0, 1) := by decide +kernel
theorem dw_1238 : decode code 1238 = .ok (.iload 4, 2) := by decide +kernel
theorem dw_1240 : decode code 1240 = .ok (.iconst 1, 1) := by decide +kernel
theorem dw_1241 : decode code 1241 = .ok (.iadd, 1) := by decide +kernel
theorem dw_1242 : decode code 1242 = .ok (.iaload, 1) := by decide +kernel
theorem dw_1243 : decode code 1243 = .ok (.invokevirtual 179, 3) := by decide +kernel
theorem dw_1246 : decode code 1246 = .ok (.if_icmp .eq 85, 3) := by decide +kernel
theorem dw_1251 : decode code 1251 = .ok (.aload_n 1, 1) := by decide +kernel
theorem dw_1252 : decode code 1252 = .ok (.aload_n 0, 1) := by decide +kernel
theorem dw_1253 : decode code 1253 = .ok (.iload 4, 2) := by decide +kernel
theorem dw_1255 : decode code 1255 = .ok (.iconst 1, 1) := by decide +kernel
theorem dw_1256 : decode code 1256 = .ok (.iadd, 1) := by decide +kernel
theorem dw_1257 : decode code 1257 = .ok (.iaload, 1) := by decide +kernel
theorem dw_1258 : decode code 1258 = .ok (.invokevirtual 180, 3) := by decide +kernel
theorem dw_1261 : decode code 1261 = .ok (.aload_n 2, 1) := by decide +kernel
theorem dw_1262 : decode code 1262 = .ok (.aload_n 0, 1) := by decide +kernel
theorem dw_1263 : decode code 1263 = .ok (.iload 4, 2) := by decide +kernel
theorem dw_1265 : decode code 1265 = .ok (.iconst 1, 1) := by decide +kernel
theorem dw_1266 : decode code 1266 = .ok (.iadd, 1) := by decide +kernel
theorem dw_1267 : decode code 1267 = .ok (.iaload, 1) := by decide +kernel
theorem dw_1268 : decode code 1268 = .ok (.invokevirtual 183, 3) := by decide +kernel
theorem dw_1271 : decode code 1271 = .ok (.if_icmp .eq 60, 3) := by decide +kernel
section LWK
variable {p : Program} {l : Launch} {e : Env} {s : State} {m : MethodId} {below : List Frame} {meth : Method} {c : Code} {g : gb_G} {A : Nat → Prop} {cells slots b L : Nat} {xs : Nat → Int32} {Q : State → Prop}
theorem lw_case_0 (X : gb_Lw p s m c g A cells slots b L xs) {i : Int32} {H : Heap} {locs : List Loc} {arr : Array Slot} {σ : gb_M} {A0 : gb_Ab} (hP : va_P (g.1, g.2.1) vwCl (gb_ws g σ) H) (hS : va_S A s.heap H locs) (hv : lv_has arr 8 (lw_l g b i)) (hAll : gb_All σ A0) (hks : ∀ k ∈ ([1, 2, 3] : List Int), vp_in (i + Int32.ofInt k) L)
    (hnext : ∀ (σ' : gb_M) (A' : gb_Ab) (H1 : Heap) (locs1 : List Loc), gb_All σ' A' → va_P (g.1, g.2.1) vwCl (gb_ws g σ') H1 → va_S A s.heap H1 locs1 → W p l e room_1 s m #[Value.ref b] below meth c H1 locs1 cells slots Q (F0 m 1331 arr [])) : W p l e room_1 s m #[Value.ref b] below meth c H locs cells slots Q (F0 m 216 arr []) := by
  have hx := X.1
  have hb := X.2.1
  refine lw_two (crk := 1) X hP hS hv hAll (ks := [1]) (n := 6) rfl (fun k hk => hks k (lw_in1 hk)) (th_sign hAll.2.2.2 _) c_X9_sign c_X10_sign (gb_l5 lwd_0 lwd_1 lwd_2 lwd_3 lwd_4) (gb_l5 lwd_5 lwd_6 lwd_7 lwd_8 lwd_9) v_X9_sign v_X10_sign ⟨Nat.le_of_ble_eq_true rfl, Nat.le_of_ble_eq_true rfl⟩ ⟨Nat.le_of_ble_eq_true rfl, Nat.le_of_ble_eq_true rfl⟩ dw_216 ⟨dw_217, dw_218, dw_220, dw_221, dw_222, trivial⟩ dw_223 dw_226 ⟨dw_227, dw_228, dw_230, dw_231, dw_232, trivial⟩ dw_233 (Or.inl rfl) (fun v σ' A' H1 locs1 hk hA hP hS => ?_)
  obtain ⟨x, rfl⟩ := hk
  exact lv_icmp_eq (tgt := 1331) hx hb dw_236 (by decide) (fun _ => hnext _ _ _ _ hA hP hS) (fun z => absurd rfl z)
theorem lw_case_1 (X : gb_Lw p s m c g A cells slots b L xs) {i : Int32} {H : Heap} {locs : List Loc} {arr : Array Slot} {σ : gb_M} {A0 : gb_Ab} (hP : va_P (g.1, g.2.1) vwCl (gb_ws g σ) H) (hS : va_S A s.heap H locs) (hv : lv_has arr 8 (lw_l g b i)) (hAll : gb_All σ A0) (hks : ∀ k ∈ ([1, 2, 3] : List Int), vp_in (i + Int32.ofInt k) L)
    (hnext : ∀ (σ' : gb_M) (A' : gb_Ab) (H1 : Heap) (locs1 : List Loc), gb_All σ' A' → va_P (g.1, g.2.1) vwCl (gb_ws g σ') H1 → va_S A s.heap H1 locs1 → W p l e room_1 s m #[Value.ref b] below meth c H1 locs1 cells slots Q (F0 m 1331 arr [])) : W p l e room_1 s m #[Value.ref b] below meth c H locs cells slots Q (F0 m 241 arr []) := by
  have hx := X.1
  have hb := X.2.1
  refine lw_two (crk := 2) X hP hS hv hAll (ks := [1]) (n := 6) rfl (fun k hk => hks k (lw_in1 hk)) (th_end hAll.2.2.2 _) c_X9_end c_X10_end (gb_l5 lwd_10 lwd_11 lwd_12 lwd_3 lwd_13) (gb_l5 lwd_14 lwd_15 lwd_16 lwd_8 lwd_17) v_X9_end v_X10_end ⟨Nat.le_of_ble_eq_true rfl, Nat.le_of_ble_eq_true rfl⟩ ⟨Nat.le_of_ble_eq_true rfl, Nat.le_of_ble_eq_true rfl⟩ dw_241 ⟨dw_242, dw_243, dw_245, dw_246, dw_247, trivial⟩ dw_248 dw_251 ⟨dw_252, dw_253, dw_255, dw_256, dw_257, trivial⟩ dw_258 (Or.inr (Or.inl rfl)) (fun v σ' A' H1 locs1 hk hA hP hS => ?_)
  obtain ⟨x, rfl⟩ := hk
  exact lv_icmp_eq (tgt := 1331) hx hb dw_261 (by decide) (fun _ => hnext _ _ _ _ hA hP hS) (fun z => absurd rfl z)
theorem lw_case_2 (X : gb_Lw p s m c g A cells slots b L xs) {i : Int32} {H : Heap} {locs : List Loc} {arr : Array Slot} {σ : gb_M} {A0 : gb_Ab} (hP : va_P (g.1, g.2.1) vwCl (gb_ws g σ) H) (hS : va_S A s.heap H locs) (hv : lv_has arr 8 (lw_l g b i)) (hAll : gb_All σ A0) (hks : ∀ k ∈ ([1, 2, 3] : List Int), vp_in (i + Int32.ofInt k) L)
    (hnext : ∀ (σ' : gb_M) (A' : gb_Ab) (H1 : Heap) (locs1 : List Loc), gb_All σ' A' → va_P (g.1, g.2.1) vwCl (gb_ws g σ') H1 → va_S A s.heap H1 locs1 → W p l e room_1 s m #[Value.ref b] below meth c H1 locs1 cells slots Q (F0 m 1331 arr [])) : W p l e room_1 s m #[Value.ref b] below meth c H locs cells slots Q (F0 m 266 arr []) := by
  have hx := X.1
  have hb := X.2.1
  refine lw_two (crk := 1) X hP hS hv hAll (ks := []) (n := 0) rfl (fun k hk => hks k (lw_in0 hk)) (th_land hAll.2.2.2 hAll.1.2.2.2.1.2.2.2) c_X9_land c_X10_land (gb_l5 lwd_18 lwd_19 lwd_20 lwd_3 lwd_21) (gb_l5 lwd_22 lwd_23 lwd_24 lwd_8 lwd_25) v_X9_land v_X10_land ⟨Nat.le_of_ble_eq_true rfl, Nat.le_of_ble_eq_true rfl⟩ ⟨Nat.le_of_ble_eq_true rfl, Nat.le_of_ble_eq_true rfl⟩ dw_266 trivial dw_267 dw_270 trivial dw_271 (Or.inl rfl) (fun v σ' A' H1 locs1 hk hA hP hS => ?_)
  obtain ⟨x, rfl⟩ := hk
  exact lv_icmp_eq (tgt := 1331) hx hb dw_274 (by decide) (fun _ => hnext _ _ _ _ hA hP hS) (fun z => absurd rfl z)
theorem lw_case_3 (X : gb_Lw p s m c g A cells slots b L xs) {i : Int32} {H : Heap} {locs : List Loc} {arr : Array Slot} {σ : gb_M} {A0 : gb_Ab} (hP : va_P (g.1, g.2.1) vwCl (gb_ws g σ) H) (hS : va_S A s.heap H locs) (hv : lv_has arr 8 (lw_l g b i)) (hAll : gb_All σ A0) (hks : ∀ k ∈ ([1, 2, 3] : List Int), vp_in (i + Int32.ofInt k) L)
    (hnext : ∀ (σ' : gb_M) (A' : gb_Ab) (H1 : Heap) (locs1 : List Loc), gb_All σ' A' → va_P (g.1, g.2.1) vwCl (gb_ws g σ') H1 → va_S A s.heap H1 locs1 → W p l e room_1 s m #[Value.ref b] below meth c H1 locs1 cells slots Q (F0 m 1331 arr [])) : W p l e room_1 s m #[Value.ref b] below meth c H locs cells slots Q (F0 m 279 arr []) := by
  have hx := X.1
  have hb := X.2.1
  refine lw_two (crk := 1) X hP hS hv hAll (ks := [1, 2]) (n := 12) rfl (fun k hk => hks k (lw_in2 hk)) (th_grade hAll.2.2.2 _ _) c_X9_grade c_X10_grade (gb_l5 lwd_26 lwd_27 lwd_28 lwd_3 lwd_29) (gb_l5 lwd_30 lwd_31 lwd_32 lwd_8 lwd_33) v_X9_grade v_X10_grade ⟨Nat.le_of_ble_eq_true rfl, Nat.le_of_ble_eq_true rfl⟩ ⟨Nat.le_of_ble_eq_true rfl, Nat.le_of_ble_eq_true rfl⟩ dw_279 ⟨dw_280, dw_281, dw_283, dw_284, dw_285, ⟨dw_286, dw_287, dw_289, dw_290, dw_291, trivial⟩⟩ dw_292 dw_295 ⟨dw_296, dw_297, dw_299, dw_300, dw_301, ⟨dw_302, dw_303, dw_305, dw_306, dw_307, trivial⟩⟩ dw_308 (Or.inl rfl) (fun v σ' A' H1 locs1 hk hA hP hS => ?_)
  obtain ⟨x, rfl⟩ := hk
  exact lv_icmp_eq (tgt := 1331) hx hb dw_311 (by decide) (fun _ => hnext _ _ _ _ hA hP hS) (fun z => absurd rfl z)
theorem lw_case_4 (X : gb_Lw p s m c g A cells slots b L xs) {i : Int32} {H : Heap} {locs : List Loc} {arr : Array Slot} {σ : gb_M} {A0 : gb_Ab} (hP : va_P (g.1, g.2.1) vwCl (gb_ws g σ) H) (hS : va_S A s.heap H locs) (hv : lv_has arr 8 (lw_l g b i)) (hAll : gb_All σ A0) (hks : ∀ k ∈ ([1, 2, 3] : List Int), vp_in (i + Int32.ofInt k) L)
    (hnext : ∀ (σ' : gb_M) (A' : gb_Ab) (H1 : Heap) (locs1 : List Loc), gb_All σ' A' → va_P (g.1, g.2.1) vwCl (gb_ws g σ') H1 → va_S A s.heap H1 locs1 → W p l e room_1 s m #[Value.ref b] below meth c H1 locs1 cells slots Q (F0 m 1331 arr [])) : W p l e room_1 s m #[Value.ref b] below meth c H locs cells slots Q (F0 m 316 arr []) := by
  have hx := X.1
  have hb := X.2.1
  refine lw_two (crk := 1) X hP hS hv hAll (ks := [1, 2]) (n := 12) rfl (fun k hk => hks k (lw_in2 hk)) (th_pair hAll.2.2.2 _ _) c_X9_pair c_X10_pair (gb_l5 lwd_34 lwd_35 lwd_36 lwd_3 lwd_37) (gb_l5 lwd_38 lwd_39 lwd_40 lwd_8 lwd_41) v_X9_pair v_X10_pair ⟨Nat.le_of_ble_eq_true rfl, Nat.le_of_ble_eq_true rfl⟩ ⟨Nat.le_of_ble_eq_true rfl, Nat.le_of_ble_eq_true rfl⟩ dw_316 ⟨dw_317, dw_318, dw_320, dw_321, dw_322, ⟨dw_323, dw_324, dw_326, dw_327, dw_328, trivial⟩⟩ dw_329 dw_332 ⟨dw_333, dw_334, dw_336, dw_337, dw_338, ⟨dw_339, dw_340, dw_342, dw_343, dw_344, trivial⟩⟩ dw_345 (Or.inl rfl) (fun v σ' A' H1 locs1 hk hA hP hS => ?_)
  obtain ⟨x, rfl⟩ := hk
  exact lv_icmp_eq (tgt := 1331) hx hb dw_348 (by decide) (fun _ => hnext _ _ _ _ hA hP hS) (fun z => absurd rfl z)
theorem lw_case_5 (X : gb_Lw p s m c g A cells slots b L xs) {i : Int32} {H : Heap} {locs : List Loc} {arr : Array Slot} {σ : gb_M} {A0 : gb_Ab} (hP : va_P (g.1, g.2.1) vwCl (gb_ws g σ) H) (hS : va_S A s.heap H locs) (hv : lv_has arr 8 (lw_l g b i)) (hAll : gb_All σ A0) (hks : ∀ k ∈ ([1, 2, 3] : List Int), vp_in (i + Int32.ofInt k) L)
    (hnext : ∀ (σ' : gb_M) (A' : gb_Ab) (H1 : Heap) (locs1 : List Loc), gb_All σ' A' → va_P (g.1, g.2.1) vwCl (gb_ws g σ') H1 → va_S A s.heap H1 locs1 → W p l e room_1 s m #[Value.ref b] below meth c H1 locs1 cells slots Q (F0 m 1331 arr [])) : W p l e room_1 s m #[Value.ref b] below meth c H locs cells slots Q (F0 m 353 arr []) := by
  have hx := X.1
  have hb := X.2.1
  refine lw_two (crk := 1) X hP hS hv hAll (ks := [1, 2]) (n := 12) rfl (fun k hk => hks k (lw_in2 hk)) (th_bin hAll.2.2.2 _ _) c_X9_bin c_X10_bin (gb_l5 lwd_42 lwd_43 lwd_44 lwd_3 lwd_45) (gb_l5 lwd_46 lwd_47 lwd_48 lwd_8 lwd_49) v_X9_bin v_X10_bin ⟨Nat.le_of_ble_eq_true rfl, Nat.le_of_ble_eq_true rfl⟩ ⟨Nat.le_of_ble_eq_true rfl, Nat.le_of_ble_eq_true rfl⟩ dw_353 ⟨dw_354, dw_355, dw_357, dw_358, dw_359, ⟨dw_360, dw_361, dw_363, dw_364, dw_365, trivial⟩⟩ dw_366 dw_369 ⟨dw_370, dw_371, dw_373, dw_374, dw_375, ⟨dw_376, dw_377, dw_379, dw_380, dw_381, trivial⟩⟩ dw_382 (Or.inl rfl) (fun v σ' A' H1 locs1 hk hA hP hS => ?_)
  obtain ⟨x, rfl⟩ := hk
  exact lv_icmp_eq (tgt := 1331) hx hb dw_385 (by decide) (fun _ => hnext _ _ _ _ hA hP hS) (fun z => absurd rfl z)
theorem lw_case_6 (X : gb_Lw p s m c g A cells slots b L xs) {i : Int32} {H : Heap} {locs : List Loc} {arr : Array Slot} {σ : gb_M} {A0 : gb_Ab} (hP : va_P (g.1, g.2.1) vwCl (gb_ws g σ) H) (hS : va_S A s.heap H locs) (hv : lv_has arr 8 (lw_l g b i)) (hAll : gb_All σ A0) (hks : ∀ k ∈ ([1, 2, 3] : List Int), vp_in (i + Int32.ofInt k) L)
    (hnext : ∀ (σ' : gb_M) (A' : gb_Ab) (H1 : Heap) (locs1 : List Loc), gb_All σ' A' → va_P (g.1, g.2.1) vwCl (gb_ws g σ') H1 → va_S A s.heap H1 locs1 → W p l e room_1 s m #[Value.ref b] below meth c H1 locs1 cells slots Q (F0 m 1331 arr [])) : W p l e room_1 s m #[Value.ref b] below meth c H locs cells slots Q (F0 m 390 arr []) := by
  have hx := X.1
  have hb := X.2.1
  refine lw_two (crk := 1) X hP hS hv hAll (ks := [1, 2, 3]) (n := 18) rfl (fun k hk => hks k (lw_in3 hk)) (th_layer hAll.2.2.2 _ _ _) c_X9_layer c_X10_layer (gb_l5 lwd_50 lwd_51 lwd_52 lwd_3 lwd_53) (gb_l5 lwd_54 lwd_55 lwd_56 lwd_8 lwd_57) v_X9_layer v_X10_layer ⟨Nat.le_of_ble_eq_true rfl, Nat.le_of_ble_eq_true rfl⟩ ⟨Nat.le_of_ble_eq_true rfl, Nat.le_of_ble_eq_true rfl⟩ dw_390 ⟨dw_391, dw_392, dw_394, dw_395, dw_396, ⟨dw_397, dw_398, dw_400, dw_401, dw_402, ⟨dw_403, dw_404, dw_406, dw_407, dw_408, trivial⟩⟩⟩ dw_409 dw_412 ⟨dw_413, dw_414, dw_416, dw_417, dw_418, ⟨dw_419, dw_420, dw_422, dw_423, dw_424, ⟨dw_425, dw_426, dw_428, dw_429, dw_430, trivial⟩⟩⟩ dw_431 (Or.inl rfl) (fun v σ' A' H1 locs1 hk hA hP hS => ?_)
  obtain ⟨x, rfl⟩ := hk
  exact lv_icmp_eq (tgt := 1331) hx hb dw_434 (by decide) (fun _ => hnext _ _ _ _ hA hP hS) (fun z => absurd rfl z)
theorem lw_case_7 (X : gb_Lw p s m c g A cells slots b L xs) {i : Int32} {H : Heap} {locs : List Loc} {arr : Array Slot} {σ : gb_M} {A0 : gb_Ab} (hP : va_P (g.1, g.2.1) vwCl (gb_ws g σ) H) (hS : va_S A s.heap H locs) (hv : lv_has arr 8 (lw_l g b i)) (hAll : gb_All σ A0) (hks : ∀ k ∈ ([1, 2, 3] : List Int), vp_in (i + Int32.ofInt k) L)
    (hnext : ∀ (σ' : gb_M) (A' : gb_Ab) (H1 : Heap) (locs1 : List Loc), gb_All σ' A' → va_P (g.1, g.2.1) vwCl (gb_ws g σ') H1 → va_S A s.heap H1 locs1 → W p l e room_1 s m #[Value.ref b] below meth c H1 locs1 cells slots Q (F0 m 1331 arr [])) : W p l e room_1 s m #[Value.ref b] below meth c H locs cells slots Q (F0 m 439 arr []) := by
  have hx := X.1
  have hb := X.2.1
  refine lw_two (crk := 1) X hP hS hv hAll (ks := [1, 2, 3]) (n := 18) rfl (fun k hk => hks k (lw_in3 hk)) (th_load hAll.2.2.2 _ _ _) c_X9_load c_X10_load (gb_l5 lwd_58 lwd_59 lwd_60 lwd_3 lwd_61) (gb_l5 lwd_62 lwd_63 lwd_64 lwd_8 lwd_65) v_X9_load v_X10_load ⟨Nat.le_of_ble_eq_true rfl, Nat.le_of_ble_eq_true rfl⟩ ⟨Nat.le_of_ble_eq_true rfl, Nat.le_of_ble_eq_true rfl⟩ dw_439 ⟨dw_440, dw_441, dw_443, dw_444, dw_445, ⟨dw_446, dw_447, dw_449, dw_450, dw_451, ⟨dw_452, dw_453, dw_455, dw_456, dw_457, trivial⟩⟩⟩ dw_458 dw_461 ⟨dw_462, dw_463, dw_465, dw_466, dw_467, ⟨dw_468, dw_469, dw_471, dw_472, dw_473, ⟨dw_474, dw_475, dw_477, dw_478, dw_479, trivial⟩⟩⟩ dw_480 (Or.inl rfl) (fun v σ' A' H1 locs1 hk hA hP hS => ?_)
  obtain ⟨x, rfl⟩ := hk
  exact lv_icmp_eq (tgt := 1331) hx hb dw_483 (by decide) (fun _ => hnext _ _ _ _ hA hP hS) (fun z => absurd rfl z)
theorem lw_case_8 (X : gb_Lw p s m c g A cells slots b L xs) {i : Int32} {H : Heap} {locs : List Loc} {arr : Array Slot} {σ : gb_M} {A0 : gb_Ab} (hP : va_P (g.1, g.2.1) vwCl (gb_ws g σ) H) (hS : va_S A s.heap H locs) (hv : lv_has arr 8 (lw_l g b i)) (hAll : gb_All σ A0) (hks : ∀ k ∈ ([1, 2, 3] : List Int), vp_in (i + Int32.ofInt k) L)
    (hnext : ∀ (σ' : gb_M) (A' : gb_Ab) (H1 : Heap) (locs1 : List Loc), gb_All σ' A' → va_P (g.1, g.2.1) vwCl (gb_ws g σ') H1 → va_S A s.heap H1 locs1 → W p l e room_1 s m #[Value.ref b] below meth c H1 locs1 cells slots Q (F0 m 1331 arr [])) : W p l e room_1 s m #[Value.ref b] below meth c H locs cells slots Q (F0 m 488 arr []) := by
  have hx := X.1
  have hb := X.2.1
  refine lw_two (crk := 1) X hP hS hv hAll (ks := [1, 2]) (n := 12) rfl (fun k hk => hks k (lw_in2 hk)) (th_draw hAll.2.2.2 _ _) c_X9_draw c_X10_draw (gb_l5 lwd_66 lwd_67 lwd_68 lwd_3 lwd_69) (gb_l5 lwd_70 lwd_71 lwd_72 lwd_8 lwd_73) v_X9_draw v_X10_draw ⟨Nat.le_of_ble_eq_true rfl, Nat.le_of_ble_eq_true rfl⟩ ⟨Nat.le_of_ble_eq_true rfl, Nat.le_of_ble_eq_true rfl⟩ dw_488 ⟨dw_489, dw_490, dw_492, dw_493, dw_494, ⟨dw_495, dw_496, dw_498, dw_499, dw_500, trivial⟩⟩ dw_501 dw_504 ⟨dw_505, dw_506, dw_508, dw_509, dw_510, ⟨dw_511, dw_512, dw_514, dw_515, dw_516, trivial⟩⟩ dw_517 (Or.inl rfl) (fun v σ' A' H1 locs1 hk hA hP hS => ?_)
  obtain ⟨x, rfl⟩ := hk
  exact lv_icmp_eq (tgt := 1331) hx hb dw_520 (by decide) (fun _ => hnext _ _ _ _ hA hP hS) (fun z => absurd rfl z)
theorem lw_case_9 (X : gb_Lw p s m c g A cells slots b L xs) {i : Int32} {H : Heap} {locs : List Loc} {arr : Array Slot} {σ : gb_M} {A0 : gb_Ab} (hP : va_P (g.1, g.2.1) vwCl (gb_ws g σ) H) (hS : va_S A s.heap H locs) (hv : lv_has arr 8 (lw_l g b i)) (hAll : gb_All σ A0) (hks : ∀ k ∈ ([1, 2, 3] : List Int), vp_in (i + Int32.ofInt k) L)
    (hnext : ∀ (σ' : gb_M) (A' : gb_Ab) (H1 : Heap) (locs1 : List Loc), gb_All σ' A' → va_P (g.1, g.2.1) vwCl (gb_ws g σ') H1 → va_S A s.heap H1 locs1 → W p l e room_1 s m #[Value.ref b] below meth c H1 locs1 cells slots Q (F0 m 1331 arr [])) : W p l e room_1 s m #[Value.ref b] below meth c H locs cells slots Q (F0 m 525 arr []) := by
  have hx := X.1
  have hb := X.2.1
  refine lw_two (crk := 1) X hP hS hv hAll (ks := [1, 2, 3]) (n := 18) rfl (fun k hk => hks k (lw_in3 hk)) (th_move hAll.2.2.2 _ _ _) c_X9_move c_X10_move (gb_l5 lwd_74 lwd_75 lwd_76 lwd_3 lwd_77) (gb_l5 lwd_78 lwd_79 lwd_80 lwd_8 lwd_81) v_X9_move v_X10_move ⟨Nat.le_of_ble_eq_true rfl, Nat.le_of_ble_eq_true rfl⟩ ⟨Nat.le_of_ble_eq_true rfl, Nat.le_of_ble_eq_true rfl⟩ dw_525 ⟨dw_526, dw_527, dw_529, dw_530, dw_531, ⟨dw_532, dw_533, dw_535, dw_536, dw_537, ⟨dw_538, dw_539, dw_541, dw_542, dw_543, trivial⟩⟩⟩ dw_544 dw_547 ⟨dw_548, dw_549, dw_551, dw_552, dw_553, ⟨dw_554, dw_555, dw_557, dw_558, dw_559, ⟨dw_560, dw_561, dw_563, dw_564, dw_565, trivial⟩⟩⟩ dw_566 (Or.inl rfl) (fun v σ' A' H1 locs1 hk hA hP hS => ?_)
  obtain ⟨x, rfl⟩ := hk
  exact lv_icmp_eq (tgt := 1331) hx hb dw_569 (by decide) (fun _ => hnext _ _ _ _ hA hP hS) (fun z => absurd rfl z)
theorem lw_case_10 (X : gb_Lw p s m c g A cells slots b L xs) {i : Int32} {H : Heap} {locs : List Loc} {arr : Array Slot} {σ : gb_M} {A0 : gb_Ab} (hP : va_P (g.1, g.2.1) vwCl (gb_ws g σ) H) (hS : va_S A s.heap H locs) (hv : lv_has arr 8 (lw_l g b i)) (hAll : gb_All σ A0) (hks : ∀ k ∈ ([1, 2, 3] : List Int), vp_in (i + Int32.ofInt k) L)
    (hnext : ∀ (σ' : gb_M) (A' : gb_Ab) (H1 : Heap) (locs1 : List Loc), gb_All σ' A' → va_P (g.1, g.2.1) vwCl (gb_ws g σ') H1 → va_S A s.heap H1 locs1 → W p l e room_1 s m #[Value.ref b] below meth c H1 locs1 cells slots Q (F0 m 1331 arr [])) : W p l e room_1 s m #[Value.ref b] below meth c H locs cells slots Q (F0 m 574 arr []) := by
  have hx := X.1
  have hb := X.2.1
  refine lw_two (crk := 1) X hP hS hv hAll (ks := [1]) (n := 6) rfl (fun k hk => hks k (lw_in1 hk)) (th_turn hAll.2.2.2 _) c_X9_turn c_X10_turn (gb_l5 lwd_82 lwd_83 lwd_84 lwd_3 lwd_85) (gb_l5 lwd_86 lwd_87 lwd_88 lwd_8 lwd_89) v_X9_turn v_X10_turn ⟨Nat.le_of_ble_eq_true rfl, Nat.le_of_ble_eq_true rfl⟩ ⟨Nat.le_of_ble_eq_true rfl, Nat.le_of_ble_eq_true rfl⟩ dw_574 ⟨dw_575, dw_576, dw_578, dw_579, dw_580, trivial⟩ dw_581 dw_584 ⟨dw_585, dw_586, dw_588, dw_589, dw_590, trivial⟩ dw_591 (Or.inl rfl) (fun v σ' A' H1 locs1 hk hA hP hS => ?_)
  obtain ⟨x, rfl⟩ := hk
  exact lv_icmp_eq (tgt := 1331) hx hb dw_594 (by decide) (fun _ => hnext _ _ _ _ hA hP hS) (fun z => absurd rfl z)
theorem lw_case_11 (X : gb_Lw p s m c g A cells slots b L xs) {i : Int32} {H : Heap} {locs : List Loc} {arr : Array Slot} {σ : gb_M} {A0 : gb_Ab} (hP : va_P (g.1, g.2.1) vwCl (gb_ws g σ) H) (hS : va_S A s.heap H locs) (hv : lv_has arr 8 (lw_l g b i)) (hAll : gb_All σ A0) (hks : ∀ k ∈ ([1, 2, 3] : List Int), vp_in (i + Int32.ofInt k) L)
    (hnext : ∀ (σ' : gb_M) (A' : gb_Ab) (H1 : Heap) (locs1 : List Loc), gb_All σ' A' → va_P (g.1, g.2.1) vwCl (gb_ws g σ') H1 → va_S A s.heap H1 locs1 → W p l e room_1 s m #[Value.ref b] below meth c H1 locs1 cells slots Q (F0 m 1331 arr [])) : W p l e room_1 s m #[Value.ref b] below meth c H locs cells slots Q (F0 m 599 arr []) := by
  have hx := X.1
  have hb := X.2.1
  refine lw_two (crk := 1) X hP hS hv hAll (ks := [1, 2]) (n := 12) rfl (fun k hk => hks k (lw_in2 hk)) (th_fumes hAll.2.2.2 _ _) c_X9_fumes c_X10_fumes (gb_l5 lwd_90 lwd_91 lwd_92 lwd_3 lwd_93) (gb_l5 lwd_94 lwd_95 lwd_96 lwd_8 lwd_97) v_X9_fumes v_X10_fumes ⟨Nat.le_of_ble_eq_true rfl, Nat.le_of_ble_eq_true rfl⟩ ⟨Nat.le_of_ble_eq_true rfl, Nat.le_of_ble_eq_true rfl⟩ dw_599 ⟨dw_600, dw_601, dw_603, dw_604, dw_605, ⟨dw_606, dw_607, dw_609, dw_610, dw_611, trivial⟩⟩ dw_612 dw_615 ⟨dw_616, dw_617, dw_619, dw_620, dw_621, ⟨dw_622, dw_623, dw_625, dw_626, dw_627, trivial⟩⟩ dw_628 (Or.inl rfl) (fun v σ' A' H1 locs1 hk hA hP hS => ?_)
  obtain ⟨x, rfl⟩ := hk
  exact lv_icmp_eq (tgt := 1331) hx hb dw_631 (by decide) (fun _ => hnext _ _ _ _ hA hP hS) (fun z => absurd rfl z)
theorem lw_case_12 (X : gb_Lw p s m c g A cells slots b L xs) {i : Int32} {H : Heap} {locs : List Loc} {arr : Array Slot} {σ : gb_M} {A0 : gb_Ab} (hP : va_P (g.1, g.2.1) vwCl (gb_ws g σ) H) (hS : va_S A s.heap H locs) (hv : lv_has arr 8 (lw_l g b i)) (hAll : gb_All σ A0) (hks : ∀ k ∈ ([1, 2, 3] : List Int), vp_in (i + Int32.ofInt k) L)
    (hnext : ∀ (σ' : gb_M) (A' : gb_Ab) (H1 : Heap) (locs1 : List Loc), gb_All σ' A' → va_P (g.1, g.2.1) vwCl (gb_ws g σ') H1 → va_S A s.heap H1 locs1 → W p l e room_1 s m #[Value.ref b] below meth c H1 locs1 cells slots Q (F0 m 1331 arr [])) : W p l e room_1 s m #[Value.ref b] below meth c H locs cells slots Q (F0 m 636 arr []) := by
  have hx := X.1
  have hb := X.2.1
  refine lw_two (crk := 1) X hP hS hv hAll (ks := [1]) (n := 6) rfl (fun k hk => hks k (lw_in1 hk)) (th_days hAll.2.2.2 _) c_X9_days c_X10_days (gb_l5 lwd_98 lwd_99 lwd_100 lwd_3 lwd_101) (gb_l5 lwd_102 lwd_103 lwd_104 lwd_8 lwd_105) v_X9_days v_X10_days ⟨Nat.le_of_ble_eq_true rfl, Nat.le_of_ble_eq_true rfl⟩ ⟨Nat.le_of_ble_eq_true rfl, Nat.le_of_ble_eq_true rfl⟩ dw_636 ⟨dw_637, dw_638, dw_640, dw_641, dw_642, trivial⟩ dw_643 dw_646 ⟨dw_647, dw_648, dw_650, dw_651, dw_652, trivial⟩ dw_653 (Or.inl rfl) (fun v σ' A' H1 locs1 hk hA hP hS => ?_)
  obtain ⟨x, rfl⟩ := hk
  exact lv_icmp_eq (tgt := 1331) hx hb dw_656 (by decide) (fun _ => hnext _ _ _ _ hA hP hS) (fun z => absurd rfl z)
theorem lw_case_13 (X : gb_Lw p s m c g A cells slots b L xs) {i : Int32} {H : Heap} {locs : List Loc} {arr : Array Slot} {σ : gb_M} {A0 : gb_Ab} (hP : va_P (g.1, g.2.1) vwCl (gb_ws g σ) H) (hS : va_S A s.heap H locs) (hv : lv_has arr 8 (lw_l g b i)) (hAll : gb_All σ A0) (hks : ∀ k ∈ ([1, 2, 3] : List Int), vp_in (i + Int32.ofInt k) L)
    (hnext : ∀ (σ' : gb_M) (A' : gb_Ab) (H1 : Heap) (locs1 : List Loc), gb_All σ' A' → va_P (g.1, g.2.1) vwCl (gb_ws g σ') H1 → va_S A s.heap H1 locs1 → W p l e room_1 s m #[Value.ref b] below meth c H1 locs1 cells slots Q (F0 m 1331 arr [])) : W p l e room_1 s m #[Value.ref b] below meth c H locs cells slots Q (F0 m 661 arr []) := by
  have hx := X.1
  have hb := X.2.1
  refine lw_two (crk := 1) X hP hS hv hAll (ks := [1, 2]) (n := 12) rfl (fun k hk => hks k (lw_in2 hk)) (th_price hAll.2.2.2 _ _) c_X9_price c_X10_price (gb_l5 lwd_106 lwd_107 lwd_108 lwd_3 lwd_109) (gb_l5 lwd_110 lwd_111 lwd_112 lwd_8 lwd_113) v_X9_price v_X10_price ⟨Nat.le_of_ble_eq_true rfl, Nat.le_of_ble_eq_true rfl⟩ ⟨Nat.le_of_ble_eq_true rfl, Nat.le_of_ble_eq_true rfl⟩ dw_661 ⟨dw_662, dw_663, dw_665, dw_666, dw_667, ⟨dw_668, dw_669, dw_671, dw_672, dw_673, trivial⟩⟩ dw_674 dw_677 ⟨dw_678, dw_679, dw_681, dw_682, dw_683, ⟨dw_684, dw_685, dw_687, dw_688, dw_689, trivial⟩⟩ dw_690 (Or.inl rfl) (fun v σ' A' H1 locs1 hk hA hP hS => ?_)
  obtain ⟨x, rfl⟩ := hk
  exact lv_icmp_eq (tgt := 1331) hx hb dw_693 (by decide) (fun _ => hnext _ _ _ _ hA hP hS) (fun z => absurd rfl z)
theorem lw_case_14 (X : gb_Lw p s m c g A cells slots b L xs) {i : Int32} {H : Heap} {locs : List Loc} {arr : Array Slot} {σ : gb_M} {A0 : gb_Ab} (hP : va_P (g.1, g.2.1) vwCl (gb_ws g σ) H) (hS : va_S A s.heap H locs) (hv : lv_has arr 8 (lw_l g b i)) (hAll : gb_All σ A0) (hks : ∀ k ∈ ([1, 2, 3] : List Int), vp_in (i + Int32.ofInt k) L)
    (hnext : ∀ (σ' : gb_M) (A' : gb_Ab) (H1 : Heap) (locs1 : List Loc), gb_All σ' A' → va_P (g.1, g.2.1) vwCl (gb_ws g σ') H1 → va_S A s.heap H1 locs1 → W p l e room_1 s m #[Value.ref b] below meth c H1 locs1 cells slots Q (F0 m 1331 arr [])) : W p l e room_1 s m #[Value.ref b] below meth c H locs cells slots Q (F0 m 698 arr []) := by
  have hx := X.1
  have hb := X.2.1
  refine lw_two (crk := 1) X hP hS hv hAll (ks := []) (n := 0) rfl (fun k hk => hks k (lw_in0 hk)) (th_sells hAll.2.2.2) c_X9_sells c_X10_sells (gb_l5 lwd_114 lwd_115 lwd_116 lwd_3 lwd_117) (gb_l5 lwd_118 lwd_119 lwd_120 lwd_8 lwd_121) v_X9_sells v_X10_sells ⟨Nat.le_of_ble_eq_true rfl, Nat.le_of_ble_eq_true rfl⟩ ⟨Nat.le_of_ble_eq_true rfl, Nat.le_of_ble_eq_true rfl⟩ dw_698 trivial dw_699 dw_702 trivial dw_703 (Or.inl rfl) (fun v σ' A' H1 locs1 hk hA hP hS => ?_)
  obtain ⟨x, rfl⟩ := hk
  exact lv_icmp_eq (tgt := 1331) hx hb dw_706 (by decide) (fun _ => hnext _ _ _ _ hA hP hS) (fun z => absurd rfl z)
theorem lw_case_15 (X : gb_Lw p s m c g A cells slots b L xs) {i : Int32} {H : Heap} {locs : List Loc} {arr : Array Slot} {σ : gb_M} {A0 : gb_Ab} (hP : va_P (g.1, g.2.1) vwCl (gb_ws g σ) H) (hS : va_S A s.heap H locs) (hv : lv_has arr 8 (lw_l g b i)) (hAll : gb_All σ A0) (hks : ∀ k ∈ ([1, 2, 3] : List Int), vp_in (i + Int32.ofInt k) L)
    (hnext : ∀ (σ' : gb_M) (A' : gb_Ab) (H1 : Heap) (locs1 : List Loc), gb_All σ' A' → va_P (g.1, g.2.1) vwCl (gb_ws g σ') H1 → va_S A s.heap H1 locs1 → W p l e room_1 s m #[Value.ref b] below meth c H1 locs1 cells slots Q (F0 m 1331 arr [])) : W p l e room_1 s m #[Value.ref b] below meth c H locs cells slots Q (F0 m 711 arr []) := by
  have hx := X.1
  have hb := X.2.1
  refine lw_two (crk := 1) X hP hS hv hAll (ks := [1]) (n := 6) rfl (fun k hk => hks k (lw_in1 hk)) (th_value hAll.2.2.2 _) c_X9_value c_X10_value (gb_l5 lwd_122 lwd_123 lwd_124 lwd_3 lwd_125) (gb_l5 lwd_126 lwd_127 lwd_128 lwd_8 lwd_129) v_X9_value v_X10_value ⟨Nat.le_of_ble_eq_true rfl, Nat.le_of_ble_eq_true rfl⟩ ⟨Nat.le_of_ble_eq_true rfl, Nat.le_of_ble_eq_true rfl⟩ dw_711 ⟨dw_712, dw_713, dw_715, dw_716, dw_717, trivial⟩ dw_718 dw_721 ⟨dw_722, dw_723, dw_725, dw_726, dw_727, trivial⟩ dw_728 (Or.inl rfl) (fun v σ' A' H1 locs1 hk hA hP hS => ?_)
  obtain ⟨x, rfl⟩ := hk
  exact lv_icmp_eq (tgt := 1331) hx hb dw_731 (by decide) (fun _ => hnext _ _ _ _ hA hP hS) (fun z => absurd rfl z)
theorem lw_case_16 (X : gb_Lw p s m c g A cells slots b L xs) {i : Int32} {H : Heap} {locs : List Loc} {arr : Array Slot} {σ : gb_M} {A0 : gb_Ab} (hP : va_P (g.1, g.2.1) vwCl (gb_ws g σ) H) (hS : va_S A s.heap H locs) (hv : lv_has arr 8 (lw_l g b i)) (hAll : gb_All σ A0) (hks : ∀ k ∈ ([1, 2, 3] : List Int), vp_in (i + Int32.ofInt k) L)
    (hnext : ∀ (σ' : gb_M) (A' : gb_Ab) (H1 : Heap) (locs1 : List Loc), gb_All σ' A' → va_P (g.1, g.2.1) vwCl (gb_ws g σ') H1 → va_S A s.heap H1 locs1 → W p l e room_1 s m #[Value.ref b] below meth c H1 locs1 cells slots Q (F0 m 1331 arr [])) : W p l e room_1 s m #[Value.ref b] below meth c H locs cells slots Q (F0 m 736 arr []) := by
  have hx := X.1
  have hb := X.2.1
  refine lw_two (crk := 1) X hP hS hv hAll (ks := []) (n := 0) rfl (fun k hk => hks k (lw_in0 hk)) (th_all hAll.2.2.2) c_X9_all c_X10_all (gb_l5 lwd_130 lwd_131 lwd_132 lwd_3 lwd_133) (gb_l5 lwd_134 lwd_135 lwd_136 lwd_8 lwd_137) v_X9_all v_X10_all ⟨Nat.le_of_ble_eq_true rfl, Nat.le_of_ble_eq_true rfl⟩ ⟨Nat.le_of_ble_eq_true rfl, Nat.le_of_ble_eq_true rfl⟩ dw_736 trivial dw_737 dw_740 trivial dw_741 (Or.inl rfl) (fun v σ' A' H1 locs1 hk hA hP hS => ?_)
  obtain ⟨x, rfl⟩ := hk
  exact lv_icmp_eq (tgt := 1331) hx hb dw_744 (by decide) (fun _ => hnext _ _ _ _ hA hP hS) (fun z => absurd rfl z)
theorem lw_case_17 (X : gb_Lw p s m c g A cells slots b L xs) {i : Int32} {H : Heap} {locs : List Loc} {arr : Array Slot} {σ : gb_M} {A0 : gb_Ab} (hP : va_P (g.1, g.2.1) vwCl (gb_ws g σ) H) (hS : va_S A s.heap H locs) (hv : lv_has arr 8 (lw_l g b i)) (hAll : gb_All σ A0) (hks : ∀ k ∈ ([1, 2, 3] : List Int), vp_in (i + Int32.ofInt k) L)
    (hnext : ∀ (σ' : gb_M) (A' : gb_Ab) (H1 : Heap) (locs1 : List Loc), gb_All σ' A' → va_P (g.1, g.2.1) vwCl (gb_ws g σ') H1 → va_S A s.heap H1 locs1 → W p l e room_1 s m #[Value.ref b] below meth c H1 locs1 cells slots Q (F0 m 1331 arr [])) : W p l e room_1 s m #[Value.ref b] below meth c H locs cells slots Q (F0 m 749 arr []) := by
  have hx := X.1
  have hb := X.2.1
  refine lw_two (crk := 1) X hP hS hv hAll (ks := [1]) (n := 6) rfl (fun k hk => hks k (lw_in1 hk)) (th_mixed hAll.2.2.2 _) c_X9_mixed c_X10_mixed (gb_l5 lwd_138 lwd_139 lwd_140 lwd_3 lwd_141) (gb_l5 lwd_142 lwd_143 lwd_144 lwd_8 lwd_145) v_X9_mixed v_X10_mixed ⟨Nat.le_of_ble_eq_true rfl, Nat.le_of_ble_eq_true rfl⟩ ⟨Nat.le_of_ble_eq_true rfl, Nat.le_of_ble_eq_true rfl⟩ dw_749 ⟨dw_750, dw_751, dw_753, dw_754, dw_755, trivial⟩ dw_756 dw_759 ⟨dw_760, dw_761, dw_763, dw_764, dw_765, trivial⟩ dw_766 (Or.inl rfl) (fun v σ' A' H1 locs1 hk hA hP hS => ?_)
  obtain ⟨x, rfl⟩ := hk
  exact lv_icmp_eq (tgt := 1331) hx hb dw_769 (by decide) (fun _ => hnext _ _ _ _ hA hP hS) (fun z => absurd rfl z)
theorem lw_case_18 (X : gb_Lw p s m c g A cells slots b L xs) {i : Int32} {H : Heap} {locs : List Loc} {arr : Array Slot} {σ : gb_M} {A0 : gb_Ab} (hP : va_P (g.1, g.2.1) vwCl (gb_ws g σ) H) (hS : va_S A s.heap H locs) (hv : lv_has arr 8 (lw_l g b i)) (hAll : gb_All σ A0) (hks : ∀ k ∈ ([1, 2, 3] : List Int), vp_in (i + Int32.ofInt k) L)
    (hnext : ∀ (σ' : gb_M) (A' : gb_Ab) (H1 : Heap) (locs1 : List Loc), gb_All σ' A' → va_P (g.1, g.2.1) vwCl (gb_ws g σ') H1 → va_S A s.heap H1 locs1 → W p l e room_1 s m #[Value.ref b] below meth c H1 locs1 cells slots Q (F0 m 1331 arr [])) : W p l e room_1 s m #[Value.ref b] below meth c H locs cells slots Q (F0 m 774 arr []) := by
  have hx := X.1
  have hb := X.2.1
  refine lw_two (crk := 1) X hP hS hv hAll (ks := [1, 2, 3]) (n := 18) rfl (fun k hk => hks k (lw_in3 hk)) (th_would hAll.2.2.2 _ _ _) c_X9_would c_X10_would (gb_l5 lwd_146 lwd_147 lwd_148 lwd_3 lwd_149) (gb_l5 lwd_150 lwd_151 lwd_152 lwd_8 lwd_153) v_X9_would v_X10_would ⟨Nat.le_of_ble_eq_true rfl, Nat.le_of_ble_eq_true rfl⟩ ⟨Nat.le_of_ble_eq_true rfl, Nat.le_of_ble_eq_true rfl⟩ dw_774 ⟨dw_775, dw_776, dw_778, dw_779, dw_780, ⟨dw_781, dw_782, dw_784, dw_785, dw_786, ⟨dw_787, dw_788, dw_790, dw_791, dw_792, trivial⟩⟩⟩ dw_793 dw_796 ⟨dw_797, dw_798, dw_800, dw_801, dw_802, ⟨dw_803, dw_804, dw_806, dw_807, dw_808, ⟨dw_809, dw_810, dw_812, dw_813, dw_814, trivial⟩⟩⟩ dw_815 (Or.inl rfl) (fun v σ' A' H1 locs1 hk hA hP hS => ?_)
  obtain ⟨x, rfl⟩ := hk
  exact lv_icmp_eq (tgt := 1331) hx hb dw_818 (by decide) (fun _ => hnext _ _ _ _ hA hP hS) (fun z => absurd rfl z)
theorem lw_case_19 (X : gb_Lw p s m c g A cells slots b L xs) {i : Int32} {H : Heap} {locs : List Loc} {arr : Array Slot} {σ : gb_M} {A0 : gb_Ab} (hP : va_P (g.1, g.2.1) vwCl (gb_ws g σ) H) (hS : va_S A s.heap H locs) (hv : lv_has arr 8 (lw_l g b i)) (hAll : gb_All σ A0) (hks : ∀ k ∈ ([1, 2, 3] : List Int), vp_in (i + Int32.ofInt k) L)
    (hnext : ∀ (σ' : gb_M) (A' : gb_Ab) (H1 : Heap) (locs1 : List Loc), gb_All σ' A' → va_P (g.1, g.2.1) vwCl (gb_ws g σ') H1 → va_S A s.heap H1 locs1 → W p l e room_1 s m #[Value.ref b] below meth c H1 locs1 cells slots Q (F0 m 1331 arr [])) : W p l e room_1 s m #[Value.ref b] below meth c H locs cells slots Q (F0 m 823 arr []) := by
  have hx := X.1
  have hb := X.2.1
  refine lw_two (crk := 1) X hP hS hv hAll (ks := []) (n := 0) rfl (fun k hk => hks k (lw_in0 hk)) (th_worst hAll.2.2.2) c_X9_worst c_X10_worst (gb_l5 lwd_154 lwd_155 lwd_156 lwd_3 lwd_157) (gb_l5 lwd_158 lwd_159 lwd_160 lwd_8 lwd_161) v_X9_worst v_X10_worst ⟨Nat.le_of_ble_eq_true rfl, Nat.le_of_ble_eq_true rfl⟩ ⟨Nat.le_of_ble_eq_true rfl, Nat.le_of_ble_eq_true rfl⟩ dw_823 trivial dw_824 dw_827 trivial dw_828 (Or.inl rfl) (fun v σ' A' H1 locs1 hk hA hP hS => ?_)
  obtain ⟨x, rfl⟩ := hk
  exact lv_icmp_eq (tgt := 1331) hx hb dw_831 (by decide) (fun _ => hnext _ _ _ _ hA hP hS) (fun z => absurd rfl z)
theorem lw_case_20 (X : gb_Lw p s m c g A cells slots b L xs) {i : Int32} {H : Heap} {locs : List Loc} {arr : Array Slot} {σ : gb_M} {A0 : gb_Ab} (hP : va_P (g.1, g.2.1) vwCl (gb_ws g σ) H) (hS : va_S A s.heap H locs) (hv : lv_has arr 8 (lw_l g b i)) (hAll : gb_All σ A0) (hks : ∀ k ∈ ([1, 2, 3] : List Int), vp_in (i + Int32.ofInt k) L)
    (hnext : ∀ (σ' : gb_M) (A' : gb_Ab) (H1 : Heap) (locs1 : List Loc), gb_All σ' A' → va_P (g.1, g.2.1) vwCl (gb_ws g σ') H1 → va_S A s.heap H1 locs1 → W p l e room_1 s m #[Value.ref b] below meth c H1 locs1 cells slots Q (F0 m 1331 arr [])) : W p l e room_1 s m #[Value.ref b] below meth c H locs cells slots Q (F0 m 836 arr []) := by
  have hx := X.1
  have hb := X.2.1
  refine lw_two (crk := 1) X hP hS hv hAll (ks := []) (n := 0) rfl (fun k hk => hks k (lw_in0 hk)) (th_dear hAll.2.2.2) c_X9_dear c_X10_dear (gb_l5 lwd_162 lwd_163 lwd_164 lwd_3 lwd_165) (gb_l5 lwd_166 lwd_167 lwd_168 lwd_8 lwd_169) v_X9_dear v_X10_dear ⟨Nat.le_of_ble_eq_true rfl, Nat.le_of_ble_eq_true rfl⟩ ⟨Nat.le_of_ble_eq_true rfl, Nat.le_of_ble_eq_true rfl⟩ dw_836 trivial dw_837 dw_840 trivial dw_841 (Or.inl rfl) (fun v σ' A' H1 locs1 hk hA hP hS => ?_)
  obtain ⟨x, rfl⟩ := hk
  exact lv_icmp_eq (tgt := 1331) hx hb dw_844 (by decide) (fun _ => hnext _ _ _ _ hA hP hS) (fun z => absurd rfl z)
theorem lw_case_21 (X : gb_Lw p s m c g A cells slots b L xs) {i : Int32} {H : Heap} {locs : List Loc} {arr : Array Slot} {σ : gb_M} {A0 : gb_Ab} (hP : va_P (g.1, g.2.1) vwCl (gb_ws g σ) H) (hS : va_S A s.heap H locs) (hv : lv_has arr 8 (lw_l g b i)) (hAll : gb_All σ A0) (hks : ∀ k ∈ ([1, 2, 3] : List Int), vp_in (i + Int32.ofInt k) L)
    (hnext : ∀ (σ' : gb_M) (A' : gb_Ab) (H1 : Heap) (locs1 : List Loc), gb_All σ' A' → va_P (g.1, g.2.1) vwCl (gb_ws g σ') H1 → va_S A s.heap H1 locs1 → W p l e room_1 s m #[Value.ref b] below meth c H1 locs1 cells slots Q (F0 m 1331 arr [])) : W p l e room_1 s m #[Value.ref b] below meth c H locs cells slots Q (F0 m 849 arr []) := by
  have hx := X.1
  have hb := X.2.1
  refine lw_two (crk := 1) X hP hS hv hAll (ks := [1, 2]) (n := 12) rfl (fun k hk => hks k (lw_in2 hk)) (th_best hAll.2.2.2 _ _) c_X9_best c_X10_best (gb_l5 lwd_170 lwd_171 lwd_172 lwd_3 lwd_173) (gb_l5 lwd_174 lwd_175 lwd_176 lwd_8 lwd_177) v_X9_best v_X10_best ⟨Nat.le_of_ble_eq_true rfl, Nat.le_of_ble_eq_true rfl⟩ ⟨Nat.le_of_ble_eq_true rfl, Nat.le_of_ble_eq_true rfl⟩ dw_849 ⟨dw_850, dw_851, dw_853, dw_854, dw_855, ⟨dw_856, dw_857, dw_859, dw_860, dw_861, trivial⟩⟩ dw_862 dw_865 ⟨dw_866, dw_867, dw_869, dw_870, dw_871, ⟨dw_872, dw_873, dw_875, dw_876, dw_877, trivial⟩⟩ dw_878 (Or.inl rfl) (fun v σ' A' H1 locs1 hk hA hP hS => ?_)
  obtain ⟨x, rfl⟩ := hk
  exact lv_icmp_eq (tgt := 1331) hx hb dw_881 (by decide) (fun _ => hnext _ _ _ _ hA hP hS) (fun z => absurd rfl z)
theorem lw_case_22 (X : gb_Lw p s m c g A cells slots b L xs) {i : Int32} {H : Heap} {locs : List Loc} {arr : Array Slot} {σ : gb_M} {A0 : gb_Ab} (hP : va_P (g.1, g.2.1) vwCl (gb_ws g σ) H) (hS : va_S A s.heap H locs) (hv : lv_has arr 8 (lw_l g b i)) (hAll : gb_All σ A0) (hks : ∀ k ∈ ([1, 2, 3] : List Int), vp_in (i + Int32.ofInt k) L)
    (hnext : ∀ (σ' : gb_M) (A' : gb_Ab) (H1 : Heap) (locs1 : List Loc), gb_All σ' A' → va_P (g.1, g.2.1) vwCl (gb_ws g σ') H1 → va_S A s.heap H1 locs1 → W p l e room_1 s m #[Value.ref b] below meth c H1 locs1 cells slots Q (F0 m 1331 arr [])) : W p l e room_1 s m #[Value.ref b] below meth c H locs cells slots Q (F0 m 886 arr []) := by
  have hx := X.1
  have hb := X.2.1
  refine lw_two (crk := 1) X hP hS hv hAll (ks := []) (n := 0) rfl (fun k hk => hks k (lw_in0 hk)) (th_lays hAll.2.2.2) c_X9_lays c_X10_lays (gb_l5 lwd_178 lwd_179 lwd_180 lwd_3 lwd_181) (gb_l5 lwd_182 lwd_183 lwd_184 lwd_8 lwd_185) v_X9_lays v_X10_lays ⟨Nat.le_of_ble_eq_true rfl, Nat.le_of_ble_eq_true rfl⟩ ⟨Nat.le_of_ble_eq_true rfl, Nat.le_of_ble_eq_true rfl⟩ dw_886 trivial dw_887 dw_890 trivial dw_891 (Or.inl rfl) (fun v σ' A' H1 locs1 hk hA hP hS => ?_)
  obtain ⟨x, rfl⟩ := hk
  exact lv_icmp_eq (tgt := 1331) hx hb dw_894 (by decide) (fun _ => hnext _ _ _ _ hA hP hS) (fun z => absurd rfl z)
theorem lw_case_23 (X : gb_Lw p s m c g A cells slots b L xs) {i : Int32} {H : Heap} {locs : List Loc} {arr : Array Slot} {σ : gb_M} {A0 : gb_Ab} (hP : va_P (g.1, g.2.1) vwCl (gb_ws g σ) H) (hS : va_S A s.heap H locs) (hv : lv_has arr 8 (lw_l g b i)) (hAll : gb_All σ A0) (hks : ∀ k ∈ ([1, 2, 3] : List Int), vp_in (i + Int32.ofInt k) L)
    (hnext : ∀ (σ' : gb_M) (A' : gb_Ab) (H1 : Heap) (locs1 : List Loc), gb_All σ' A' → va_P (g.1, g.2.1) vwCl (gb_ws g σ') H1 → va_S A s.heap H1 locs1 → W p l e room_1 s m #[Value.ref b] below meth c H1 locs1 cells slots Q (F0 m 1331 arr [])) : W p l e room_1 s m #[Value.ref b] below meth c H locs cells slots Q (F0 m 899 arr []) := by
  have hx := X.1
  have hb := X.2.1
  refine lw_two (crk := 1) X hP hS hv hAll (ks := []) (n := 0) rfl (fun k hk => hks k (lw_in0 hk)) (th_few hAll.2.2.2) c_X9_few c_X10_few (gb_l5 lwd_186 lwd_187 lwd_188 lwd_3 lwd_189) (gb_l5 lwd_190 lwd_191 lwd_192 lwd_8 lwd_193) v_X9_few v_X10_few ⟨Nat.le_of_ble_eq_true rfl, Nat.le_of_ble_eq_true rfl⟩ ⟨Nat.le_of_ble_eq_true rfl, Nat.le_of_ble_eq_true rfl⟩ dw_899 trivial dw_900 dw_903 trivial dw_904 (Or.inl rfl) (fun v σ' A' H1 locs1 hk hA hP hS => ?_)
  obtain ⟨x, rfl⟩ := hk
  exact lv_icmp_eq (tgt := 1331) hx hb dw_907 (by decide) (fun _ => hnext _ _ _ _ hA hP hS) (fun z => absurd rfl z)
theorem lw_case_24 (X : gb_Lw p s m c g A cells slots b L xs) {i : Int32} {H : Heap} {locs : List Loc} {arr : Array Slot} {σ : gb_M} {A0 : gb_Ab} (hP : va_P (g.1, g.2.1) vwCl (gb_ws g σ) H) (hS : va_S A s.heap H locs) (hv : lv_has arr 8 (lw_l g b i)) (hAll : gb_All σ A0) (hks : ∀ k ∈ ([1, 2, 3] : List Int), vp_in (i + Int32.ofInt k) L)
    (hnext : ∀ (σ' : gb_M) (A' : gb_Ab) (H1 : Heap) (locs1 : List Loc), gb_All σ' A' → va_P (g.1, g.2.1) vwCl (gb_ws g σ') H1 → va_S A s.heap H1 locs1 → W p l e room_1 s m #[Value.ref b] below meth c H1 locs1 cells slots Q (F0 m 1331 arr [])) : W p l e room_1 s m #[Value.ref b] below meth c H locs cells slots Q (F0 m 912 arr []) := by
  have hx := X.1
  have hb := X.2.1
  refine lw_two (crk := 1) X hP hS hv hAll (ks := [1]) (n := 6) rfl (fun k hk => hks k (lw_in1 hk)) (th_room hAll.2.2.2 _) c_X9_room c_X10_room (gb_l5 lwd_194 lwd_195 lwd_196 lwd_3 lwd_197) (gb_l5 lwd_198 lwd_199 lwd_200 lwd_8 lwd_201) v_X9_room v_X10_room ⟨Nat.le_of_ble_eq_true rfl, Nat.le_of_ble_eq_true rfl⟩ ⟨Nat.le_of_ble_eq_true rfl, Nat.le_of_ble_eq_true rfl⟩ dw_912 ⟨dw_913, dw_914, dw_916, dw_917, dw_918, trivial⟩ dw_919 dw_922 ⟨dw_923, dw_924, dw_926, dw_927, dw_928, trivial⟩ dw_929 (Or.inl rfl) (fun v σ' A' H1 locs1 hk hA hP hS => ?_)
  obtain ⟨x, rfl⟩ := hk
  exact lv_icmp_eq (tgt := 1331) hx hb dw_932 (by decide) (fun _ => hnext _ _ _ _ hA hP hS) (fun z => absurd rfl z)
theorem lw_case_25 (X : gb_Lw p s m c g A cells slots b L xs) {i : Int32} {H : Heap} {locs : List Loc} {arr : Array Slot} {σ : gb_M} {A0 : gb_Ab} (hP : va_P (g.1, g.2.1) vwCl (gb_ws g σ) H) (hS : va_S A s.heap H locs) (hv : lv_has arr 8 (lw_l g b i)) (hAll : gb_All σ A0) (hks : ∀ k ∈ ([1, 2, 3] : List Int), vp_in (i + Int32.ofInt k) L)
    (hnext : ∀ (σ' : gb_M) (A' : gb_Ab) (H1 : Heap) (locs1 : List Loc), gb_All σ' A' → va_P (g.1, g.2.1) vwCl (gb_ws g σ') H1 → va_S A s.heap H1 locs1 → W p l e room_1 s m #[Value.ref b] below meth c H1 locs1 cells slots Q (F0 m 1331 arr [])) : W p l e room_1 s m #[Value.ref b] below meth c H locs cells slots Q (F0 m 937 arr []) := by
  have hx := X.1
  have hb := X.2.1
  refine lw_two (crk := 1) X hP hS hv hAll (ks := [1]) (n := 6) rfl (fun k hk => hks k (lw_in1 hk)) (th_takers hAll.2.2.2 _) c_X9_takers c_X10_takers (gb_l5 lwd_202 lwd_203 lwd_204 lwd_3 lwd_205) (gb_l5 lwd_206 lwd_207 lwd_208 lwd_8 lwd_209) v_X9_takers v_X10_takers ⟨Nat.le_of_ble_eq_true rfl, Nat.le_of_ble_eq_true rfl⟩ ⟨Nat.le_of_ble_eq_true rfl, Nat.le_of_ble_eq_true rfl⟩ dw_937 ⟨dw_938, dw_939, dw_941, dw_942, dw_943, trivial⟩ dw_944 dw_947 ⟨dw_948, dw_949, dw_951, dw_952, dw_953, trivial⟩ dw_954 (Or.inl rfl) (fun v σ' A' H1 locs1 hk hA hP hS => ?_)
  obtain ⟨x, rfl⟩ := hk
  exact lv_icmp_eq (tgt := 1331) hx hb dw_957 (by decide) (fun _ => hnext _ _ _ _ hA hP hS) (fun z => absurd rfl z)
theorem lw_case_26 (X : gb_Lw p s m c g A cells slots b L xs) {i : Int32} {H : Heap} {locs : List Loc} {arr : Array Slot} {σ : gb_M} {A0 : gb_Ab} (hP : va_P (g.1, g.2.1) vwCl (gb_ws g σ) H) (hS : va_S A s.heap H locs) (hv : lv_has arr 8 (lw_l g b i)) (hAll : gb_All σ A0) (hks : ∀ k ∈ ([1, 2, 3] : List Int), vp_in (i + Int32.ofInt k) L)
    (hnext : ∀ (σ' : gb_M) (A' : gb_Ab) (H1 : Heap) (locs1 : List Loc), gb_All σ' A' → va_P (g.1, g.2.1) vwCl (gb_ws g σ') H1 → va_S A s.heap H1 locs1 → W p l e room_1 s m #[Value.ref b] below meth c H1 locs1 cells slots Q (F0 m 1331 arr [])) : W p l e room_1 s m #[Value.ref b] below meth c H locs cells slots Q (F0 m 962 arr []) := by
  have hx := X.1
  have hb := X.2.1
  refine lw_two (crk := 1) X hP hS hv hAll (ks := [1]) (n := 6) rfl (fun k hk => hks k (lw_in1 hk)) (th_bottom hAll.2.2.2 _) c_X9_bottom c_X10_bottom (gb_l5 lwd_210 lwd_211 lwd_212 lwd_3 lwd_213) (gb_l5 lwd_214 lwd_215 lwd_216 lwd_8 lwd_217) v_X9_bottom v_X10_bottom ⟨Nat.le_of_ble_eq_true rfl, Nat.le_of_ble_eq_true rfl⟩ ⟨Nat.le_of_ble_eq_true rfl, Nat.le_of_ble_eq_true rfl⟩ dw_962 ⟨dw_963, dw_964, dw_966, dw_967, dw_968, trivial⟩ dw_969 dw_972 ⟨dw_973, dw_974, dw_976, dw_977, dw_978, trivial⟩ dw_979 (Or.inl rfl) (fun v σ' A' H1 locs1 hk hA hP hS => ?_)
  obtain ⟨x, rfl⟩ := hk
  exact lv_icmp_eq (tgt := 1331) hx hb dw_982 (by decide) (fun _ => hnext _ _ _ _ hA hP hS) (fun z => absurd rfl z)
theorem lw_case_27 (X : gb_Lw p s m c g A cells slots b L xs) {i : Int32} {H : Heap} {locs : List Loc} {arr : Array Slot} {σ : gb_M} {A0 : gb_Ab} (hP : va_P (g.1, g.2.1) vwCl (gb_ws g σ) H) (hS : va_S A s.heap H locs) (hv : lv_has arr 8 (lw_l g b i)) (hAll : gb_All σ A0) (hks : ∀ k ∈ ([1, 2, 3] : List Int), vp_in (i + Int32.ofInt k) L)
    (hnext : ∀ (σ' : gb_M) (A' : gb_Ab) (H1 : Heap) (locs1 : List Loc), gb_All σ' A' → va_P (g.1, g.2.1) vwCl (gb_ws g σ') H1 → va_S A s.heap H1 locs1 → W p l e room_1 s m #[Value.ref b] below meth c H1 locs1 cells slots Q (F0 m 1331 arr [])) : W p l e room_1 s m #[Value.ref b] below meth c H locs cells slots Q (F0 m 987 arr []) := by
  have hx := X.1
  have hb := X.2.1
  refine lw_two (crk := 1) X hP hS hv hAll (ks := [1, 2]) (n := 12) rfl (fun k hk => hks k (lw_in2 hk)) (th_reaches hAll.2.2.2 _ _) c_X9_reaches c_X10_reaches (gb_l5 lwd_218 lwd_219 lwd_220 lwd_3 lwd_221) (gb_l5 lwd_222 lwd_223 lwd_224 lwd_8 lwd_225) v_X9_reaches v_X10_reaches ⟨Nat.le_of_ble_eq_true rfl, Nat.le_of_ble_eq_true rfl⟩ ⟨Nat.le_of_ble_eq_true rfl, Nat.le_of_ble_eq_true rfl⟩ dw_987 ⟨dw_988, dw_989, dw_991, dw_992, dw_993, ⟨dw_994, dw_995, dw_997, dw_998, dw_999, trivial⟩⟩ dw_1000 dw_1003 ⟨dw_1004, dw_1005, dw_1007, dw_1008, dw_1009, ⟨dw_1010, dw_1011, dw_1013, dw_1014, dw_1015, trivial⟩⟩ dw_1016 (Or.inl rfl) (fun v σ' A' H1 locs1 hk hA hP hS => ?_)
  obtain ⟨x, rfl⟩ := hk
  exact lv_icmp_eq (tgt := 1331) hx hb dw_1019 (by decide) (fun _ => hnext _ _ _ _ hA hP hS) (fun z => absurd rfl z)
theorem lw_case_28 (X : gb_Lw p s m c g A cells slots b L xs) {i : Int32} {H : Heap} {locs : List Loc} {arr : Array Slot} {σ : gb_M} {A0 : gb_Ab} (hP : va_P (g.1, g.2.1) vwCl (gb_ws g σ) H) (hS : va_S A s.heap H locs) (hv : lv_has arr 8 (lw_l g b i)) (hAll : gb_All σ A0) (hks : ∀ k ∈ ([1, 2, 3] : List Int), vp_in (i + Int32.ofInt k) L)
    (hnext : ∀ (σ' : gb_M) (A' : gb_Ab) (H1 : Heap) (locs1 : List Loc), gb_All σ' A' → va_P (g.1, g.2.1) vwCl (gb_ws g σ') H1 → va_S A s.heap H1 locs1 → W p l e room_1 s m #[Value.ref b] below meth c H1 locs1 cells slots Q (F0 m 1331 arr [])) : W p l e room_1 s m #[Value.ref b] below meth c H locs cells slots Q (F0 m 1024 arr []) := by
  have hx := X.1
  have hb := X.2.1
  refine lw_two (crk := 1) X hP hS hv hAll (ks := []) (n := 0) rfl (fun k hk => hks k (lw_in0 hk)) (th_serves hAll.2.2.2) c_X9_serves c_X10_serves (gb_l5 lwd_226 lwd_227 lwd_228 lwd_3 lwd_229) (gb_l5 lwd_230 lwd_231 lwd_232 lwd_8 lwd_233) v_X9_serves v_X10_serves ⟨Nat.le_of_ble_eq_true rfl, Nat.le_of_ble_eq_true rfl⟩ ⟨Nat.le_of_ble_eq_true rfl, Nat.le_of_ble_eq_true rfl⟩ dw_1024 trivial dw_1025 dw_1028 trivial dw_1029 (Or.inl rfl) (fun v σ' A' H1 locs1 hk hA hP hS => ?_)
  obtain ⟨x, rfl⟩ := hk
  exact lv_icmp_eq (tgt := 1331) hx hb dw_1032 (by decide) (fun _ => hnext _ _ _ _ hA hP hS) (fun z => absurd rfl z)
theorem lw_case_29 (X : gb_Lw p s m c g A cells slots b L xs) {i : Int32} {H : Heap} {locs : List Loc} {arr : Array Slot} {σ : gb_M} {A0 : gb_Ab} (hP : va_P (g.1, g.2.1) vwCl (gb_ws g σ) H) (hS : va_S A s.heap H locs) (hv : lv_has arr 8 (lw_l g b i)) (hAll : gb_All σ A0) (hks : ∀ k ∈ ([1, 2, 3] : List Int), vp_in (i + Int32.ofInt k) L)
    (hnext : ∀ (σ' : gb_M) (A' : gb_Ab) (H1 : Heap) (locs1 : List Loc), gb_All σ' A' → va_P (g.1, g.2.1) vwCl (gb_ws g σ') H1 → va_S A s.heap H1 locs1 → W p l e room_1 s m #[Value.ref b] below meth c H1 locs1 cells slots Q (F0 m 1331 arr [])) : W p l e room_1 s m #[Value.ref b] below meth c H locs cells slots Q (F0 m 1037 arr []) := by
  have hx := X.1
  have hb := X.2.1
  refine lw_two (crk := 1) X hP hS hv hAll (ks := []) (n := 0) rfl (fun k hk => hks k (lw_in0 hk)) (th_picks hAll.2.2.2) c_X9_picks c_X10_picks (gb_l5 lwd_234 lwd_235 lwd_236 lwd_3 lwd_237) (gb_l5 lwd_238 lwd_239 lwd_240 lwd_8 lwd_241) v_X9_picks v_X10_picks ⟨Nat.le_of_ble_eq_true rfl, Nat.le_of_ble_eq_true rfl⟩ ⟨Nat.le_of_ble_eq_true rfl, Nat.le_of_ble_eq_true rfl⟩ dw_1037 trivial dw_1038 dw_1041 trivial dw_1042 (Or.inl rfl) (fun v σ' A' H1 locs1 hk hA hP hS => ?_)
  obtain ⟨x, rfl⟩ := hk
  exact lv_icmp_eq (tgt := 1331) hx hb dw_1045 (by decide) (fun _ => hnext _ _ _ _ hA hP hS) (fun z => absurd rfl z)
theorem lw_case_30 (X : gb_Lw p s m c g A cells slots b L xs) {i : Int32} {H : Heap} {locs : List Loc} {arr : Array Slot} {σ : gb_M} {A0 : gb_Ab} (hP : va_P (g.1, g.2.1) vwCl (gb_ws g σ) H) (hS : va_S A s.heap H locs) (hv : lv_has arr 8 (lw_l g b i)) (hAll : gb_All σ A0) (hks : ∀ k ∈ ([1, 2, 3] : List Int), vp_in (i + Int32.ofInt k) L)
    (hnext : ∀ (σ' : gb_M) (A' : gb_Ab) (H1 : Heap) (locs1 : List Loc), gb_All σ' A' → va_P (g.1, g.2.1) vwCl (gb_ws g σ') H1 → va_S A s.heap H1 locs1 → W p l e room_1 s m #[Value.ref b] below meth c H1 locs1 cells slots Q (F0 m 1331 arr [])) : W p l e room_1 s m #[Value.ref b] below meth c H locs cells slots Q (F0 m 1050 arr []) := by
  have hx := X.1
  have hb := X.2.1
  refine lw_two (crk := 1) X hP hS hv hAll (ks := [1]) (n := 6) rfl (fun k hk => hks k (lw_in1 hk)) (th_empties hAll.2.2.2 _) c_X9_empties c_X10_empties (gb_l5 lwd_242 lwd_243 lwd_244 lwd_3 lwd_245) (gb_l5 lwd_246 lwd_247 lwd_248 lwd_8 lwd_249) v_X9_empties v_X10_empties ⟨Nat.le_of_ble_eq_true rfl, Nat.le_of_ble_eq_true rfl⟩ ⟨Nat.le_of_ble_eq_true rfl, Nat.le_of_ble_eq_true rfl⟩ dw_1050 ⟨dw_1051, dw_1052, dw_1054, dw_1055, dw_1056, trivial⟩ dw_1057 dw_1060 ⟨dw_1061, dw_1062, dw_1064, dw_1065, dw_1066, trivial⟩ dw_1067 (Or.inl rfl) (fun v σ' A' H1 locs1 hk hA hP hS => ?_)
  obtain ⟨x, rfl⟩ := hk
  exact lv_icmp_eq (tgt := 1331) hx hb dw_1070 (by decide) (fun _ => hnext _ _ _ _ hA hP hS) (fun z => absurd rfl z)
theorem lw_case_31 (X : gb_Lw p s m c g A cells slots b L xs) {i : Int32} {H : Heap} {locs : List Loc} {arr : Array Slot} {σ : gb_M} {A0 : gb_Ab} (hP : va_P (g.1, g.2.1) vwCl (gb_ws g σ) H) (hS : va_S A s.heap H locs) (hv : lv_has arr 8 (lw_l g b i)) (hAll : gb_All σ A0) (hks : ∀ k ∈ ([1, 2, 3] : List Int), vp_in (i + Int32.ofInt k) L)
    (hnext : ∀ (σ' : gb_M) (A' : gb_Ab) (H1 : Heap) (locs1 : List Loc), gb_All σ' A' → va_P (g.1, g.2.1) vwCl (gb_ws g σ') H1 → va_S A s.heap H1 locs1 → W p l e room_1 s m #[Value.ref b] below meth c H1 locs1 cells slots Q (F0 m 1331 arr [])) : W p l e room_1 s m #[Value.ref b] below meth c H locs cells slots Q (F0 m 1075 arr []) := by
  have hx := X.1
  have hb := X.2.1
  refine lw_two (crk := 1) X hP hS hv hAll (ks := [1]) (n := 6) rfl (fun k hk => hks k (lw_in1 hk)) (th_then hAll.2.2.2 _) c_X9_then c_X10_then (gb_l5 lwd_250 lwd_251 lwd_252 lwd_3 lwd_253) (gb_l5 lwd_254 lwd_255 lwd_256 lwd_8 lwd_257) v_X9_then v_X10_then ⟨Nat.le_of_ble_eq_true rfl, Nat.le_of_ble_eq_true rfl⟩ ⟨Nat.le_of_ble_eq_true rfl, Nat.le_of_ble_eq_true rfl⟩ dw_1075 ⟨dw_1076, dw_1077, dw_1079, dw_1080, dw_1081, trivial⟩ dw_1082 dw_1085 ⟨dw_1086, dw_1087, dw_1089, dw_1090, dw_1091, trivial⟩ dw_1092 (Or.inl rfl) (fun v σ' A' H1 locs1 hk hA hP hS => ?_)
  obtain ⟨x, rfl⟩ := hk
  exact lv_icmp_eq (tgt := 1331) hx hb dw_1095 (by decide) (fun _ => hnext _ _ _ _ hA hP hS) (fun z => absurd rfl z)
theorem lw_case_32 (X : gb_Lw p s m c g A cells slots b L xs) {i : Int32} {H : Heap} {locs : List Loc} {arr : Array Slot} {σ : gb_M} {A0 : gb_Ab} (hP : va_P (g.1, g.2.1) vwCl (gb_ws g σ) H) (hS : va_S A s.heap H locs) (hv : lv_has arr 8 (lw_l g b i)) (hAll : gb_All σ A0) (hks : ∀ k ∈ ([1, 2, 3] : List Int), vp_in (i + Int32.ofInt k) L)
    (hnext : ∀ (σ' : gb_M) (A' : gb_Ab) (H1 : Heap) (locs1 : List Loc), gb_All σ' A' → va_P (g.1, g.2.1) vwCl (gb_ws g σ') H1 → va_S A s.heap H1 locs1 → W p l e room_1 s m #[Value.ref b] below meth c H1 locs1 cells slots Q (F0 m 1331 arr [])) : W p l e room_1 s m #[Value.ref b] below meth c H locs cells slots Q (F0 m 1100 arr []) := by
  have hx := X.1
  have hb := X.2.1
  refine lw_two (crk := 1) X hP hS hv hAll (ks := [1, 2]) (n := 12) rfl (fun k hk => hks k (lw_in2 hk)) (th_falls hAll.2.2.2 _ _) c_X9_falls c_X10_falls (gb_l5 lwd_258 lwd_259 lwd_260 lwd_3 lwd_261) (gb_l5 lwd_262 lwd_263 lwd_264 lwd_8 lwd_265) v_X9_falls v_X10_falls ⟨Nat.le_of_ble_eq_true rfl, Nat.le_of_ble_eq_true rfl⟩ ⟨Nat.le_of_ble_eq_true rfl, Nat.le_of_ble_eq_true rfl⟩ dw_1100 ⟨dw_1101, dw_1102, dw_1104, dw_1105, dw_1106, ⟨dw_1107, dw_1108, dw_1110, dw_1111, dw_1112, trivial⟩⟩ dw_1113 dw_1116 ⟨dw_1117, dw_1118, dw_1120, dw_1121, dw_1122, ⟨dw_1123, dw_1124, dw_1126, dw_1127, dw_1128, trivial⟩⟩ dw_1129 (Or.inl rfl) (fun v σ' A' H1 locs1 hk hA hP hS => ?_)
  obtain ⟨x, rfl⟩ := hk
  exact lv_icmp_eq (tgt := 1331) hx hb dw_1132 (by decide) (fun _ => hnext _ _ _ _ hA hP hS) (fun z => absurd rfl z)
theorem lw_case_33 (X : gb_Lw p s m c g A cells slots b L xs) {i : Int32} {H : Heap} {locs : List Loc} {arr : Array Slot} {σ : gb_M} {A0 : gb_Ab} (hP : va_P (g.1, g.2.1) vwCl (gb_ws g σ) H) (hS : va_S A s.heap H locs) (hv : lv_has arr 8 (lw_l g b i)) (hAll : gb_All σ A0) (hks : ∀ k ∈ ([1, 2, 3] : List Int), vp_in (i + Int32.ofInt k) L)
    (hnext : ∀ (σ' : gb_M) (A' : gb_Ab) (H1 : Heap) (locs1 : List Loc), gb_All σ' A' → va_P (g.1, g.2.1) vwCl (gb_ws g σ') H1 → va_S A s.heap H1 locs1 → W p l e room_1 s m #[Value.ref b] below meth c H1 locs1 cells slots Q (F0 m 1331 arr [])) : W p l e room_1 s m #[Value.ref b] below meth c H locs cells slots Q (F0 m 1137 arr []) := by
  have hx := X.1
  have hb := X.2.1
  refine lw_two (crk := 1) X hP hS hv hAll (ks := []) (n := 0) rfl (fun k hk => hks k (lw_in0 hk)) (th_old hAll.2.2.2) c_X9_old c_X10_old (gb_l5 lwd_266 lwd_267 lwd_268 lwd_3 lwd_269) (gb_l5 lwd_270 lwd_271 lwd_272 lwd_8 lwd_273) v_X9_old v_X10_old ⟨Nat.le_of_ble_eq_true rfl, Nat.le_of_ble_eq_true rfl⟩ ⟨Nat.le_of_ble_eq_true rfl, Nat.le_of_ble_eq_true rfl⟩ dw_1137 trivial dw_1138 dw_1141 trivial dw_1142 (Or.inl rfl) (fun v σ' A' H1 locs1 hk hA hP hS => ?_)
  obtain ⟨x, rfl⟩ := hk
  exact lv_icmp_eq (tgt := 1331) hx hb dw_1145 (by decide) (fun _ => hnext _ _ _ _ hA hP hS) (fun z => absurd rfl z)
theorem lw_case_34 (X : gb_Lw p s m c g A cells slots b L xs) {i : Int32} {H : Heap} {locs : List Loc} {arr : Array Slot} {σ : gb_M} {A0 : gb_Ab} (hP : va_P (g.1, g.2.1) vwCl (gb_ws g σ) H) (hS : va_S A s.heap H locs) (hv : lv_has arr 8 (lw_l g b i)) (hAll : gb_All σ A0) (hks : ∀ k ∈ ([1, 2, 3] : List Int), vp_in (i + Int32.ofInt k) L)
    (hnext : ∀ (σ' : gb_M) (A' : gb_Ab) (H1 : Heap) (locs1 : List Loc), gb_All σ' A' → va_P (g.1, g.2.1) vwCl (gb_ws g σ') H1 → va_S A s.heap H1 locs1 → W p l e room_1 s m #[Value.ref b] below meth c H1 locs1 cells slots Q (F0 m 1331 arr [])) : W p l e room_1 s m #[Value.ref b] below meth c H locs cells slots Q (F0 m 1150 arr []) := by
  have hx := X.1
  have hb := X.2.1
  refine lw_two (crk := 1) X hP hS hv hAll (ks := [1, 2]) (n := 12) rfl (fun k hk => hks k (lw_in2 hk)) (th_cures hAll.2.2.2 _ _) c_X9_cures c_X10_cures (gb_l5 lwd_274 lwd_275 lwd_276 lwd_3 lwd_277) (gb_l5 lwd_278 lwd_279 lwd_280 lwd_8 lwd_281) v_X9_cures v_X10_cures ⟨Nat.le_of_ble_eq_true rfl, Nat.le_of_ble_eq_true rfl⟩ ⟨Nat.le_of_ble_eq_true rfl, Nat.le_of_ble_eq_true rfl⟩ dw_1150 ⟨dw_1151, dw_1152, dw_1154, dw_1155, dw_1156, ⟨dw_1157, dw_1158, dw_1160, dw_1161, dw_1162, trivial⟩⟩ dw_1163 dw_1166 ⟨dw_1167, dw_1168, dw_1170, dw_1171, dw_1172, ⟨dw_1173, dw_1174, dw_1176, dw_1177, dw_1178, trivial⟩⟩ dw_1179 (Or.inl rfl) (fun v σ' A' H1 locs1 hk hA hP hS => ?_)
  obtain ⟨x, rfl⟩ := hk
  exact lv_icmp_eq (tgt := 1331) hx hb dw_1182 (by decide) (fun _ => hnext _ _ _ _ hA hP hS) (fun z => absurd rfl z)
theorem lw_case_35 (X : gb_Lw p s m c g A cells slots b L xs) {i : Int32} {H : Heap} {locs : List Loc} {arr : Array Slot} {σ : gb_M} {A0 : gb_Ab} (hP : va_P (g.1, g.2.1) vwCl (gb_ws g σ) H) (hS : va_S A s.heap H locs) (hv : lv_has arr 8 (lw_l g b i)) (hAll : gb_All σ A0) (hks : ∀ k ∈ ([1, 2, 3] : List Int), vp_in (i + Int32.ofInt k) L)
    (hnext : ∀ (σ' : gb_M) (A' : gb_Ab) (H1 : Heap) (locs1 : List Loc), gb_All σ' A' → va_P (g.1, g.2.1) vwCl (gb_ws g σ') H1 → va_S A s.heap H1 locs1 → W p l e room_1 s m #[Value.ref b] below meth c H1 locs1 cells slots Q (F0 m 1331 arr [])) : W p l e room_1 s m #[Value.ref b] below meth c H locs cells slots Q (F0 m 1187 arr []) := by
  have hx := X.1
  have hb := X.2.1
  refine lw_two (crk := 1) X hP hS hv hAll (ks := []) (n := 0) rfl (fun k hk => hks k (lw_in0 hk)) (th_undo hAll.2.2.2) c_X9_undo c_X10_undo (gb_l5 lwd_282 lwd_283 lwd_284 lwd_3 lwd_285) (gb_l5 lwd_286 lwd_287 lwd_288 lwd_8 lwd_289) v_X9_undo v_X10_undo ⟨Nat.le_of_ble_eq_true rfl, Nat.le_of_ble_eq_true rfl⟩ ⟨Nat.le_of_ble_eq_true rfl, Nat.le_of_ble_eq_true rfl⟩ dw_1187 trivial dw_1188 dw_1191 trivial dw_1192 (Or.inl rfl) (fun v σ' A' H1 locs1 hk hA hP hS => ?_)
  obtain ⟨x, rfl⟩ := hk
  exact lv_icmp_eq (tgt := 1331) hx hb dw_1195 (by decide) (fun _ => hnext _ _ _ _ hA hP hS) (fun z => absurd rfl z)
theorem lw_case_36 (X : gb_Lw p s m c g A cells slots b L xs) {i : Int32} {H : Heap} {locs : List Loc} {arr : Array Slot} {σ : gb_M} {A0 : gb_Ab} (hP : va_P (g.1, g.2.1) vwCl (gb_ws g σ) H) (hS : va_S A s.heap H locs) (hv : lv_has arr 8 (lw_l g b i)) (hAll : gb_All σ A0) (hks : ∀ k ∈ ([1, 2, 3] : List Int), vp_in (i + Int32.ofInt k) L)
    (hnext : ∀ (σ' : gb_M) (A' : gb_Ab) (H1 : Heap) (locs1 : List Loc), gb_All σ' A' → va_P (g.1, g.2.1) vwCl (gb_ws g σ') H1 → va_S A s.heap H1 locs1 → W p l e room_1 s m #[Value.ref b] below meth c H1 locs1 cells slots Q (F0 m 1331 arr [])) : W p l e room_1 s m #[Value.ref b] below meth c H locs cells slots Q (F0 m 1200 arr []) := by
  have hx := X.1
  have hb := X.2.1
  refine lw_two (crk := 1) X hP hS hv hAll (ks := []) (n := 0) rfl (fun k hk => hks k (lw_in0 hk)) (th_keeps hAll.2.2.2) c_X9_keeps c_X10_keeps (gb_l5 lwd_290 lwd_291 lwd_292 lwd_3 lwd_293) (gb_l5 lwd_294 lwd_295 lwd_296 lwd_8 lwd_297) v_X9_keeps v_X10_keeps ⟨Nat.le_of_ble_eq_true rfl, Nat.le_of_ble_eq_true rfl⟩ ⟨Nat.le_of_ble_eq_true rfl, Nat.le_of_ble_eq_true rfl⟩ dw_1200 trivial dw_1201 dw_1204 trivial dw_1205 (Or.inl rfl) (fun v σ' A' H1 locs1 hk hA hP hS => ?_)
  obtain ⟨x, rfl⟩ := hk
  exact lv_icmp_eq (tgt := 1331) hx hb dw_1208 (by decide) (fun _ => hnext _ _ _ _ hA hP hS) (fun z => absurd rfl z)
theorem lw_case_37 (X : gb_Lw p s m c g A cells slots b L xs) {i : Int32} {H : Heap} {locs : List Loc} {arr : Array Slot} {σ : gb_M} {A0 : gb_Ab} (hP : va_P (g.1, g.2.1) vwCl (gb_ws g σ) H) (hS : va_S A s.heap H locs) (hv : lv_has arr 8 (lw_l g b i)) (hAll : gb_All σ A0) (hks : ∀ k ∈ ([1, 2, 3] : List Int), vp_in (i + Int32.ofInt k) L)
    (hnext : ∀ (σ' : gb_M) (A' : gb_Ab) (H1 : Heap) (locs1 : List Loc), gb_All σ' A' → va_P (g.1, g.2.1) vwCl (gb_ws g σ') H1 → va_S A s.heap H1 locs1 → W p l e room_1 s m #[Value.ref b] below meth c H1 locs1 cells slots Q (F0 m 1331 arr [])) : W p l e room_1 s m #[Value.ref b] below meth c H locs cells slots Q (F0 m 1213 arr []) := by
  have hx := X.1
  have hb := X.2.1
  refine lw_two (crk := 1) X hP hS hv hAll (ks := []) (n := 0) rfl (fun k hk => hks k (lw_in0 hk)) (th_back hAll.2.2.2) c_X9_back c_X10_back (gb_l5 lwd_298 lwd_299 lwd_300 lwd_3 lwd_301) (gb_l5 lwd_302 lwd_303 lwd_304 lwd_8 lwd_305) v_X9_back v_X10_back ⟨Nat.le_of_ble_eq_true rfl, Nat.le_of_ble_eq_true rfl⟩ ⟨Nat.le_of_ble_eq_true rfl, Nat.le_of_ble_eq_true rfl⟩ dw_1213 trivial dw_1214 dw_1217 trivial dw_1218 (Or.inl rfl) (fun v σ' A' H1 locs1 hk hA hP hS => ?_)
  obtain ⟨x, rfl⟩ := hk
  exact lv_icmp_eq (tgt := 1331) hx hb dw_1221 (by decide) (fun _ => hnext _ _ _ _ hA hP hS) (fun z => absurd rfl z)
theorem lw_case_38 (X : gb_Lw p s m c g A cells slots b L xs) {i : Int32} {H : Heap} {locs : List Loc} {arr : Array Slot} {σ : gb_M} {A0 : gb_Ab} (hP : va_P (g.1, g.2.1) vwCl (gb_ws g σ) H) (hS : va_S A s.heap H locs) (hv : lv_has arr 8 (lw_l g b i)) (hAll : gb_All σ A0) (hks : ∀ k ∈ ([1, 2, 3] : List Int), vp_in (i + Int32.ofInt k) L)
    (hnext : ∀ (σ' : gb_M) (A' : gb_Ab) (H1 : Heap) (locs1 : List Loc), gb_All σ' A' → va_P (g.1, g.2.1) vwCl (gb_ws g σ') H1 → va_S A s.heap H1 locs1 → W p l e room_1 s m #[Value.ref b] below meth c H1 locs1 cells slots Q (F0 m 1331 arr [])) : W p l e room_1 s m #[Value.ref b] below meth c H locs cells slots Q (F0 m 1226 arr []) := by
  have hx := X.1
  have hb := X.2.1
  refine lw_two (crk := 1) X hP hS hv hAll (ks := [1]) (n := 6) rfl (fun k hk => hks k (lw_in1 hk)) (th_written hAll.2.2.2 _) c_X9_written c_X10_written (gb_l5 lwd_306 lwd_307 lwd_308 lwd_3 lwd_309) (gb_l5 lwd_310 lwd_311 lwd_312 lwd_8 lwd_313) v_X9_written v_X10_written ⟨Nat.le_of_ble_eq_true rfl, Nat.le_of_ble_eq_true rfl⟩ ⟨Nat.le_of_ble_eq_true rfl, Nat.le_of_ble_eq_true rfl⟩ dw_1226 ⟨dw_1227, dw_1228, dw_1230, dw_1231, dw_1232, trivial⟩ dw_1233 dw_1236 ⟨dw_1237, dw_1238, dw_1240, dw_1241, dw_1242, trivial⟩ dw_1243 (Or.inl rfl) (fun v σ' A' H1 locs1 hk hA hP hS => ?_)
  obtain ⟨x, rfl⟩ := hk
  exact lv_icmp_eq (tgt := 1331) hx hb dw_1246 (by decide) (fun _ => hnext _ _ _ _ hA hP hS) (fun z => absurd rfl z)
theorem lw_case_39 (X : gb_Lw p s m c g A cells slots b L xs) {i : Int32} {H : Heap} {locs : List Loc} {arr : Array Slot} {σ : gb_M} {A0 : gb_Ab} (hP : va_P (g.1, g.2.1) vwCl (gb_ws g σ) H) (hS : va_S A s.heap H locs) (hv : lv_has arr 8 (lw_l g b i)) (hAll : gb_All σ A0) (hks : ∀ k ∈ ([1, 2, 3] : List Int), vp_in (i + Int32.ofInt k) L)
    (hnext : ∀ (σ' : gb_M) (A' : gb_Ab) (H1 : Heap) (locs1 : List Loc), gb_All σ' A' → va_P (g.1, g.2.1) vwCl (gb_ws g σ') H1 → va_S A s.heap H1 locs1 → W p l e room_1 s m #[Value.ref b] below meth c H1 locs1 cells slots Q (F0 m 1331 arr [])) : W p l e room_1 s m #[Value.ref b] below meth c H locs cells slots Q (F0 m 1251 arr []) := by
  have hx := X.1
  have hb := X.2.1
  refine lw_two (crk := 1) X hP hS hv hAll (ks := [1]) (n := 6) rfl (fun k hk => hks k (lw_in1 hk)) (th_count hAll.2.2.2 _) c_X9_count c_X10_count (gb_l5 lwd_314 lwd_315 lwd_316 lwd_3 lwd_317) (gb_l5 lwd_318 lwd_319 lwd_320 lwd_8 lwd_321) v_X9_count v_X10_count ⟨Nat.le_of_ble_eq_true rfl, Nat.le_of_ble_eq_true rfl⟩ ⟨Nat.le_of_ble_eq_true rfl, Nat.le_of_ble_eq_true rfl⟩ dw_1251 ⟨dw_1252, dw_1253, dw_1255, dw_1256, dw_1257, trivial⟩ dw_1258 dw_1261 ⟨dw_1262, dw_1263, dw_1265, dw_1266, dw_1267, trivial⟩ dw_1268 (Or.inl rfl) (fun v σ' A' H1 locs1 hk hA hP hS => ?_)
  obtain ⟨x, rfl⟩ := hk
  exact lv_icmp_eq (tgt := 1331) hx hb dw_1271 (by decide) (fun _ => hnext _ _ _ _ hA hP hS) (fun z => absurd rfl z)
end LWK
