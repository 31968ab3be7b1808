theorem z_mB_0 : (List.range 20).all (fun j => z_mB (0 + j)) = true := by decide +kernel
theorem z_mB_20 : (List.range 20).all (fun j => z_mB (20 + j)) = true := by decide +kernel
theorem z_mB_40 : (List.range 20).all (fun j => z_mB (40 + j)) = true := by decide +kernel
theorem z_mB_60 : (List.range 20).all (fun j => z_mB (60 + j)) = true := by decide +kernel
theorem z_mB_80 : (List.range 20).all (fun j => z_mB (80 + j)) = true := by decide +kernel
theorem z_mB_100 : (List.range 20).all (fun j => z_mB (100 + j)) = true := by decide +kernel
theorem z_mB_120 : (List.range 20).all (fun j => z_mB (120 + j)) = true := by decide +kernel
theorem z_mB_140 : (List.range 11).all (fun j => z_mB (140 + j)) = true := by decide +kernel
theorem z_mB_all {m : Nat} (hm : m < 151) : z_mB m = true := by
  rcases Nat.lt_or_ge m 20 with h | h
  · have h1 := List.all_eq_true.mp z_mB_0 (m - 0) (List.mem_range.mpr (by omega))
    rw [show 0 + (m - 0) = m by omega] at h1
    exact h1
  rcases Nat.lt_or_ge m 40 with h | h
  · have h1 := List.all_eq_true.mp z_mB_20 (m - 20) (List.mem_range.mpr (by omega))
    rw [show 20 + (m - 20) = m by omega] at h1
    exact h1
  rcases Nat.lt_or_ge m 60 with h | h
  · have h1 := List.all_eq_true.mp z_mB_40 (m - 40) (List.mem_range.mpr (by omega))
    rw [show 40 + (m - 40) = m by omega] at h1
    exact h1
  rcases Nat.lt_or_ge m 80 with h | h
  · have h1 := List.all_eq_true.mp z_mB_60 (m - 60) (List.mem_range.mpr (by omega))
    rw [show 60 + (m - 60) = m by omega] at h1
    exact h1
  rcases Nat.lt_or_ge m 100 with h | h
  · have h1 := List.all_eq_true.mp z_mB_80 (m - 80) (List.mem_range.mpr (by omega))
    rw [show 80 + (m - 80) = m by omega] at h1
    exact h1
  rcases Nat.lt_or_ge m 120 with h | h
  · have h1 := List.all_eq_true.mp z_mB_100 (m - 100) (List.mem_range.mpr (by omega))
    rw [show 100 + (m - 100) = m by omega] at h1
    exact h1
  rcases Nat.lt_or_ge m 140 with h | h
  · have h1 := List.all_eq_true.mp z_mB_120 (m - 120) (List.mem_range.mpr (by omega))
    rw [show 120 + (m - 120) = m by omega] at h1
    exact h1
  rcases Nat.lt_or_ge m 151 with h | h
  · have h1 := List.all_eq_true.mp z_mB_140 (m - 140) (List.mem_range.mpr (by omega))
    rw [show 140 + (m - 140) = m by omega] at h1
    exact h1
  omega
set_option maxRecDepth 100000 in
theorem z_cw_0 : lw_tbl[283]? = some (z_codeW 0) := by rfl
set_option maxRecDepth 100000 in
theorem z_cw_1 : lw_tbl[405]? = some (z_codeW 1) := by rfl
set_option maxRecDepth 100000 in
theorem z_cw_2 : lw_tbl[353]? = some (z_codeW 2) := by rfl
set_option maxRecDepth 100000 in
theorem z_cw_3 : lw_tbl[628]? = some (z_codeW 3) := by rfl
set_option maxRecDepth 100000 in
theorem z_cw_4 : lw_tbl[361]? = some (z_codeW 4) := by rfl
set_option maxRecDepth 100000 in
theorem z_cw_5 : lw_tbl[502]? = some (z_codeW 5) := by rfl
set_option maxRecDepth 100000 in
theorem z_cw_6 : lw_tbl[349]? = some (z_codeW 6) := by rfl
set_option maxRecDepth 100000 in
theorem z_cw_7 : lw_tbl[384]? = some (z_codeW 7) := by rfl
set_option maxRecDepth 100000 in
theorem z_cw_8 : lw_tbl[572]? = some (z_codeW 8) := by rfl
set_option maxRecDepth 100000 in
theorem z_cw_9 : lw_tbl[409]? = some (z_codeW 9) := by rfl
set_option maxRecDepth 100000 in
theorem z_cw_10 : lw_tbl[376]? = some (z_codeW 10) := by rfl
set_option maxRecDepth 100000 in
theorem z_cw_11 : lw_tbl[279]? = some (z_codeW 11) := by rfl
set_option maxRecDepth 100000 in
theorem z_cw_12 : lw_tbl[513]? = some (z_codeW 12) := by rfl
set_option maxRecDepth 100000 in
theorem z_cw_13 : lw_tbl[654]? = some (z_codeW 13) := by rfl
set_option maxRecDepth 100000 in
theorem z_cw_14 : lw_tbl[357]? = some (z_codeW 14) := by rfl
set_option maxRecDepth 100000 in
theorem z_cw_15 : lw_tbl[341]? = some (z_codeW 15) := by rfl
set_option maxRecDepth 100000 in
theorem z_cw_16 : lw_tbl[345]? = some (z_codeW 16) := by rfl
set_option maxRecDepth 100000 in
theorem z_cw_17 : lw_tbl[388]? = some (z_codeW 17) := by rfl
set_option maxRecDepth 100000 in
theorem z_cw_18 : lw_tbl[397]? = some (z_codeW 18) := by rfl
set_option maxRecDepth 100000 in
theorem z_cw_19 : lw_tbl[417]? = some (z_codeW 19) := by rfl
set_option maxRecDepth 100000 in
theorem z_cw_20 : lw_tbl[302]? = some (z_codeW 20) := by rfl
set_option maxRecDepth 100000 in
theorem z_cw_21 : lw_tbl[314]? = some (z_codeW 21) := by rfl
set_option maxRecDepth 100000 in
theorem z_cw_22 : lw_tbl[306]? = some (z_codeW 22) := by rfl
set_option maxRecDepth 100000 in
theorem z_cw_23 : lw_tbl[310]? = some (z_codeW 23) := by rfl
set_option maxRecDepth 100000 in
theorem z_cw_24 : lw_tbl[321]? = some (z_codeW 24) := by rfl
set_option maxRecDepth 100000 in
theorem z_cw_25 : lw_tbl[329]? = some (z_codeW 25) := by rfl
set_option maxRecDepth 100000 in
theorem z_cw_26 : lw_tbl[333]? = some (z_codeW 26) := by rfl
set_option maxRecDepth 100000 in
theorem z_cw_27 : lw_tbl[365]? = some (z_codeW 27) := by rfl
set_option maxRecDepth 100000 in
theorem z_cw_28 : lw_tbl[372]? = some (z_codeW 28) := by rfl
set_option maxRecDepth 100000 in
theorem z_cw_29 : lw_tbl[591]? = some (z_codeW 29) := by rfl
set_option maxRecDepth 100000 in
theorem z_cw_30 : lw_tbl[617]? = some (z_codeW 30) := by rfl
set_option maxRecDepth 100000 in
theorem z_cw_31 : lw_tbl[624]? = some (z_codeW 31) := by rfl
set_option maxRecDepth 100000 in
theorem z_cw_32 : lw_tbl[636]? = some (z_codeW 32) := by rfl
set_option maxRecDepth 100000 in
theorem z_cw_33 : lw_tbl[271]? = some (z_codeW 33) := by rfl
set_option maxRecDepth 100000 in
theorem z_cw_34 : lw_tbl[643]? = some (z_codeW 34) := by rfl
set_option maxRecDepth 100000 in
theorem z_cw_35 : lw_tbl[650]? = some (z_codeW 35) := by rfl
set_option maxRecDepth 100000 in
theorem z_cw_36 : lw_tbl[662]? = some (z_codeW 36) := by rfl
set_option maxRecDepth 100000 in
theorem z_cw_37 : lw_tbl[669]? = some (z_codeW 37) := by rfl
set_option maxRecDepth 100000 in
theorem z_cw_38 : lw_tbl[294]? = some (z_codeW 38) := by rfl
set_option maxRecDepth 100000 in
theorem z_cw_39 : lw_tbl[298]? = some (z_codeW 39) := by rfl
set_option maxRecDepth 100000 in
theorem z_cw_40 : lw_tbl[676]? = some (z_codeW 40) := by rfl
set_option maxRecDepth 100000 in
theorem z_cw_41 : lw_tbl[692]? = some (z_codeW 41) := by rfl
set_option maxRecDepth 100000 in
theorem z_cw_42 : lw_tbl[548]? = some (z_codeW 42) := by rfl
set_option maxRecDepth 100000 in
theorem z_cw_43 : lw_tbl[557]? = some (z_codeW 43) := by rfl
set_option maxRecDepth 100000 in
theorem z_cw_44 : lw_tbl[427]? = some (z_codeW 44) := by rfl
set_option maxRecDepth 100000 in
theorem z_cw_45 : lw_tbl[525]? = some (z_codeW 45) := by rfl
set_option maxRecDepth 100000 in
theorem z_cw_46 : lw_tbl[553]? = some (z_codeW 46) := by rfl
set_option maxRecDepth 100000 in
theorem z_cw_47 : lw_tbl[568]? = some (z_codeW 47) := by rfl
set_option maxRecDepth 100000 in
theorem z_cw_48 : lw_tbl[337]? = some (z_codeW 48) := by rfl
set_option maxRecDepth 100000 in
theorem z_cw_49 : lw_tbl[393]? = some (z_codeW 49) := by rfl
set_option maxRecDepth 100000 in
theorem z_cw_50 : lw_tbl[401]? = some (z_codeW 50) := by rfl
set_option maxRecDepth 100000 in
theorem z_cw_51 : lw_tbl[413]? = some (z_codeW 51) := by rfl
set_option maxRecDepth 100000 in
theorem z_cw_52 : lw_tbl[421]? = some (z_codeW 52) := by rfl
set_option maxRecDepth 100000 in
theorem z_cw_53 : lw_tbl[564]? = some (z_codeW 53) := by rfl
set_option maxRecDepth 100000 in
theorem z_cw_54 : lw_tbl[275]? = some (z_codeW 54) := by rfl
set_option maxRecDepth 100000 in
theorem z_cw_55 : lw_tbl[519]? = some (z_codeW 55) := by rfl
set_option maxRecDepth 100000 in
theorem z_cw_56 : lw_tbl[681]? = some (z_codeW 56) := by rfl
set_option maxRecDepth 100000 in
theorem z_cw_57 : lw_tbl[685]? = some (z_codeW 57) := by rfl
set_option maxRecDepth 100000 in
theorem z_cw_58 : lw_tbl[430]? = some (z_codeW 58) := by rfl
set_option maxRecDepth 100000 in
theorem z_cw_59 : lw_tbl[594]? = some (z_codeW 59) := by rfl
set_option maxRecDepth 100000 in
theorem z_cw_60 : lw_tbl[528]? = some (z_codeW 60) := by rfl
set_option maxRecDepth 100000 in
theorem z_cw_61 : lw_tbl[317]? = some (z_codeW 61) := by rfl
set_option maxRecDepth 100000 in
theorem z_cw_62 : lw_tbl[324]? = some (z_codeW 62) := by rfl
set_option maxRecDepth 100000 in
theorem z_cw_63 : lw_tbl[560]? = some (z_codeW 63) := by rfl
set_option maxRecDepth 100000 in
theorem z_cw_64 : lw_tbl[290]? = some (z_codeW 64) := by rfl
set_option maxRecDepth 100000 in
theorem z_cw_65 : lw_tbl[579]? = some (z_codeW 65) := by rfl
set_option maxRecDepth 100000 in
theorem z_cw_66 : lw_tbl[784]? = some (z_codeW 66) := by rfl
set_option maxRecDepth 100000 in
theorem z_cw_67 : lw_tbl[794]? = some (z_codeW 67) := by rfl
set_option maxRecDepth 100000 in
theorem z_cw_68 : lw_tbl[798]? = some (z_codeW 68) := by rfl
set_option maxRecDepth 100000 in
theorem z_cw_69 : lw_tbl[791]? = some (z_codeW 69) := by rfl
set_option maxRecDepth 100000 in
theorem z_cw_70 : lw_tbl[802]? = some (z_codeW 70) := by rfl
set_option maxRecDepth 100000 in
theorem z_cw_71 : lw_tbl[1004]? = some (z_codeW 71) := by rfl
set_option maxRecDepth 100000 in
theorem z_cw_72 : lw_tbl[1008]? = some (z_codeW 72) := by rfl
set_option maxRecDepth 100000 in
theorem z_cw_73 : lw_tbl[834]? = some (z_codeW 73) := by rfl
set_option maxRecDepth 100000 in
theorem z_cw_74 : lw_tbl[884]? = some (z_codeW 74) := by rfl
set_option maxRecDepth 100000 in
theorem z_cw_75 : lw_tbl[877]? = some (z_codeW 75) := by rfl
set_option maxRecDepth 100000 in
theorem z_cw_76 : lw_tbl[888]? = some (z_codeW 76) := by rfl
set_option maxRecDepth 100000 in
theorem z_cw_77 : lw_tbl[881]? = some (z_codeW 77) := by rfl
set_option maxRecDepth 100000 in
theorem z_cw_78 : lw_tbl[948]? = some (z_codeW 78) := by rfl
set_option maxRecDepth 100000 in
theorem z_cw_79 : lw_tbl[944]? = some (z_codeW 79) := by rfl
set_option maxRecDepth 100000 in
theorem z_cw_80 : lw_tbl[837]? = some (z_codeW 80) := by rfl
set_option maxRecDepth 100000 in
theorem z_cw_81 : lw_tbl[873]? = some (z_codeW 81) := by rfl
set_option maxRecDepth 100000 in
theorem z_cw_82 : lw_tbl[814]? = some (z_codeW 82) := by rfl
set_option maxRecDepth 100000 in
theorem z_cw_83 : lw_tbl[818]? = some (z_codeW 83) := by rfl
set_option maxRecDepth 100000 in
theorem z_cw_84 : lw_tbl[826]? = some (z_codeW 84) := by rfl
set_option maxRecDepth 100000 in
theorem z_cw_85 : lw_tbl[830]? = some (z_codeW 85) := by rfl
set_option maxRecDepth 100000 in
theorem z_cw_86 : lw_tbl[849]? = some (z_codeW 86) := by rfl
set_option maxRecDepth 100000 in
theorem z_cw_87 : lw_tbl[865]? = some (z_codeW 87) := by rfl
set_option maxRecDepth 100000 in
theorem z_cw_88 : lw_tbl[869]? = some (z_codeW 88) := by rfl
set_option maxRecDepth 100000 in
theorem z_cw_89 : lw_tbl[857]? = some (z_codeW 89) := by rfl
set_option maxRecDepth 100000 in
theorem z_cw_90 : lw_tbl[806]? = some (z_codeW 90) := by rfl
set_option maxRecDepth 100000 in
theorem z_cw_91 : lw_tbl[788]? = some (z_codeW 91) := by rfl
set_option maxRecDepth 100000 in
theorem z_cw_92 : lw_tbl[810]? = some (z_codeW 92) := by rfl
set_option maxRecDepth 100000 in
theorem z_cw_93 : lw_tbl[822]? = some (z_codeW 93) := by rfl
set_option maxRecDepth 100000 in
theorem z_cw_94 : lw_tbl[841]? = some (z_codeW 94) := by rfl
set_option maxRecDepth 100000 in
theorem z_cw_95 : lw_tbl[845]? = some (z_codeW 95) := by rfl
set_option maxRecDepth 100000 in
theorem z_cw_96 : lw_tbl[853]? = some (z_codeW 96) := by rfl
set_option maxRecDepth 100000 in
theorem z_cw_97 : lw_tbl[861]? = some (z_codeW 97) := by rfl
set_option maxRecDepth 100000 in
theorem z_cw_98 : lw_tbl[892]? = some (z_codeW 98) := by rfl
set_option maxRecDepth 100000 in
theorem z_cw_99 : lw_tbl[896]? = some (z_codeW 99) := by rfl
set_option maxRecDepth 100000 in
theorem z_cw_100 : lw_tbl[900]? = some (z_codeW 100) := by rfl
set_option maxRecDepth 100000 in
theorem z_cw_101 : lw_tbl[920]? = some (z_codeW 101) := by rfl
set_option maxRecDepth 100000 in
theorem z_cw_102 : lw_tbl[916]? = some (z_codeW 102) := by rfl
set_option maxRecDepth 100000 in
theorem z_cw_103 : lw_tbl[912]? = some (z_codeW 103) := by rfl
set_option maxRecDepth 100000 in
theorem z_cw_104 : lw_tbl[924]? = some (z_codeW 104) := by rfl
set_option maxRecDepth 100000 in
theorem z_cw_105 : lw_tbl[908]? = some (z_codeW 105) := by rfl
set_option maxRecDepth 100000 in
theorem z_cw_106 : lw_tbl[904]? = some (z_codeW 106) := by rfl
set_option maxRecDepth 100000 in
theorem z_cw_107 : lw_tbl[928]? = some (z_codeW 107) := by rfl
set_option maxRecDepth 100000 in
theorem z_cw_108 : lw_tbl[932]? = some (z_codeW 108) := by rfl
set_option maxRecDepth 100000 in
theorem z_cw_109 : lw_tbl[940]? = some (z_codeW 109) := by rfl
set_option maxRecDepth 100000 in
theorem z_cw_110 : lw_tbl[936]? = some (z_codeW 110) := by rfl
set_option maxRecDepth 100000 in
theorem z_cw_111 : lw_tbl[956]? = some (z_codeW 111) := by rfl
set_option maxRecDepth 100000 in
theorem z_cw_112 : lw_tbl[952]? = some (z_codeW 112) := by rfl
set_option maxRecDepth 100000 in
theorem z_cw_113 : lw_tbl[972]? = some (z_codeW 113) := by rfl
set_option maxRecDepth 100000 in
theorem z_cw_114 : lw_tbl[968]? = some (z_codeW 114) := by rfl
set_option maxRecDepth 100000 in
theorem z_cw_115 : lw_tbl[964]? = some (z_codeW 115) := by rfl
set_option maxRecDepth 100000 in
theorem z_cw_116 : lw_tbl[960]? = some (z_codeW 116) := by rfl
set_option maxRecDepth 100000 in
theorem z_cw_117 : lw_tbl[976]? = some (z_codeW 117) := by rfl
set_option maxRecDepth 100000 in
theorem z_cw_118 : lw_tbl[984]? = some (z_codeW 118) := by rfl
set_option maxRecDepth 100000 in
theorem z_cw_119 : lw_tbl[980]? = some (z_codeW 119) := by rfl
set_option maxRecDepth 100000 in
theorem z_cw_120 : lw_tbl[992]? = some (z_codeW 120) := by rfl
set_option maxRecDepth 100000 in
theorem z_cw_121 : lw_tbl[988]? = some (z_codeW 121) := by rfl
set_option maxRecDepth 100000 in
theorem z_cw_122 : lw_tbl[1000]? = some (z_codeW 122) := by rfl
set_option maxRecDepth 100000 in
theorem z_cw_123 : lw_tbl[996]? = some (z_codeW 123) := by rfl
set_option maxRecDepth 100000 in
theorem z_cw_124 : lw_tbl[1020]? = some (z_codeW 124) := by rfl
set_option maxRecDepth 100000 in
theorem z_cw_125 : lw_tbl[1016]? = some (z_codeW 125) := by rfl
set_option maxRecDepth 100000 in
theorem z_cw_126 : lw_tbl[1012]? = some (z_codeW 126) := by rfl
set_option maxRecDepth 100000 in
theorem z_cw_127 : lw_tbl[1028]? = some (z_codeW 127) := by rfl
set_option maxRecDepth 100000 in
theorem z_cw_128 : lw_tbl[1024]? = some (z_codeW 128) := by rfl
set_option maxRecDepth 100000 in
theorem z_cw_129 : lw_tbl[1036]? = some (z_codeW 129) := by rfl
set_option maxRecDepth 100000 in
theorem z_cw_130 : lw_tbl[1032]? = some (z_codeW 130) := by rfl
set_option maxRecDepth 100000 in
theorem z_cw_131 : lw_tbl[1049]? = some (z_codeW 131) := by rfl
set_option maxRecDepth 100000 in
theorem z_cw_132 : lw_tbl[1045]? = some (z_codeW 132) := by rfl
set_option maxRecDepth 100000 in
theorem z_cw_133 : lw_tbl[1040]? = some (z_codeW 133) := by rfl
set_option maxRecDepth 100000 in
theorem z_cw_134 : lw_tbl[506]? = some (z_codeW 134) := by rfl
set_option maxRecDepth 100000 in
theorem z_cw_135 : lw_tbl[585]? = some (z_codeW 135) := by rfl
set_option maxRecDepth 100000 in
theorem z_cw_136 : lw_tbl[613]? = some (z_codeW 136) := by rfl
set_option maxRecDepth 100000 in
theorem z_cw_137 : lw_tbl[620]? = some (z_codeW 137) := by rfl
set_option maxRecDepth 100000 in
theorem z_cw_138 : lw_tbl[632]? = some (z_codeW 138) := by rfl
set_option maxRecDepth 100000 in
theorem z_cw_139 : lw_tbl[639]? = some (z_codeW 139) := by rfl
set_option maxRecDepth 100000 in
theorem z_cw_140 : lw_tbl[646]? = some (z_codeW 140) := by rfl
set_option maxRecDepth 100000 in
theorem z_cw_141 : lw_tbl[657]? = some (z_codeW 141) := by rfl
set_option maxRecDepth 100000 in
theorem z_cw_142 : lw_tbl[665]? = some (z_codeW 142) := by rfl
set_option maxRecDepth 100000 in
theorem z_cw_143 : lw_tbl[672]? = some (z_codeW 143) := by rfl
set_option maxRecDepth 100000 in
theorem z_cw_144 : lw_tbl[688]? = some (z_codeW 144) := by rfl
set_option maxRecDepth 100000 in
theorem z_cw_145 : lw_tbl[695]? = some (z_codeW 145) := by rfl
set_option maxRecDepth 100000 in
theorem z_cw_146 : lw_tbl[699]? = some (z_codeW 146) := by rfl
set_option maxRecDepth 100000 in
theorem z_cw_147 : lw_tbl[703]? = some (z_codeW 147) := by rfl
set_option maxRecDepth 100000 in
theorem z_cw_148 : lw_tbl[707]? = some (z_codeW 148) := by rfl
set_option maxRecDepth 100000 in
theorem z_cw_149 : lw_tbl[711]? = some (z_codeW 149) := by rfl
set_option maxRecDepth 100000 in
theorem z_cw_150 : lw_tbl[715]? = some (z_codeW 150) := by rfl
theorem z_cwa_0 (m : Nat) (h1 : 0 ≤ m) (h2 : m < 20) : z_codeW m ∈ lw_tbl := by
  rcases Nat.eq_or_lt_of_le h1 with h | h1
  · rw [← h]; exact List.mem_of_getElem? z_cw_0
  rcases Nat.eq_or_lt_of_le h1 with h | h1
  · rw [← h]; exact List.mem_of_getElem? z_cw_1
  rcases Nat.eq_or_lt_of_le h1 with h | h1
  · rw [← h]; exact List.mem_of_getElem? z_cw_2
  rcases Nat.eq_or_lt_of_le h1 with h | h1
  · rw [← h]; exact List.mem_of_getElem? z_cw_3
  rcases Nat.eq_or_lt_of_le h1 with h | h1
  · rw [← h]; exact List.mem_of_getElem? z_cw_4
  rcases Nat.eq_or_lt_of_le h1 with h | h1
  · rw [← h]; exact List.mem_of_getElem? z_cw_5
  rcases Nat.eq_or_lt_of_le h1 with h | h1
  · rw [← h]; exact List.mem_of_getElem? z_cw_6
  rcases Nat.eq_or_lt_of_le h1 with h | h1
  · rw [← h]; exact List.mem_of_getElem? z_cw_7
  rcases Nat.eq_or_lt_of_le h1 with h | h1
  · rw [← h]; exact List.mem_of_getElem? z_cw_8
  rcases Nat.eq_or_lt_of_le h1 with h | h1
  · rw [← h]; exact List.mem_of_getElem? z_cw_9
  rcases Nat.eq_or_lt_of_le h1 with h | h1
  · rw [← h]; exact List.mem_of_getElem? z_cw_10
  rcases Nat.eq_or_lt_of_le h1 with h | h1
  · rw [← h]; exact List.mem_of_getElem? z_cw_11
  rcases Nat.eq_or_lt_of_le h1 with h | h1
  · rw [← h]; exact List.mem_of_getElem? z_cw_12
  rcases Nat.eq_or_lt_of_le h1 with h | h1
  · rw [← h]; exact List.mem_of_getElem? z_cw_13
  rcases Nat.eq_or_lt_of_le h1 with h | h1
  · rw [← h]; exact List.mem_of_getElem? z_cw_14
  rcases Nat.eq_or_lt_of_le h1 with h | h1
  · rw [← h]; exact List.mem_of_getElem? z_cw_15
  rcases Nat.eq_or_lt_of_le h1 with h | h1
  · rw [← h]; exact List.mem_of_getElem? z_cw_16
  rcases Nat.eq_or_lt_of_le h1 with h | h1
  · rw [← h]; exact List.mem_of_getElem? z_cw_17
  rcases Nat.eq_or_lt_of_le h1 with h | h1
  · rw [← h]; exact List.mem_of_getElem? z_cw_18
  rcases Nat.eq_or_lt_of_le h1 with h | h1
  · rw [← h]; exact List.mem_of_getElem? z_cw_19
  omega
theorem z_cwa_20 (m : Nat) (h1 : 20 ≤ m) (h2 : m < 40) : z_codeW m ∈ lw_tbl := by
  rcases Nat.eq_or_lt_of_le h1 with h | h1
  · rw [← h]; exact List.mem_of_getElem? z_cw_20
  rcases Nat.eq_or_lt_of_le h1 with h | h1
  · rw [← h]; exact List.mem_of_getElem? z_cw_21
  rcases Nat.eq_or_lt_of_le h1 with h | h1
  · rw [← h]; exact List.mem_of_getElem? z_cw_22
  rcases Nat.eq_or_lt_of_le h1 with h | h1
  · rw [← h]; exact List.mem_of_getElem? z_cw_23
  rcases Nat.eq_or_lt_of_le h1 with h | h1
  · rw [← h]; exact List.mem_of_getElem? z_cw_24
  rcases Nat.eq_or_lt_of_le h1 with h | h1
  · rw [← h]; exact List.mem_of_getElem? z_cw_25
  rcases Nat.eq_or_lt_of_le h1 with h | h1
  · rw [← h]; exact List.mem_of_getElem? z_cw_26
  rcases Nat.eq_or_lt_of_le h1 with h | h1
  · rw [← h]; exact List.mem_of_getElem? z_cw_27
  rcases Nat.eq_or_lt_of_le h1 with h | h1
  · rw [← h]; exact List.mem_of_getElem? z_cw_28
  rcases Nat.eq_or_lt_of_le h1 with h | h1
  · rw [← h]; exact List.mem_of_getElem? z_cw_29
  rcases Nat.eq_or_lt_of_le h1 with h | h1
  · rw [← h]; exact List.mem_of_getElem? z_cw_30
  rcases Nat.eq_or_lt_of_le h1 with h | h1
  · rw [← h]; exact List.mem_of_getElem? z_cw_31
  rcases Nat.eq_or_lt_of_le h1 with h | h1
  · rw [← h]; exact List.mem_of_getElem? z_cw_32
  rcases Nat.eq_or_lt_of_le h1 with h | h1
  · rw [← h]; exact List.mem_of_getElem? z_cw_33
  rcases Nat.eq_or_lt_of_le h1 with h | h1
  · rw [← h]; exact List.mem_of_getElem? z_cw_34
  rcases Nat.eq_or_lt_of_le h1 with h | h1
  · rw [← h]; exact List.mem_of_getElem? z_cw_35
  rcases Nat.eq_or_lt_of_le h1 with h | h1
  · rw [← h]; exact List.mem_of_getElem? z_cw_36
  rcases Nat.eq_or_lt_of_le h1 with h | h1
  · rw [← h]; exact List.mem_of_getElem? z_cw_37
  rcases Nat.eq_or_lt_of_le h1 with h | h1
  · rw [← h]; exact List.mem_of_getElem? z_cw_38
  rcases Nat.eq_or_lt_of_le h1 with h | h1
  · rw [← h]; exact List.mem_of_getElem? z_cw_39
  omega
theorem z_cwa_40 (m : Nat) (h1 : 40 ≤ m) (h2 : m < 60) : z_codeW m ∈ lw_tbl := by
  rcases Nat.eq_or_lt_of_le h1 with h | h1
  · rw [← h]; exact List.mem_of_getElem? z_cw_40
  rcases Nat.eq_or_lt_of_le h1 with h | h1
  · rw [← h]; exact List.mem_of_getElem? z_cw_41
  rcases Nat.eq_or_lt_of_le h1 with h | h1
  · rw [← h]; exact List.mem_of_getElem? z_cw_42
  rcases Nat.eq_or_lt_of_le h1 with h | h1
  · rw [← h]; exact List.mem_of_getElem? z_cw_43
  rcases Nat.eq_or_lt_of_le h1 with h | h1
  · rw [← h]; exact List.mem_of_getElem? z_cw_44
  rcases Nat.eq_or_lt_of_le h1 with h | h1
  · rw [← h]; exact List.mem_of_getElem? z_cw_45
  rcases Nat.eq_or_lt_of_le h1 with h | h1
  · rw [← h]; exact List.mem_of_getElem? z_cw_46
  rcases Nat.eq_or_lt_of_le h1 with h | h1
  · rw [← h]; exact List.mem_of_getElem? z_cw_47
  rcases Nat.eq_or_lt_of_le h1 with h | h1
  · rw [← h]; exact List.mem_of_getElem? z_cw_48
  rcases Nat.eq_or_lt_of_le h1 with h | h1
  · rw [← h]; exact List.mem_of_getElem? z_cw_49
  rcases Nat.eq_or_lt_of_le h1 with h | h1
  · rw [← h]; exact List.mem_of_getElem? z_cw_50
  rcases Nat.eq_or_lt_of_le h1 with h | h1
  · rw [← h]; exact List.mem_of_getElem? z_cw_51
  rcases Nat.eq_or_lt_of_le h1 with h | h1
  · rw [← h]; exact List.mem_of_getElem? z_cw_52
  rcases Nat.eq_or_lt_of_le h1 with h | h1
  · rw [← h]; exact List.mem_of_getElem? z_cw_53
  rcases Nat.eq_or_lt_of_le h1 with h | h1
  · rw [← h]; exact List.mem_of_getElem? z_cw_54
  rcases Nat.eq_or_lt_of_le h1 with h | h1
  · rw [← h]; exact List.mem_of_getElem? z_cw_55
  rcases Nat.eq_or_lt_of_le h1 with h | h1
  · rw [← h]; exact List.mem_of_getElem? z_cw_56
  rcases Nat.eq_or_lt_of_le h1 with h | h1
  · rw [← h]; exact List.mem_of_getElem? z_cw_57
  rcases Nat.eq_or_lt_of_le h1 with h | h1
  · rw [← h]; exact List.mem_of_getElem? z_cw_58
  rcases Nat.eq_or_lt_of_le h1 with h | h1
  · rw [← h]; exact List.mem_of_getElem? z_cw_59
  omega
theorem z_cwa_60 (m : Nat) (h1 : 60 ≤ m) (h2 : m < 80) : z_codeW m ∈ lw_tbl := by
  rcases Nat.eq_or_lt_of_le h1 with h | h1
  · rw [← h]; exact List.mem_of_getElem? z_cw_60
  rcases Nat.eq_or_lt_of_le h1 with h | h1
  · rw [← h]; exact List.mem_of_getElem? z_cw_61
  rcases Nat.eq_or_lt_of_le h1 with h | h1
  · rw [← h]; exact List.mem_of_getElem? z_cw_62
  rcases Nat.eq_or_lt_of_le h1 with h | h1
  · rw [← h]; exact List.mem_of_getElem? z_cw_63
  rcases Nat.eq_or_lt_of_le h1 with h | h1
  · rw [← h]; exact List.mem_of_getElem? z_cw_64
  rcases Nat.eq_or_lt_of_le h1 with h | h1
  · rw [← h]; exact List.mem_of_getElem? z_cw_65
  rcases Nat.eq_or_lt_of_le h1 with h | h1
  · rw [← h]; exact List.mem_of_getElem? z_cw_66
  rcases Nat.eq_or_lt_of_le h1 with h | h1
  · rw [← h]; exact List.mem_of_getElem? z_cw_67
  rcases Nat.eq_or_lt_of_le h1 with h | h1
  · rw [← h]; exact List.mem_of_getElem? z_cw_68
  rcases Nat.eq_or_lt_of_le h1 with h | h1
  · rw [← h]; exact List.mem_of_getElem? z_cw_69
  rcases Nat.eq_or_lt_of_le h1 with h | h1
  · rw [← h]; exact List.mem_of_getElem? z_cw_70
  rcases Nat.eq_or_lt_of_le h1 with h | h1
  · rw [← h]; exact List.mem_of_getElem? z_cw_71
  rcases Nat.eq_or_lt_of_le h1 with h | h1
  · rw [← h]; exact List.mem_of_getElem? z_cw_72
  rcases Nat.eq_or_lt_of_le h1 with h | h1
  · rw [← h]; exact List.mem_of_getElem? z_cw_73
  rcases Nat.eq_or_lt_of_le h1 with h | h1
  · rw [← h]; exact List.mem_of_getElem? z_cw_74
  rcases Nat.eq_or_lt_of_le h1 with h | h1
  · rw [← h]; exact List.mem_of_getElem? z_cw_75
  rcases Nat.eq_or_lt_of_le h1 with h | h1
  · rw [← h]; exact List.mem_of_getElem? z_cw_76
  rcases Nat.eq_or_lt_of_le h1 with h | h1
  · rw [← h]; exact List.mem_of_getElem? z_cw_77
  rcases Nat.eq_or_lt_of_le h1 with h | h1
  · rw [← h]; exact List.mem_of_getElem? z_cw_78
  rcases Nat.eq_or_lt_of_le h1 with h | h1
  · rw [← h]; exact List.mem_of_getElem? z_cw_79
  omega
theorem z_cwa_80 (m : Nat) (h1 : 80 ≤ m) (h2 : m < 100) : z_codeW m ∈ lw_tbl := by
  rcases Nat.eq_or_lt_of_le h1 with h | h1
  · rw [← h]; exact List.mem_of_getElem? z_cw_80
  rcases Nat.eq_or_lt_of_le h1 with h | h1
  · rw [← h]; exact List.mem_of_getElem? z_cw_81
  rcases Nat.eq_or_lt_of_le h1 with h | h1
  · rw [← h]; exact List.mem_of_getElem? z_cw_82
  rcases Nat.eq_or_lt_of_le h1 with h | h1
  · rw [← h]; exact List.mem_of_getElem? z_cw_83
  rcases Nat.eq_or_lt_of_le h1 with h | h1
  · rw [← h]; exact List.mem_of_getElem? z_cw_84
  rcases Nat.eq_or_lt_of_le h1 with h | h1
  · rw [← h]; exact List.mem_of_getElem? z_cw_85
  rcases Nat.eq_or_lt_of_le h1 with h | h1
  · rw [← h]; exact List.mem_of_getElem? z_cw_86
  rcases Nat.eq_or_lt_of_le h1 with h | h1
  · rw [← h]; exact List.mem_of_getElem? z_cw_87
  rcases Nat.eq_or_lt_of_le h1 with h | h1
  · rw [← h]; exact List.mem_of_getElem? z_cw_88
  rcases Nat.eq_or_lt_of_le h1 with h | h1
  · rw [← h]; exact List.mem_of_getElem? z_cw_89
  rcases Nat.eq_or_lt_of_le h1 with h | h1
  · rw [← h]; exact List.mem_of_getElem? z_cw_90
  rcases Nat.eq_or_lt_of_le h1 with h | h1
  · rw [← h]; exact List.mem_of_getElem? z_cw_91
  rcases Nat.eq_or_lt_of_le h1 with h | h1
  · rw [← h]; exact List.mem_of_getElem? z_cw_92
  rcases Nat.eq_or_lt_of_le h1 with h | h1
  · rw [← h]; exact List.mem_of_getElem? z_cw_93
  rcases Nat.eq_or_lt_of_le h1 with h | h1
  · rw [← h]; exact List.mem_of_getElem? z_cw_94
  rcases Nat.eq_or_lt_of_le h1 with h | h1
  · rw [← h]; exact List.mem_of_getElem? z_cw_95
  rcases Nat.eq_or_lt_of_le h1 with h | h1
  · rw [← h]; exact List.mem_of_getElem? z_cw_96
  rcases Nat.eq_or_lt_of_le h1 with h | h1
  · rw [← h]; exact List.mem_of_getElem? z_cw_97
  rcases Nat.eq_or_lt_of_le h1 with h | h1
  · rw [← h]; exact List.mem_of_getElem? z_cw_98
  rcases Nat.eq_or_lt_of_le h1 with h | h1
  · rw [← h]; exact List.mem_of_getElem? z_cw_99
  omega
theorem z_cwa_100 (m : Nat) (h1 : 100 ≤ m) (h2 : m < 120) : z_codeW m ∈ lw_tbl := by
  rcases Nat.eq_or_lt_of_le h1 with h | h1
  · rw [← h]; exact List.mem_of_getElem? z_cw_100
  rcases Nat.eq_or_lt_of_le h1 with h | h1
  · rw [← h]; exact List.mem_of_getElem? z_cw_101
  rcases Nat.eq_or_lt_of_le h1 with h | h1
  · rw [← h]; exact List.mem_of_getElem? z_cw_102
  rcases Nat.eq_or_lt_of_le h1 with h | h1
  · rw [← h]; exact List.mem_of_getElem? z_cw_103
  rcases Nat.eq_or_lt_of_le h1 with h | h1
  · rw [← h]; exact List.mem_of_getElem? z_cw_104
  rcases Nat.eq_or_lt_of_le h1 with h | h1
  · rw [← h]; exact List.mem_of_getElem? z_cw_105
  rcases Nat.eq_or_lt_of_le h1 with h | h1
  · rw [← h]; exact List.mem_of_getElem? z_cw_106
  rcases Nat.eq_or_lt_of_le h1 with h | h1
  · rw [← h]; exact List.mem_of_getElem? z_cw_107
  rcases Nat.eq_or_lt_of_le h1 with h | h1
  · rw [← h]; exact List.mem_of_getElem? z_cw_108
  rcases Nat.eq_or_lt_of_le h1 with h | h1
  · rw [← h]; exact List.mem_of_getElem? z_cw_109
  rcases Nat.eq_or_lt_of_le h1 with h | h1
  · rw [← h]; exact List.mem_of_getElem? z_cw_110
  rcases Nat.eq_or_lt_of_le h1 with h | h1
  · rw [← h]; exact List.mem_of_getElem? z_cw_111
  rcases Nat.eq_or_lt_of_le h1 with h | h1
  · rw [← h]; exact List.mem_of_getElem? z_cw_112
  rcases Nat.eq_or_lt_of_le h1 with h | h1
  · rw [← h]; exact List.mem_of_getElem? z_cw_113
  rcases Nat.eq_or_lt_of_le h1 with h | h1
  · rw [← h]; exact List.mem_of_getElem? z_cw_114
  rcases Nat.eq_or_lt_of_le h1 with h | h1
  · rw [← h]; exact List.mem_of_getElem? z_cw_115
  rcases Nat.eq_or_lt_of_le h1 with h | h1
  · rw [← h]; exact List.mem_of_getElem? z_cw_116
  rcases Nat.eq_or_lt_of_le h1 with h | h1
  · rw [← h]; exact List.mem_of_getElem? z_cw_117
  rcases Nat.eq_or_lt_of_le h1 with h | h1
  · rw [← h]; exact List.mem_of_getElem? z_cw_118
  rcases Nat.eq_or_lt_of_le h1 with h | h1
  · rw [← h]; exact List.mem_of_getElem? z_cw_119
  omega
theorem z_cwa_120 (m : Nat) (h1 : 120 ≤ m) (h2 : m < 140) : z_codeW m ∈ lw_tbl := by
  rcases Nat.eq_or_lt_of_le h1 with h | h1
  · rw [← h]; exact List.mem_of_getElem? z_cw_120
  rcases Nat.eq_or_lt_of_le h1 with h | h1
  · rw [← h]; exact List.mem_of_getElem? z_cw_121
  rcases Nat.eq_or_lt_of_le h1 with h | h1
  · rw [← h]; exact List.mem_of_getElem? z_cw_122
  rcases Nat.eq_or_lt_of_le h1 with h | h1
  · rw [← h]; exact List.mem_of_getElem? z_cw_123
  rcases Nat.eq_or_lt_of_le h1 with h | h1
  · rw [← h]; exact List.mem_of_getElem? z_cw_124
  rcases Nat.eq_or_lt_of_le h1 with h | h1
  · rw [← h]; exact List.mem_of_getElem? z_cw_125
  rcases Nat.eq_or_lt_of_le h1 with h | h1
  · rw [← h]; exact List.mem_of_getElem? z_cw_126
  rcases Nat.eq_or_lt_of_le h1 with h | h1
  · rw [← h]; exact List.mem_of_getElem? z_cw_127
  rcases Nat.eq_or_lt_of_le h1 with h | h1
  · rw [← h]; exact List.mem_of_getElem? z_cw_128
  rcases Nat.eq_or_lt_of_le h1 with h | h1
  · rw [← h]; exact List.mem_of_getElem? z_cw_129
  rcases Nat.eq_or_lt_of_le h1 with h | h1
  · rw [← h]; exact List.mem_of_getElem? z_cw_130
  rcases Nat.eq_or_lt_of_le h1 with h | h1
  · rw [← h]; exact List.mem_of_getElem? z_cw_131
  rcases Nat.eq_or_lt_of_le h1 with h | h1
  · rw [← h]; exact List.mem_of_getElem? z_cw_132
  rcases Nat.eq_or_lt_of_le h1 with h | h1
  · rw [← h]; exact List.mem_of_getElem? z_cw_133
  rcases Nat.eq_or_lt_of_le h1 with h | h1
  · rw [← h]; exact List.mem_of_getElem? z_cw_134
  rcases Nat.eq_or_lt_of_le h1 with h | h1
  · rw [← h]; exact List.mem_of_getElem? z_cw_135
  rcases Nat.eq_or_lt_of_le h1 with h | h1
  · rw [← h]; exact List.mem_of_getElem? z_cw_136
  rcases Nat.eq_or_lt_of_le h1 with h | h1
  · rw [← h]; exact List.mem_of_getElem? z_cw_137
  rcases Nat.eq_or_lt_of_le h1 with h | h1
  · rw [← h]; exact List.mem_of_getElem? z_cw_138
  rcases Nat.eq_or_lt_of_le h1 with h | h1
  · rw [← h]; exact List.mem_of_getElem? z_cw_139
  omega
theorem z_cwa_140 (m : Nat) (h1 : 140 ≤ m) (h2 : m < 151) : z_codeW m ∈ lw_tbl := by
  rcases Nat.eq_or_lt_of_le h1 with h | h1
  · rw [← h]; exact List.mem_of_getElem? z_cw_140
  rcases Nat.eq_or_lt_of_le h1 with h | h1
  · rw [← h]; exact List.mem_of_getElem? z_cw_141
  rcases Nat.eq_or_lt_of_le h1 with h | h1
  · rw [← h]; exact List.mem_of_getElem? z_cw_142
  rcases Nat.eq_or_lt_of_le h1 with h | h1
  · rw [← h]; exact List.mem_of_getElem? z_cw_143
  rcases Nat.eq_or_lt_of_le h1 with h | h1
  · rw [← h]; exact List.mem_of_getElem? z_cw_144
  rcases Nat.eq_or_lt_of_le h1 with h | h1
  · rw [← h]; exact List.mem_of_getElem? z_cw_145
  rcases Nat.eq_or_lt_of_le h1 with h | h1
  · rw [← h]; exact List.mem_of_getElem? z_cw_146
  rcases Nat.eq_or_lt_of_le h1 with h | h1
  · rw [← h]; exact List.mem_of_getElem? z_cw_147
  rcases Nat.eq_or_lt_of_le h1 with h | h1
  · rw [← h]; exact List.mem_of_getElem? z_cw_148
  rcases Nat.eq_or_lt_of_le h1 with h | h1
  · rw [← h]; exact List.mem_of_getElem? z_cw_149
  rcases Nat.eq_or_lt_of_le h1 with h | h1
  · rw [← h]; exact List.mem_of_getElem? z_cw_150
  omega
theorem z_cw {m : Nat} (hm : m < 151) : z_codeW m ∈ lw_tbl := by
  rcases Nat.lt_or_ge m 20 with h | h
  · exact z_cwa_0 m (by omega) h
  rcases Nat.lt_or_ge m 40 with h | h
  · exact z_cwa_20 m (by omega) h
  rcases Nat.lt_or_ge m 60 with h | h
  · exact z_cwa_40 m (by omega) h
  rcases Nat.lt_or_ge m 80 with h | h
  · exact z_cwa_60 m (by omega) h
  rcases Nat.lt_or_ge m 100 with h | h
  · exact z_cwa_80 m (by omega) h
  rcases Nat.lt_or_ge m 120 with h | h
  · exact z_cwa_100 m (by omega) h
  rcases Nat.lt_or_ge m 140 with h | h
  · exact z_cwa_120 m (by omega) h
  rcases Nat.lt_or_ge m 151 with h | h
  · exact z_cwa_140 m (by omega) h
  omega
