def cwz (y : Nat) : Cond := match hh y with
  | none => .code (mn y) (bc y) (mL y) (rt y)
  | some T => .codeWith (mn y) (bc y) (mL y) (rt y) T
theorem tb_1 {w : Cond} (h : w ∈ tables_1_1) : w ∈ lw_tbl := List.mem_append_right _ (List.mem_append_left _ h)
theorem tb_2 {w : Cond} (h : w ∈ tables_1_2) : w ∈ lw_tbl := List.mem_append_right _ (List.mem_append_right _ (List.mem_append_left _ h))
theorem tb_3 {w : Cond} (h : w ∈ tables_1_3) : w ∈ lw_tbl := List.mem_append_right _ (List.mem_append_right _ (List.mem_append_right _ (List.mem_append_left _ h)))
theorem tb_4 {w : Cond} (h : w ∈ tables_1_4) : w ∈ lw_tbl := List.mem_append_right _ (List.mem_append_right _ (List.mem_append_right _ (List.mem_append_right _ (List.mem_append_left _ h))))
theorem tb_5 {w : Cond} (h : w ∈ tables_1_5) : w ∈ lw_tbl := List.mem_append_right _ (List.mem_append_right _ (List.mem_append_right _ (List.mem_append_right _ (List.mem_append_right _ (List.mem_append_left _ h)))))
theorem tb_6 {w : Cond} (h : w ∈ tables_1_6) : w ∈ lw_tbl := List.mem_append_right _ (List.mem_append_right _ (List.mem_append_right _ (List.mem_append_right _ (List.mem_append_right _ (List.mem_append_right _ (List.mem_append_left _ h))))))
theorem tb_7 {w : Cond} (h : w ∈ tables_1_7) : w ∈ lw_tbl := List.mem_append_right _ (List.mem_append_right _ (List.mem_append_right _ (List.mem_append_right _ (List.mem_append_right _ (List.mem_append_right _ (List.mem_append_right _ (h)))))))
theorem mc_0 : cwz 0 ∈ lw_tbl := tb_1 (List.mem_of_getElem? (i := 172) rfl)
theorem mc_1 : cwz 1 ∈ lw_tbl := tb_4 (List.mem_of_getElem? (i := 194) rfl)
theorem mc_2 : cwz 2 ∈ lw_tbl := tb_3 (List.mem_of_getElem? (i := 229) rfl)
theorem mc_3 : cwz 3 ∈ lw_tbl := tb_3 (List.mem_of_getElem? (i := 145) rfl)
theorem mc_4 : cwz 4 ∈ lw_tbl := tb_4 (List.mem_of_getElem? (i := 33) rfl)
theorem mc_5 : cwz 5 ∈ lw_tbl := tb_1 (List.mem_of_getElem? (i := 33) rfl)
theorem mc_6 : cwz 6 ∈ lw_tbl := tb_2 (List.mem_of_getElem? (i := 209) rfl)
theorem mc_7 : cwz 7 ∈ lw_tbl := tb_3 (List.mem_of_getElem? (i := 24) rfl)
theorem mc_8 : cwz 8 ∈ lw_tbl := tb_3 (List.mem_of_getElem? (i := 32) rfl)
theorem mc_9 : cwz 9 ∈ lw_tbl := tb_3 (List.mem_of_getElem? (i := 28) rfl)
theorem mc_10 : cwz 10 ∈ lw_tbl := tb_3 (List.mem_of_getElem? (i := 52) rfl)
theorem mc_11 : cwz 11 ∈ lw_tbl := tb_3 (List.mem_of_getElem? (i := 86) rfl)
theorem mc_12 : cwz 12 ∈ lw_tbl := tb_3 (List.mem_of_getElem? (i := 150) rfl)
theorem mc_13 : cwz 13 ∈ lw_tbl := tb_3 (List.mem_of_getElem? (i := 163) rfl)
theorem mc_14 : cwz 14 ∈ lw_tbl := tb_3 (List.mem_of_getElem? (i := 167) rfl)
theorem mc_15 : cwz 15 ∈ lw_tbl := tb_3 (List.mem_of_getElem? (i := 172) rfl)
theorem mc_16 : cwz 16 ∈ lw_tbl := tb_1 (List.mem_of_getElem? (i := 230) rfl)
theorem mc_17 : cwz 17 ∈ lw_tbl := tb_4 (List.mem_of_getElem? (i := 128) rfl)
theorem mc_18 : cwz 18 ∈ lw_tbl := tb_4 (List.mem_of_getElem? (i := 139) rfl)
theorem mc_19 : cwz 19 ∈ lw_tbl := tb_4 (List.mem_of_getElem? (i := 143) rfl)
theorem mc_20 : cwz 20 ∈ lw_tbl := tb_3 (List.mem_of_getElem? (i := 140) rfl)
theorem mc_21 : cwz 21 ∈ lw_tbl := tb_4 (List.mem_of_getElem? (i := 201) rfl)
theorem mc_22 : cwz 22 ∈ lw_tbl := tb_1 (List.mem_of_getElem? (i := 190) rfl)
theorem mc_23 : cwz 23 ∈ lw_tbl := tb_4 (List.mem_of_getElem? (i := 59) rfl)
theorem mc_24 : cwz 24 ∈ lw_tbl := tb_4 (List.mem_of_getElem? (i := 51) rfl)
theorem mc_25 : cwz 25 ∈ lw_tbl := tb_4 (List.mem_of_getElem? (i := 88) rfl)
theorem mc_26 : cwz 26 ∈ lw_tbl := tb_4 (List.mem_of_getElem? (i := 84) rfl)
theorem mc_27 : cwz 27 ∈ lw_tbl := tb_4 (List.mem_of_getElem? (i := 108) rfl)
theorem mc_28 : cwz 28 ∈ lw_tbl := tb_4 (List.mem_of_getElem? (i := 93) rfl)
theorem mc_29 : cwz 29 ∈ lw_tbl := tb_1 (List.mem_of_getElem? (i := 148) rfl)
theorem mc_30 : cwz 30 ∈ lw_tbl := tb_4 (List.mem_of_getElem? (i := 8) rfl)
theorem mc_31 : cwz 31 ∈ lw_tbl := tb_3 (List.mem_of_getElem? (i := 136) rfl)
theorem mc_32 : cwz 32 ∈ lw_tbl := tb_1 (List.mem_of_getElem? (i := 238) rfl)
theorem mc_33 : cwz 33 ∈ lw_tbl := tb_4 (List.mem_of_getElem? (i := 148) rfl)
theorem mc_34 : cwz 34 ∈ lw_tbl := tb_4 (List.mem_of_getElem? (i := 156) rfl)
theorem mc_35 : cwz 35 ∈ lw_tbl := tb_4 (List.mem_of_getElem? (i := 205) rfl)
theorem mc_36 : cwz 36 ∈ lw_tbl := tb_4 (List.mem_of_getElem? (i := 152) rfl)
theorem mc_37 : cwz 37 ∈ lw_tbl := tb_2 (List.mem_of_getElem? (i := 55) rfl)
theorem mc_38 : cwz 38 ∈ lw_tbl := tb_4 (List.mem_of_getElem? (i := 238) rfl)
theorem mc_39 : cwz 39 ∈ lw_tbl := tb_5 (List.mem_of_getElem? (i := 40) rfl)
theorem mc_40 : cwz 40 ∈ lw_tbl := tb_5 (List.mem_of_getElem? (i := 29) rfl)
theorem mc_41 : cwz 41 ∈ lw_tbl := tb_5 (List.mem_of_getElem? (i := 2) rfl)
theorem mc_42 : cwz 42 ∈ lw_tbl := tb_5 (List.mem_of_getElem? (i := 6) rfl)
theorem mc_43 : cwz 43 ∈ lw_tbl := tb_5 (List.mem_of_getElem? (i := 11) rfl)
theorem mc_44 : cwz 44 ∈ lw_tbl := tb_5 (List.mem_of_getElem? (i := 20) rfl)
theorem mc_45 : cwz 45 ∈ lw_tbl := tb_5 (List.mem_of_getElem? (i := 15) rfl)
theorem mc_46 : cwz 46 ∈ lw_tbl := tb_5 (List.mem_of_getElem? (i := 24) rfl)
theorem mc_47 : cwz 47 ∈ lw_tbl := tb_1 (List.mem_of_getElem? (i := 89) rfl)
theorem mc_48 : cwz 48 ∈ lw_tbl := tb_3 (List.mem_of_getElem? (i := 159) rfl)
theorem mc_49 : cwz 49 ∈ lw_tbl := tb_3 (List.mem_of_getElem? (i := 195) rfl)
theorem mc_50 : cwz 50 ∈ lw_tbl := tb_3 (List.mem_of_getElem? (i := 199) rfl)
theorem mc_51 : cwz 51 ∈ lw_tbl := tb_3 (List.mem_of_getElem? (i := 214) rfl)
theorem mc_52 : cwz 52 ∈ lw_tbl := tb_3 (List.mem_of_getElem? (i := 233) rfl)
theorem mc_53 : cwz 53 ∈ lw_tbl := tb_3 (List.mem_of_getElem? (i := 237) rfl)
theorem mc_54 : cwz 54 ∈ lw_tbl := tb_3 (List.mem_of_getElem? (i := 180) rfl)
theorem mc_55 : cwz 55 ∈ lw_tbl := tb_3 (List.mem_of_getElem? (i := 185) rfl)
theorem mc_56 : cwz 56 ∈ lw_tbl := tb_1 (List.mem_of_getElem? (i := 126) rfl)
theorem mc_57 : cwz 57 ∈ lw_tbl := tb_3 (List.mem_of_getElem? (i := 121) rfl)
theorem mc_58 : cwz 58 ∈ lw_tbl := tb_1 (List.mem_of_getElem? (i := 25) rfl)
theorem mc_59 : cwz 59 ∈ lw_tbl := tb_2 (List.mem_of_getElem? (i := 134) rfl)
theorem mc_60 : cwz 60 ∈ lw_tbl := tb_2 (List.mem_of_getElem? (i := 218) rfl)
theorem mc_61 : cwz 61 ∈ lw_tbl := tb_3 (List.mem_of_getElem? (i := 45) rfl)
theorem mc_62 : cwz 62 ∈ lw_tbl := tb_3 (List.mem_of_getElem? (i := 59) rfl)
theorem mc_63 : cwz 63 ∈ lw_tbl := tb_3 (List.mem_of_getElem? (i := 82) rfl)
theorem mc_64 : cwz 64 ∈ lw_tbl := tb_3 (List.mem_of_getElem? (i := 96) rfl)
theorem mc_65 : cwz 65 ∈ lw_tbl := tb_3 (List.mem_of_getElem? (i := 103) rfl)
theorem mc_66 : cwz 66 ∈ lw_tbl := tb_3 (List.mem_of_getElem? (i := 117) rfl)
theorem mc_67 : cwz 67 ∈ lw_tbl := tb_3 (List.mem_of_getElem? (i := 128) rfl)
theorem mc_68 : cwz 68 ∈ lw_tbl := tb_3 (List.mem_of_getElem? (i := 206) rfl)
theorem mc_69 : cwz 69 ∈ lw_tbl := tb_3 (List.mem_of_getElem? (i := 221) rfl)
theorem mc_70 : cwz 70 ∈ lw_tbl := tb_4 (List.mem_of_getElem? (i := 4) rfl)
theorem mc_71 : cwz 71 ∈ lw_tbl := tb_4 (List.mem_of_getElem? (i := 15) rfl)
theorem mc_72 : cwz 72 ∈ lw_tbl := tb_4 (List.mem_of_getElem? (i := 22) rfl)
theorem mc_73 : cwz 73 ∈ lw_tbl := tb_4 (List.mem_of_getElem? (i := 29) rfl)
theorem mc_74 : cwz 74 ∈ lw_tbl := tb_4 (List.mem_of_getElem? (i := 40) rfl)
theorem mc_75 : cwz 75 ∈ lw_tbl := tb_4 (List.mem_of_getElem? (i := 66) rfl)
theorem mc_76 : cwz 76 ∈ lw_tbl := tb_4 (List.mem_of_getElem? (i := 73) rfl)
theorem mc_77 : cwz 77 ∈ lw_tbl := tb_4 (List.mem_of_getElem? (i := 80) rfl)
theorem mc_78 : cwz 78 ∈ lw_tbl := tb_4 (List.mem_of_getElem? (i := 103) rfl)
theorem mc_79 : cwz 79 ∈ lw_tbl := tb_4 (List.mem_of_getElem? (i := 117) rfl)
theorem mc_80 : cwz 80 ∈ lw_tbl := tb_4 (List.mem_of_getElem? (i := 124) rfl)
theorem mc_81 : cwz 81 ∈ lw_tbl := tb_4 (List.mem_of_getElem? (i := 135) rfl)
theorem mc_82 : cwz 82 ∈ lw_tbl := tb_4 (List.mem_of_getElem? (i := 164) rfl)
theorem mc_83 : cwz 83 ∈ lw_tbl := tb_4 (List.mem_of_getElem? (i := 176) rfl)
theorem mc_84 : cwz 84 ∈ lw_tbl := tb_4 (List.mem_of_getElem? (i := 183) rfl)
theorem mc_85 : cwz 85 ∈ lw_tbl := tb_4 (List.mem_of_getElem? (i := 190) rfl)
theorem mc_86 : cwz 86 ∈ lw_tbl := tb_4 (List.mem_of_getElem? (i := 212) rfl)
theorem mc_87 : cwz 87 ∈ lw_tbl := tb_4 (List.mem_of_getElem? (i := 219) rfl)
theorem mc_88 : cwz 88 ∈ lw_tbl := tb_4 (List.mem_of_getElem? (i := 227) rfl)
theorem mc_89 : cwz 89 ∈ lw_tbl := tb_4 (List.mem_of_getElem? (i := 234) rfl)
theorem mc_90 : cwz 90 ∈ lw_tbl := tb_5 (List.mem_of_getElem? (i := 36) rfl)
theorem mc_91 : cwz 91 ∈ lw_tbl := tb_2 (List.mem_of_getElem? (i := 225) rfl)
theorem mc_92 : cwz 92 ∈ lw_tbl := tb_3 (List.mem_of_getElem? (i := 4) rfl)
theorem mc_93 : cwz 93 ∈ lw_tbl := tb_2 (List.mem_of_getElem? (i := 137) rfl)
theorem mc_94 : cwz 94 ∈ lw_tbl := tb_2 (List.mem_of_getElem? (i := 222) rfl)
theorem mc_95 : cwz 95 ∈ lw_tbl := tb_3 (List.mem_of_getElem? (i := 63) rfl)
theorem mc_96 : cwz 96 ∈ lw_tbl := tb_3 (List.mem_of_getElem? (i := 225) rfl)
theorem mc_97 : cwz 97 ∈ lw_tbl := tb_4 (List.mem_of_getElem? (i := 44) rfl)
theorem mc_98 : cwz 98 ∈ lw_tbl := tb_4 (List.mem_of_getElem? (i := 168) rfl)
theorem mc_99 : cwz 99 ∈ lw_tbl := tb_3 (List.mem_of_getElem? (i := 48) rfl)
theorem mc_100 : cwz 100 ∈ lw_tbl := tb_4 (List.mem_of_getElem? (i := 47) rfl)
theorem mc_101 : cwz 101 ∈ lw_tbl := tb_3 (List.mem_of_getElem? (i := 89) rfl)
theorem mc_102 : cwz 102 ∈ lw_tbl := tb_3 (List.mem_of_getElem? (i := 71) rfl)
theorem mc_103 : cwz 103 ∈ lw_tbl := tb_3 (List.mem_of_getElem? (i := 75) rfl)
theorem mc_104 : cwz 104 ∈ lw_tbl := tb_3 (List.mem_of_getElem? (i := 67) rfl)
theorem mc_105 : cwz 105 ∈ lw_tbl := tb_3 (List.mem_of_getElem? (i := 107) rfl)
theorem mc_106 : cwz 106 ∈ lw_tbl := tb_3 (List.mem_of_getElem? (i := 132) rfl)
theorem mc_107 : cwz 107 ∈ lw_tbl := tb_3 (List.mem_of_getElem? (i := 155) rfl)
theorem mc_108 : cwz 108 ∈ lw_tbl := tb_3 (List.mem_of_getElem? (i := 176) rfl)
theorem mc_109 : cwz 109 ∈ lw_tbl := tb_3 (List.mem_of_getElem? (i := 191) rfl)
theorem mc_110 : cwz 110 ∈ lw_tbl := tb_3 (List.mem_of_getElem? (i := 210) rfl)
theorem mc_111 : cwz 111 ∈ lw_tbl := tb_5 (List.mem_of_getElem? (i := 45) rfl)
theorem mc_112 : cwz 112 ∈ lw_tbl := tb_5 (List.mem_of_getElem? (i := 225) rfl)
theorem mc_113 : cwz 113 ∈ lw_tbl := tb_5 (List.mem_of_getElem? (i := 233) rfl)
theorem mc_114 : cwz 114 ∈ lw_tbl := tb_6 (List.mem_of_getElem? (i := 4) rfl)
theorem mc_115 : cwz 115 ∈ lw_tbl := tb_6 (List.mem_of_getElem? (i := 7) rfl)
theorem mc_116 : cwz 116 ∈ lw_tbl := tb_6 (List.mem_of_getElem? (i := 14) rfl)
theorem mc_117 : cwz 117 ∈ lw_tbl := tb_6 (List.mem_of_getElem? (i := 1) rfl)
theorem mc_118 : cwz 118 ∈ lw_tbl := tb_6 (List.mem_of_getElem? (i := 26) rfl)
theorem mc_119 : cwz 119 ∈ lw_tbl := tb_6 (List.mem_of_getElem? (i := 104) rfl)
theorem mc_120 : cwz 120 ∈ lw_tbl := tb_5 (List.mem_of_getElem? (i := 229) rfl)
theorem mc_121 : cwz 121 ∈ lw_tbl := tb_6 (List.mem_of_getElem? (i := 11) rfl)
theorem mc_122 : cwz 122 ∈ lw_tbl := tb_5 (List.mem_of_getElem? (i := 237) rfl)
theorem mc_123 : cwz 123 ∈ lw_tbl := tb_6 (List.mem_of_getElem? (i := 18) rfl)
theorem mc_124 : cwz 124 ∈ lw_tbl := tb_6 (List.mem_of_getElem? (i := 30) rfl)
theorem mc_125 : cwz 125 ∈ lw_tbl := tb_6 (List.mem_of_getElem? (i := 22) rfl)
theorem mc_126 : cwz 126 ∈ lw_tbl := tb_6 (List.mem_of_getElem? (i := 34) rfl)
theorem mc_127 : cwz 127 ∈ lw_tbl := tb_6 (List.mem_of_getElem? (i := 38) rfl)
theorem mc_128 : cwz 128 ∈ lw_tbl := tb_6 (List.mem_of_getElem? (i := 46) rfl)
theorem mc_129 : cwz 129 ∈ lw_tbl := tb_6 (List.mem_of_getElem? (i := 42) rfl)
theorem mc_130 : cwz 130 ∈ lw_tbl := tb_6 (List.mem_of_getElem? (i := 79) rfl)
theorem mc_131 : cwz 131 ∈ lw_tbl := tb_6 (List.mem_of_getElem? (i := 91) rfl)
theorem mc_132 : cwz 132 ∈ lw_tbl := tb_6 (List.mem_of_getElem? (i := 87) rfl)
theorem mc_133 : cwz 133 ∈ lw_tbl := tb_6 (List.mem_of_getElem? (i := 83) rfl)
theorem mc_134 : cwz 134 ∈ lw_tbl := tb_6 (List.mem_of_getElem? (i := 50) rfl)
theorem mc_135 : cwz 135 ∈ lw_tbl := tb_6 (List.mem_of_getElem? (i := 62) rfl)
theorem mc_136 : cwz 136 ∈ lw_tbl := tb_6 (List.mem_of_getElem? (i := 66) rfl)
theorem mc_137 : cwz 137 ∈ lw_tbl := tb_6 (List.mem_of_getElem? (i := 74) rfl)
theorem mc_138 : cwz 138 ∈ lw_tbl := tb_6 (List.mem_of_getElem? (i := 70) rfl)
theorem mc_139 : cwz 139 ∈ lw_tbl := tb_6 (List.mem_of_getElem? (i := 58) rfl)
theorem mc_140 : cwz 140 ∈ lw_tbl := tb_6 (List.mem_of_getElem? (i := 54) rfl)
theorem mc_141 : cwz 141 ∈ lw_tbl := tb_6 (List.mem_of_getElem? (i := 97) rfl)
theorem mc_142 : cwz 142 ∈ lw_tbl := tb_6 (List.mem_of_getElem? (i := 101) rfl)
theorem mc_143 : cwz 143 ∈ lw_tbl := tb_6 (List.mem_of_getElem? (i := 108) rfl)
theorem mc_144 : cwz 144 ∈ lw_tbl := tb_6 (List.mem_of_getElem? (i := 112) rfl)
theorem mc_145 : cwz 145 ∈ lw_tbl := tb_6 (List.mem_of_getElem? (i := 116) rfl)
theorem mc_146 : cwz 146 ∈ lw_tbl := tb_6 (List.mem_of_getElem? (i := 120) rfl)
theorem mc_147 : cwz 147 ∈ lw_tbl := tb_6 (List.mem_of_getElem? (i := 128) rfl)
theorem mc_148 : cwz 148 ∈ lw_tbl := tb_6 (List.mem_of_getElem? (i := 124) rfl)
theorem mc_149 : cwz 149 ∈ lw_tbl := tb_6 (List.mem_of_getElem? (i := 136) rfl)
theorem mc_150 : cwz 150 ∈ lw_tbl := tb_6 (List.mem_of_getElem? (i := 132) rfl)
theorem mc_151 : cwz 151 ∈ lw_tbl := tb_6 (List.mem_of_getElem? (i := 140) rfl)
theorem mc_152 : cwz 152 ∈ lw_tbl := tb_6 (List.mem_of_getElem? (i := 158) rfl)
theorem mc_153 : cwz 153 ∈ lw_tbl := tb_6 (List.mem_of_getElem? (i := 155) rfl)
theorem mc_154 : cwz 154 ∈ lw_tbl := tb_6 (List.mem_of_getElem? (i := 151) rfl)
theorem mc_155 : cwz 155 ∈ lw_tbl := tb_6 (List.mem_of_getElem? (i := 147) rfl)
theorem mc_156 : cwz 156 ∈ lw_tbl := tb_6 (List.mem_of_getElem? (i := 144) rfl)
theorem mc_157 : cwz 157 ∈ lw_tbl := tb_6 (List.mem_of_getElem? (i := 163) rfl)
theorem mc_158 : cwz 158 ∈ lw_tbl := tb_6 (List.mem_of_getElem? (i := 167) rfl)
theorem mc_159 : cwz 159 ∈ lw_tbl := tb_6 (List.mem_of_getElem? (i := 175) rfl)
theorem mc_160 : cwz 160 ∈ lw_tbl := tb_6 (List.mem_of_getElem? (i := 179) rfl)
theorem mc_161 : cwz 161 ∈ lw_tbl := tb_6 (List.mem_of_getElem? (i := 171) rfl)
theorem mc_162 : cwz 162 ∈ lw_tbl := tb_6 (List.mem_of_getElem? (i := 183) rfl)
theorem mc_163 : cwz 163 ∈ lw_tbl := tb_6 (List.mem_of_getElem? (i := 191) rfl)
theorem mc_164 : cwz 164 ∈ lw_tbl := tb_6 (List.mem_of_getElem? (i := 187) rfl)
theorem mc_165 : cwz 165 ∈ lw_tbl := tb_6 (List.mem_of_getElem? (i := 195) rfl)
theorem mc_166 : cwz 166 ∈ lw_tbl := tb_6 (List.mem_of_getElem? (i := 199) rfl)
theorem mc_167 : cwz 167 ∈ lw_tbl := tb_6 (List.mem_of_getElem? (i := 203) rfl)
theorem mc_168 : cwz 168 ∈ lw_tbl := tb_6 (List.mem_of_getElem? (i := 207) rfl)
theorem mc_169 : cwz 169 ∈ lw_tbl := tb_6 (List.mem_of_getElem? (i := 211) rfl)
theorem mc_170 : cwz 170 ∈ lw_tbl := tb_6 (List.mem_of_getElem? (i := 215) rfl)
theorem mc_171 : cwz 171 ∈ lw_tbl := tb_6 (List.mem_of_getElem? (i := 235) rfl)
theorem mc_172 : cwz 172 ∈ lw_tbl := tb_6 (List.mem_of_getElem? (i := 231) rfl)
theorem mc_173 : cwz 173 ∈ lw_tbl := tb_6 (List.mem_of_getElem? (i := 227) rfl)
theorem mc_174 : cwz 174 ∈ lw_tbl := tb_6 (List.mem_of_getElem? (i := 239) rfl)
theorem mc_175 : cwz 175 ∈ lw_tbl := tb_7 (List.mem_of_getElem? (i := 3) rfl)
theorem mc_176 : cwz 176 ∈ lw_tbl := tb_6 (List.mem_of_getElem? (i := 223) rfl)
theorem mc_177 : cwz 177 ∈ lw_tbl := tb_6 (List.mem_of_getElem? (i := 219) rfl)
theorem mc_178 : cwz 178 ∈ lw_tbl := tb_7 (List.mem_of_getElem? (i := 7) rfl)
theorem mc_179 : cwz 179 ∈ lw_tbl := tb_3 (List.mem_of_getElem? (i := 35) rfl)
theorem mc_180 : cwz 180 ∈ lw_tbl := tb_4 (List.mem_of_getElem? (i := 197) rfl)
theorem mc_181 : cwz 181 ∈ lw_tbl := tb_1 (List.mem_of_getElem? (i := 39) rfl)
theorem mc_182 : cwz 182 ∈ lw_tbl := tb_2 (List.mem_of_getElem? (i := 129) rfl)
theorem mc_183 : cwz 183 ∈ lw_tbl := tb_2 (List.mem_of_getElem? (i := 212) rfl)
theorem mc_184 : cwz 184 ∈ lw_tbl := tb_3 (List.mem_of_getElem? (i := 41) rfl)
theorem mc_185 : cwz 185 ∈ lw_tbl := tb_3 (List.mem_of_getElem? (i := 55) rfl)
theorem mc_186 : cwz 186 ∈ lw_tbl := tb_3 (List.mem_of_getElem? (i := 78) rfl)
theorem mc_187 : cwz 187 ∈ lw_tbl := tb_3 (List.mem_of_getElem? (i := 92) rfl)
theorem mc_188 : cwz 188 ∈ lw_tbl := tb_3 (List.mem_of_getElem? (i := 99) rfl)
theorem mc_189 : cwz 189 ∈ lw_tbl := tb_3 (List.mem_of_getElem? (i := 113) rfl)
theorem mc_190 : cwz 190 ∈ lw_tbl := tb_3 (List.mem_of_getElem? (i := 124) rfl)
theorem mc_191 : cwz 191 ∈ lw_tbl := tb_3 (List.mem_of_getElem? (i := 202) rfl)
theorem mc_192 : cwz 192 ∈ lw_tbl := tb_3 (List.mem_of_getElem? (i := 217) rfl)
theorem mc_193 : cwz 193 ∈ lw_tbl := tb_4 (List.mem_of_getElem? (i := 0) rfl)
theorem mc_194 : cwz 194 ∈ lw_tbl := tb_4 (List.mem_of_getElem? (i := 11) rfl)
theorem mc_195 : cwz 195 ∈ lw_tbl := tb_4 (List.mem_of_getElem? (i := 18) rfl)
theorem mc_196 : cwz 196 ∈ lw_tbl := tb_4 (List.mem_of_getElem? (i := 25) rfl)
theorem mc_197 : cwz 197 ∈ lw_tbl := tb_4 (List.mem_of_getElem? (i := 36) rfl)
theorem mc_198 : cwz 198 ∈ lw_tbl := tb_4 (List.mem_of_getElem? (i := 62) rfl)
theorem mc_199 : cwz 199 ∈ lw_tbl := tb_4 (List.mem_of_getElem? (i := 69) rfl)
theorem mc_200 : cwz 200 ∈ lw_tbl := tb_4 (List.mem_of_getElem? (i := 76) rfl)
theorem mc_201 : cwz 201 ∈ lw_tbl := tb_4 (List.mem_of_getElem? (i := 99) rfl)
theorem mc_202 : cwz 202 ∈ lw_tbl := tb_4 (List.mem_of_getElem? (i := 113) rfl)
theorem mc_203 : cwz 203 ∈ lw_tbl := tb_4 (List.mem_of_getElem? (i := 120) rfl)
theorem mc_204 : cwz 204 ∈ lw_tbl := tb_4 (List.mem_of_getElem? (i := 131) rfl)
theorem mc_205 : cwz 205 ∈ lw_tbl := tb_4 (List.mem_of_getElem? (i := 160) rfl)
theorem mc_206 : cwz 206 ∈ lw_tbl := tb_4 (List.mem_of_getElem? (i := 172) rfl)
theorem mc_207 : cwz 207 ∈ lw_tbl := tb_4 (List.mem_of_getElem? (i := 179) rfl)
theorem mc_208 : cwz 208 ∈ lw_tbl := tb_4 (List.mem_of_getElem? (i := 186) rfl)
theorem mc_209 : cwz 209 ∈ lw_tbl := tb_4 (List.mem_of_getElem? (i := 208) rfl)
theorem mc_210 : cwz 210 ∈ lw_tbl := tb_4 (List.mem_of_getElem? (i := 215) rfl)
theorem mc_211 : cwz 211 ∈ lw_tbl := tb_4 (List.mem_of_getElem? (i := 223) rfl)
theorem mc_212 : cwz 212 ∈ lw_tbl := tb_4 (List.mem_of_getElem? (i := 230) rfl)
theorem mc_213 : cwz 213 ∈ lw_tbl := tb_5 (List.mem_of_getElem? (i := 32) rfl)
theorem mm_max_c : Cond.code Lib.Math.max.name Lib.Math.max.code 2 (some .int) ∈ BIG := List.mem_filter.mpr ⟨tb_4 (List.mem_of_getElem? (i := 54) rfl), rfl⟩
theorem mm_max_s : Cond.static Lib.Math.max.name ∈ BIG := wOK_spec (d := 827) (by decide +kernel)
theorem mm_min_c : Cond.code Lib.Math.min.name Lib.Math.min.code 2 (some .int) ∈ BIG := List.mem_filter.mpr ⟨tb_3 (List.mem_of_getElem? (i := 110) rfl), rfl⟩
theorem mm_min_s : Cond.static Lib.Math.min.name ∈ BIG := wOK_spec (d := 643) (by decide +kernel)
theorem mm_i : Cond.initialized "java/lang/Math" ∈ BIG := wOK_spec (d := 74) (by decide +kernel)
theorem cw_in {z : Nat} (hz : z < 214) : cwz z ∈ lw_tbl := by
  by_cases q : z < 107
  · by_cases q : z < 53
    · by_cases q : z < 26
      · by_cases q : z < 13
        · by_cases q : z < 6
          · by_cases q : z < 3
            · by_cases q : z < 1
              · have e : z = 0 := by omega
                subst e
                exact mc_0
              · by_cases q : z < 2
                · have e : z = 1 := by omega
                  subst e
                  exact mc_1
                · have e : z = 2 := by omega
                  subst e
                  exact mc_2
            · by_cases q : z < 4
              · have e : z = 3 := by omega
                subst e
                exact mc_3
              · by_cases q : z < 5
                · have e : z = 4 := by omega
                  subst e
                  exact mc_4
                · have e : z = 5 := by omega
                  subst e
                  exact mc_5
          · by_cases q : z < 9
            · by_cases q : z < 7
              · have e : z = 6 := by omega
                subst e
                exact mc_6
              · by_cases q : z < 8
                · have e : z = 7 := by omega
                  subst e
                  exact mc_7
                · have e : z = 8 := by omega
                  subst e
                  exact mc_8
            · by_cases q : z < 11
              · by_cases q : z < 10
                · have e : z = 9 := by omega
                  subst e
                  exact mc_9
                · have e : z = 10 := by omega
                  subst e
                  exact mc_10
              · by_cases q : z < 12
                · have e : z = 11 := by omega
                  subst e
                  exact mc_11
                · have e : z = 12 := by omega
                  subst e
                  exact mc_12
        · by_cases q : z < 19
          · by_cases q : z < 16
            · by_cases q : z < 14
              · have e : z = 13 := by omega
                subst e
                exact mc_13
              · by_cases q : z < 15
                · have e : z = 14 := by omega
                  subst e
                  exact mc_14
                · have e : z = 15 := by omega
                  subst e
                  exact mc_15
            · by_cases q : z < 17
              · have e : z = 16 := by omega
                subst e
                exact mc_16
              · by_cases q : z < 18
                · have e : z = 17 := by omega
                  subst e
                  exact mc_17
                · have e : z = 18 := by omega
                  subst e
                  exact mc_18
          · by_cases q : z < 22
            · by_cases q : z < 20
              · have e : z = 19 := by omega
                subst e
                exact mc_19
              · by_cases q : z < 21
                · have e : z = 20 := by omega
                  subst e
                  exact mc_20
                · have e : z = 21 := by omega
                  subst e
                  exact mc_21
            · by_cases q : z < 24
              · by_cases q : z < 23
                · have e : z = 22 := by omega
                  subst e
                  exact mc_22
                · have e : z = 23 := by omega
                  subst e
                  exact mc_23
              · by_cases q : z < 25
                · have e : z = 24 := by omega
                  subst e
                  exact mc_24
                · have e : z = 25 := by omega
                  subst e
                  exact mc_25
      · by_cases q : z < 39
        · by_cases q : z < 32
          · by_cases q : z < 29
            · by_cases q : z < 27
              · have e : z = 26 := by omega
                subst e
                exact mc_26
              · by_cases q : z < 28
                · have e : z = 27 := by omega
                  subst e
                  exact mc_27
                · have e : z = 28 := by omega
                  subst e
                  exact mc_28
            · by_cases q : z < 30
              · have e : z = 29 := by omega
                subst e
                exact mc_29
              · by_cases q : z < 31
                · have e : z = 30 := by omega
                  subst e
                  exact mc_30
                · have e : z = 31 := by omega
                  subst e
                  exact mc_31
          · by_cases q : z < 35
            · by_cases q : z < 33
              · have e : z = 32 := by omega
                subst e
                exact mc_32
              · by_cases q : z < 34
                · have e : z = 33 := by omega
                  subst e
                  exact mc_33
                · have e : z = 34 := by omega
                  subst e
                  exact mc_34
            · by_cases q : z < 37
              · by_cases q : z < 36
                · have e : z = 35 := by omega
                  subst e
                  exact mc_35
                · have e : z = 36 := by omega
                  subst e
                  exact mc_36
              · by_cases q : z < 38
                · have e : z = 37 := by omega
                  subst e
                  exact mc_37
                · have e : z = 38 := by omega
                  subst e
                  exact mc_38
        · by_cases q : z < 46
          · by_cases q : z < 42
            · by_cases q : z < 40
              · have e : z = 39 := by omega
                subst e
                exact mc_39
              · by_cases q : z < 41
                · have e : z = 40 := by omega
                  subst e
                  exact mc_40
                · have e : z = 41 := by omega
                  subst e
                  exact mc_41
            · by_cases q : z < 44
              · by_cases q : z < 43
                · have e : z = 42 := by omega
                  subst e
                  exact mc_42
                · have e : z = 43 := by omega
                  subst e
                  exact mc_43
              · by_cases q : z < 45
                · have e : z = 44 := by omega
                  subst e
                  exact mc_44
                · have e : z = 45 := by omega
                  subst e
                  exact mc_45
          · by_cases q : z < 49
            · by_cases q : z < 47
              · have e : z = 46 := by omega
                subst e
                exact mc_46
              · by_cases q : z < 48
                · have e : z = 47 := by omega
                  subst e
                  exact mc_47
                · have e : z = 48 := by omega
                  subst e
                  exact mc_48
            · by_cases q : z < 51
              · by_cases q : z < 50
                · have e : z = 49 := by omega
                  subst e
                  exact mc_49
                · have e : z = 50 := by omega
                  subst e
                  exact mc_50
              · by_cases q : z < 52
                · have e : z = 51 := by omega
                  subst e
                  exact mc_51
                · have e : z = 52 := by omega
                  subst e
                  exact mc_52
    · by_cases q : z < 80
      · by_cases q : z < 66
        · by_cases q : z < 59
          · by_cases q : z < 56
            · by_cases q : z < 54
              · have e : z = 53 := by omega
                subst e
                exact mc_53
              · by_cases q : z < 55
                · have e : z = 54 := by omega
                  subst e
                  exact mc_54
                · have e : z = 55 := by omega
                  subst e
                  exact mc_55
            · by_cases q : z < 57
              · have e : z = 56 := by omega
                subst e
                exact mc_56
              · by_cases q : z < 58
                · have e : z = 57 := by omega
                  subst e
                  exact mc_57
                · have e : z = 58 := by omega
                  subst e
                  exact mc_58
          · by_cases q : z < 62
            · by_cases q : z < 60
              · have e : z = 59 := by omega
                subst e
                exact mc_59
              · by_cases q : z < 61
                · have e : z = 60 := by omega
                  subst e
                  exact mc_60
                · have e : z = 61 := by omega
                  subst e
                  exact mc_61
            · by_cases q : z < 64
              · by_cases q : z < 63
                · have e : z = 62 := by omega
                  subst e
                  exact mc_62
                · have e : z = 63 := by omega
                  subst e
                  exact mc_63
              · by_cases q : z < 65
                · have e : z = 64 := by omega
                  subst e
                  exact mc_64
                · have e : z = 65 := by omega
                  subst e
                  exact mc_65
        · by_cases q : z < 73
          · by_cases q : z < 69
            · by_cases q : z < 67
              · have e : z = 66 := by omega
                subst e
                exact mc_66
              · by_cases q : z < 68
                · have e : z = 67 := by omega
                  subst e
                  exact mc_67
                · have e : z = 68 := by omega
                  subst e
                  exact mc_68
            · by_cases q : z < 71
              · by_cases q : z < 70
                · have e : z = 69 := by omega
                  subst e
                  exact mc_69
                · have e : z = 70 := by omega
                  subst e
                  exact mc_70
              · by_cases q : z < 72
                · have e : z = 71 := by omega
                  subst e
                  exact mc_71
                · have e : z = 72 := by omega
                  subst e
                  exact mc_72
          · by_cases q : z < 76
            · by_cases q : z < 74
              · have e : z = 73 := by omega
                subst e
                exact mc_73
              · by_cases q : z < 75
                · have e : z = 74 := by omega
                  subst e
                  exact mc_74
                · have e : z = 75 := by omega
                  subst e
                  exact mc_75
            · by_cases q : z < 78
              · by_cases q : z < 77
                · have e : z = 76 := by omega
                  subst e
                  exact mc_76
                · have e : z = 77 := by omega
                  subst e
                  exact mc_77
              · by_cases q : z < 79
                · have e : z = 78 := by omega
                  subst e
                  exact mc_78
                · have e : z = 79 := by omega
                  subst e
                  exact mc_79
      · by_cases q : z < 93
        · by_cases q : z < 86
          · by_cases q : z < 83
            · by_cases q : z < 81
              · have e : z = 80 := by omega
                subst e
                exact mc_80
              · by_cases q : z < 82
                · have e : z = 81 := by omega
                  subst e
                  exact mc_81
                · have e : z = 82 := by omega
                  subst e
                  exact mc_82
            · by_cases q : z < 84
              · have e : z = 83 := by omega
                subst e
                exact mc_83
              · by_cases q : z < 85
                · have e : z = 84 := by omega
                  subst e
                  exact mc_84
                · have e : z = 85 := by omega
                  subst e
                  exact mc_85
          · by_cases q : z < 89
            · by_cases q : z < 87
              · have e : z = 86 := by omega
                subst e
                exact mc_86
              · by_cases q : z < 88
                · have e : z = 87 := by omega
                  subst e
                  exact mc_87
                · have e : z = 88 := by omega
                  subst e
                  exact mc_88
            · by_cases q : z < 91
              · by_cases q : z < 90
                · have e : z = 89 := by omega
                  subst e
                  exact mc_89
                · have e : z = 90 := by omega
                  subst e
                  exact mc_90
              · by_cases q : z < 92
                · have e : z = 91 := by omega
                  subst e
                  exact mc_91
                · have e : z = 92 := by omega
                  subst e
                  exact mc_92
        · by_cases q : z < 100
          · by_cases q : z < 96
            · by_cases q : z < 94
              · have e : z = 93 := by omega
                subst e
                exact mc_93
              · by_cases q : z < 95
                · have e : z = 94 := by omega
                  subst e
                  exact mc_94
                · have e : z = 95 := by omega
                  subst e
                  exact mc_95
            · by_cases q : z < 98
              · by_cases q : z < 97
                · have e : z = 96 := by omega
                  subst e
                  exact mc_96
                · have e : z = 97 := by omega
                  subst e
                  exact mc_97
              · by_cases q : z < 99
                · have e : z = 98 := by omega
                  subst e
                  exact mc_98
                · have e : z = 99 := by omega
                  subst e
                  exact mc_99
          · by_cases q : z < 103
            · by_cases q : z < 101
              · have e : z = 100 := by omega
                subst e
                exact mc_100
              · by_cases q : z < 102
                · have e : z = 101 := by omega
                  subst e
                  exact mc_101
                · have e : z = 102 := by omega
                  subst e
                  exact mc_102
            · by_cases q : z < 105
              · by_cases q : z < 104
                · have e : z = 103 := by omega
                  subst e
                  exact mc_103
                · have e : z = 104 := by omega
                  subst e
                  exact mc_104
              · by_cases q : z < 106
                · have e : z = 105 := by omega
                  subst e
                  exact mc_105
                · have e : z = 106 := by omega
                  subst e
                  exact mc_106
  · by_cases q : z < 160
    · by_cases q : z < 133
      · by_cases q : z < 120
        · by_cases q : z < 113
          · by_cases q : z < 110
            · by_cases q : z < 108
              · have e : z = 107 := by omega
                subst e
                exact mc_107
              · by_cases q : z < 109
                · have e : z = 108 := by omega
                  subst e
                  exact mc_108
                · have e : z = 109 := by omega
                  subst e
                  exact mc_109
            · by_cases q : z < 111
              · have e : z = 110 := by omega
                subst e
                exact mc_110
              · by_cases q : z < 112
                · have e : z = 111 := by omega
                  subst e
                  exact mc_111
                · have e : z = 112 := by omega
                  subst e
                  exact mc_112
          · by_cases q : z < 116
            · by_cases q : z < 114
              · have e : z = 113 := by omega
                subst e
                exact mc_113
              · by_cases q : z < 115
                · have e : z = 114 := by omega
                  subst e
                  exact mc_114
                · have e : z = 115 := by omega
                  subst e
                  exact mc_115
            · by_cases q : z < 118
              · by_cases q : z < 117
                · have e : z = 116 := by omega
                  subst e
                  exact mc_116
                · have e : z = 117 := by omega
                  subst e
                  exact mc_117
              · by_cases q : z < 119
                · have e : z = 118 := by omega
                  subst e
                  exact mc_118
                · have e : z = 119 := by omega
                  subst e
                  exact mc_119
        · by_cases q : z < 126
          · by_cases q : z < 123
            · by_cases q : z < 121
              · have e : z = 120 := by omega
                subst e
                exact mc_120
              · by_cases q : z < 122
                · have e : z = 121 := by omega
                  subst e
                  exact mc_121
                · have e : z = 122 := by omega
                  subst e
                  exact mc_122
            · by_cases q : z < 124
              · have e : z = 123 := by omega
                subst e
                exact mc_123
              · by_cases q : z < 125
                · have e : z = 124 := by omega
                  subst e
                  exact mc_124
                · have e : z = 125 := by omega
                  subst e
                  exact mc_125
          · by_cases q : z < 129
            · by_cases q : z < 127
              · have e : z = 126 := by omega
                subst e
                exact mc_126
              · by_cases q : z < 128
                · have e : z = 127 := by omega
                  subst e
                  exact mc_127
                · have e : z = 128 := by omega
                  subst e
                  exact mc_128
            · by_cases q : z < 131
              · by_cases q : z < 130
                · have e : z = 129 := by omega
                  subst e
                  exact mc_129
                · have e : z = 130 := by omega
                  subst e
                  exact mc_130
              · by_cases q : z < 132
                · have e : z = 131 := by omega
                  subst e
                  exact mc_131
                · have e : z = 132 := by omega
                  subst e
                  exact mc_132
      · by_cases q : z < 146
        · by_cases q : z < 139
          · by_cases q : z < 136
            · by_cases q : z < 134
              · have e : z = 133 := by omega
                subst e
                exact mc_133
              · by_cases q : z < 135
                · have e : z = 134 := by omega
                  subst e
                  exact mc_134
                · have e : z = 135 := by omega
                  subst e
                  exact mc_135
            · by_cases q : z < 137
              · have e : z = 136 := by omega
                subst e
                exact mc_136
              · by_cases q : z < 138
                · have e : z = 137 := by omega
                  subst e
                  exact mc_137
                · have e : z = 138 := by omega
                  subst e
                  exact mc_138
          · by_cases q : z < 142
            · by_cases q : z < 140
              · have e : z = 139 := by omega
                subst e
                exact mc_139
              · by_cases q : z < 141
                · have e : z = 140 := by omega
                  subst e
                  exact mc_140
                · have e : z = 141 := by omega
                  subst e
                  exact mc_141
            · by_cases q : z < 144
              · by_cases q : z < 143
                · have e : z = 142 := by omega
                  subst e
                  exact mc_142
                · have e : z = 143 := by omega
                  subst e
                  exact mc_143
              · by_cases q : z < 145
                · have e : z = 144 := by omega
                  subst e
                  exact mc_144
                · have e : z = 145 := by omega
                  subst e
                  exact mc_145
        · by_cases q : z < 153
          · by_cases q : z < 149
            · by_cases q : z < 147
              · have e : z = 146 := by omega
                subst e
                exact mc_146
              · by_cases q : z < 148
                · have e : z = 147 := by omega
                  subst e
                  exact mc_147
                · have e : z = 148 := by omega
                  subst e
                  exact mc_148
            · by_cases q : z < 151
              · by_cases q : z < 150
                · have e : z = 149 := by omega
                  subst e
                  exact mc_149
                · have e : z = 150 := by omega
                  subst e
                  exact mc_150
              · by_cases q : z < 152
                · have e : z = 151 := by omega
                  subst e
                  exact mc_151
                · have e : z = 152 := by omega
                  subst e
                  exact mc_152
          · by_cases q : z < 156
            · by_cases q : z < 154
              · have e : z = 153 := by omega
                subst e
                exact mc_153
              · by_cases q : z < 155
                · have e : z = 154 := by omega
                  subst e
                  exact mc_154
                · have e : z = 155 := by omega
                  subst e
                  exact mc_155
            · by_cases q : z < 158
              · by_cases q : z < 157
                · have e : z = 156 := by omega
                  subst e
                  exact mc_156
                · have e : z = 157 := by omega
                  subst e
                  exact mc_157
              · by_cases q : z < 159
                · have e : z = 158 := by omega
                  subst e
                  exact mc_158
                · have e : z = 159 := by omega
                  subst e
                  exact mc_159
    · by_cases q : z < 187
      · by_cases q : z < 173
        · by_cases q : z < 166
          · by_cases q : z < 163
            · by_cases q : z < 161
              · have e : z = 160 := by omega
                subst e
                exact mc_160
              · by_cases q : z < 162
                · have e : z = 161 := by omega
                  subst e
                  exact mc_161
                · have e : z = 162 := by omega
                  subst e
                  exact mc_162
            · by_cases q : z < 164
              · have e : z = 163 := by omega
                subst e
                exact mc_163
              · by_cases q : z < 165
                · have e : z = 164 := by omega
                  subst e
                  exact mc_164
                · have e : z = 165 := by omega
                  subst e
                  exact mc_165
          · by_cases q : z < 169
            · by_cases q : z < 167
              · have e : z = 166 := by omega
                subst e
                exact mc_166
              · by_cases q : z < 168
                · have e : z = 167 := by omega
                  subst e
                  exact mc_167
                · have e : z = 168 := by omega
                  subst e
                  exact mc_168
            · by_cases q : z < 171
              · by_cases q : z < 170
                · have e : z = 169 := by omega
                  subst e
                  exact mc_169
                · have e : z = 170 := by omega
                  subst e
                  exact mc_170
              · by_cases q : z < 172
                · have e : z = 171 := by omega
                  subst e
                  exact mc_171
                · have e : z = 172 := by omega
                  subst e
                  exact mc_172
        · by_cases q : z < 180
          · by_cases q : z < 176
            · by_cases q : z < 174
              · have e : z = 173 := by omega
                subst e
                exact mc_173
              · by_cases q : z < 175
                · have e : z = 174 := by omega
                  subst e
                  exact mc_174
                · have e : z = 175 := by omega
                  subst e
                  exact mc_175
            · by_cases q : z < 178
              · by_cases q : z < 177
                · have e : z = 176 := by omega
                  subst e
                  exact mc_176
                · have e : z = 177 := by omega
                  subst e
                  exact mc_177
              · by_cases q : z < 179
                · have e : z = 178 := by omega
                  subst e
                  exact mc_178
                · have e : z = 179 := by omega
                  subst e
                  exact mc_179
          · by_cases q : z < 183
            · by_cases q : z < 181
              · have e : z = 180 := by omega
                subst e
                exact mc_180
              · by_cases q : z < 182
                · have e : z = 181 := by omega
                  subst e
                  exact mc_181
                · have e : z = 182 := by omega
                  subst e
                  exact mc_182
            · by_cases q : z < 185
              · by_cases q : z < 184
                · have e : z = 183 := by omega
                  subst e
                  exact mc_183
                · have e : z = 184 := by omega
                  subst e
                  exact mc_184
              · by_cases q : z < 186
                · have e : z = 185 := by omega
                  subst e
                  exact mc_185
                · have e : z = 186 := by omega
                  subst e
                  exact mc_186
      · by_cases q : z < 200
        · by_cases q : z < 193
          · by_cases q : z < 190
            · by_cases q : z < 188
              · have e : z = 187 := by omega
                subst e
                exact mc_187
              · by_cases q : z < 189
                · have e : z = 188 := by omega
                  subst e
                  exact mc_188
                · have e : z = 189 := by omega
                  subst e
                  exact mc_189
            · by_cases q : z < 191
              · have e : z = 190 := by omega
                subst e
                exact mc_190
              · by_cases q : z < 192
                · have e : z = 191 := by omega
                  subst e
                  exact mc_191
                · have e : z = 192 := by omega
                  subst e
                  exact mc_192
          · by_cases q : z < 196
            · by_cases q : z < 194
              · have e : z = 193 := by omega
                subst e
                exact mc_193
              · by_cases q : z < 195
                · have e : z = 194 := by omega
                  subst e
                  exact mc_194
                · have e : z = 195 := by omega
                  subst e
                  exact mc_195
            · by_cases q : z < 198
              · by_cases q : z < 197
                · have e : z = 196 := by omega
                  subst e
                  exact mc_196
                · have e : z = 197 := by omega
                  subst e
                  exact mc_197
              · by_cases q : z < 199
                · have e : z = 198 := by omega
                  subst e
                  exact mc_198
                · have e : z = 199 := by omega
                  subst e
                  exact mc_199
        · by_cases q : z < 207
          · by_cases q : z < 203
            · by_cases q : z < 201
              · have e : z = 200 := by omega
                subst e
                exact mc_200
              · by_cases q : z < 202
                · have e : z = 201 := by omega
                  subst e
                  exact mc_201
                · have e : z = 202 := by omega
                  subst e
                  exact mc_202
            · by_cases q : z < 205
              · by_cases q : z < 204
                · have e : z = 203 := by omega
                  subst e
                  exact mc_203
                · have e : z = 204 := by omega
                  subst e
                  exact mc_204
              · by_cases q : z < 206
                · have e : z = 205 := by omega
                  subst e
                  exact mc_205
                · have e : z = 206 := by omega
                  subst e
                  exact mc_206
          · by_cases q : z < 210
            · by_cases q : z < 208
              · have e : z = 207 := by omega
                subst e
                exact mc_207
              · by_cases q : z < 209
                · have e : z = 208 := by omega
                  subst e
                  exact mc_208
                · have e : z = 209 := by omega
                  subst e
                  exact mc_209
            · by_cases q : z < 212
              · by_cases q : z < 211
                · have e : z = 210 := by omega
                  subst e
                  exact mc_210
                · have e : z = 211 := by omega
                  subst e
                  exact mc_211
              · by_cases q : z < 213
                · have e : z = 212 := by omega
                  subst e
                  exact mc_212
                · have e : z = 213 := by omega
                  subst e
                  exact mc_213
