set_option maxRecDepth 100000 in
theorem kw_0 : Cond.fieldLink RX10 15 "ListPainter$Words" "count" "I" ∈ uw := uw_t1 60 rfl rfl
set_option maxRecDepth 100000 in
theorem kw_1 : Cond.fieldLink RX10 9 "ListPainter$Words" "row" "[I" ∈ uw := uw_t1 59 rfl rfl
set_option maxRecDepth 100000 in
theorem kw_2 : Cond.methodLink RX10 19 yX10_word ∈ uw := uw_t2 164 rfl rfl
set_option maxRecDepth 100000 in
theorem kw_3 : Cond.instanceMethod yX10_word ∈ uw := uw_t2 154 rfl rfl
set_option maxRecDepth 100000 in
theorem kw_4 : Cond.selects RX10 yX10_word yX10_word ∈ uw := uw_t2 155 rfl rfl
set_option maxRecDepth 100000 in
theorem kw_5 : Cond.initialized RX10 ∈ uw := uw_t1 4 rfl rfl
set_option maxRecDepth 100000 in
theorem kw_6 : Cond.code yX10_word cX10_word 2 (some .int) ∈ uw := uw_t2 156 rfl rfl
set_option maxRecDepth 100000 in
theorem kw_7 : Cond.methodLink RX10 23 yX10_isCommand ∈ uw := uw_t2 165 rfl rfl
set_option maxRecDepth 100000 in
theorem kw_8 : Cond.static yX10_isCommand ∈ uw := uw_t2 158 rfl rfl
set_option maxRecDepth 100000 in
theorem kw_9 : Cond.code yX10_isCommand cX10_isCommand 1 (some .boolean) ∈ uw := uw_t2 159 rfl rfl
set_option maxRecDepth 100000 in
theorem kw_10 : tables_1[406]? = some (Cond.fieldLinkNest RX10 27 "ListPainter" "LENGTHS" "[I" "ListPainter") := rfl
set_option maxRecDepth 100000 in
theorem kw_11 : Cond.methodLink RX10 36 yX10_put ∈ uw := uw_t4 26 rfl rfl
set_option maxRecDepth 100000 in
theorem kw_12 : Cond.instanceMethod yX10_put ∈ uw := uw_t4 10 rfl rfl
set_option maxRecDepth 100000 in
theorem kw_13 : Cond.selects RX10 yX10_put yX10_put ∈ uw := uw_t4 11 rfl rfl
set_option maxRecDepth 100000 in
theorem kw_14 : Cond.code yX10_put cX10_put 3 none ∈ uw := uw_t4 12 rfl rfl
set_option maxRecDepth 100000 in
theorem kw_15 : Cond.methodLink RX10 40 yX10_lengthAt ∈ uw := uw_t3 179 rfl rfl
set_option maxRecDepth 100000 in
theorem kw_16 : Cond.instanceMethod yX10_lengthAt ∈ uw := uw_t2 161 rfl rfl
set_option maxRecDepth 100000 in
theorem kw_17 : Cond.selects RX10 yX10_lengthAt yX10_lengthAt ∈ uw := uw_t2 162 rfl rfl
set_option maxRecDepth 100000 in
theorem kw_18 : Cond.code yX10_lengthAt cX10_lengthAt 3 (some .int) ∈ uw := uw_t2 163 rfl rfl
set_option maxRecDepth 100000 in
theorem kw_19 : Cond.methodLink RX10 30 arraycopyName ∈ uw := uw_t3 163 rfl rfl
set_option maxRecDepth 100000 in
theorem kw_20 : Cond.native arraycopyName ∈ uw := uw_t3 165 rfl rfl
set_option maxRecDepth 100000 in
theorem kw_21 : Cond.static arraycopyName ∈ uw := uw_t3 164 rfl rfl
set_option maxRecDepth 100000 in
theorem kw_22 : Cond.initialized "java/lang/System" ∈ uw := uw_t1 15 rfl rfl
set_option maxRecDepth 100000 in
theorem kw_23 : Cond.constant RX9 9 65536 ∈ uw := uw_t2 199 rfl rfl
set_option maxRecDepth 100000 in
theorem kw_24 : Cond.fieldLink RX9 10 "ListPainter$Table" "a" "I" ∈ uw := uw_t1 173 rfl rfl
set_option maxRecDepth 100000 in
theorem kw_25 : Cond.fieldLink RX9 16 "ListPainter$Table" "b" "I" ∈ uw := uw_t1 175 rfl rfl
set_option maxRecDepth 100000 in
theorem kw_26 : Cond.fieldLink RX9 19 "ListPainter$Table" "c" "I" ∈ uw := uw_t1 177 rfl rfl
set_option maxRecDepth 100000 in
theorem kw_27 : Cond.fieldLink RX9 22 "ListPainter$Table" "d" "I" ∈ uw := uw_t1 179 rfl rfl
set_option maxRecDepth 100000 in
theorem kw_28 : Cond.fieldLink RX9 25 "ListPainter$Table" "e" "I" ∈ uw := uw_t1 181 rfl rfl
set_option maxRecDepth 100000 in
theorem kw_29 : Cond.fieldLink RX9 28 "ListPainter$Table" "f" "I" ∈ uw := uw_t1 183 rfl rfl
set_option maxRecDepth 100000 in
theorem kw_30 : Cond.methodLink RX9 31 yX10_word ∈ uw := uw_t3 128 rfl rfl
set_option maxRecDepth 100000 in
theorem kw_31 : Cond.methodLink RX9 37 yX10_put ∈ uw := uw_t4 9 rfl rfl
set_option maxRecDepth 100000 in
theorem kw_32 : Cond.constantLong RX9 54 32768 ∈ uw := uw_t3 83 rfl rfl
set_option maxRecDepth 100000 in
theorem kw_33 : Cond.constantLong RX9 56 1073741824 ∈ uw := uw_t3 87 rfl rfl
set_option maxRecDepth 100000 in
theorem kw_34 : Cond.constantLong RX9 59 (-1073741824) ∈ uw := uw_t3 89 rfl rfl
set_option maxRecDepth 100000 in
theorem kw_35 : Cond.constant RX9 61 (-1073741824) ∈ uw := uw_t3 90 rfl rfl
set_option maxRecDepth 100000 in
theorem kw_36 : Cond.constant RX9 58 1073741824 ∈ uw := uw_t3 88 rfl rfl
set_option maxRecDepth 100000 in
theorem kw_37 : Cond.methodLink RX9 41 yX9_rounded ∈ uw := uw_t3 80 rfl rfl
set_option maxRecDepth 100000 in
theorem kw_38 : Cond.static yX9_rounded ∈ uw := uw_t3 81 rfl rfl
set_option maxRecDepth 100000 in
theorem kw_39 : Cond.initialized RX9 ∈ uw := uw_t1 10 rfl rfl
set_option maxRecDepth 100000 in
theorem kw_40 : Cond.code yX9_rounded cX9_rounded 2 (some .long) ∈ uw := uw_t3 82 rfl rfl
set_option maxRecDepth 100000 in
theorem kw_41 : Cond.methodLink RX9 45 yX9_held ∈ uw := uw_t3 84 rfl rfl
set_option maxRecDepth 100000 in
theorem kw_42 : Cond.static yX9_held ∈ uw := uw_t3 85 rfl rfl
set_option maxRecDepth 100000 in
theorem kw_43 : Cond.code yX9_held cX9_held 2 (some .int) ∈ uw := uw_t3 86 rfl rfl
set_option maxRecDepth 100000 in
theorem kw_44 : Cond.constant RX9 49 65535 ∈ uw := uw_t3 237 rfl rfl
set_option maxRecDepth 100000 in
theorem kw_45 : Cond.methodLink RX9 50 yX9_fits ∈ uw := uw_t4 2 rfl rfl
set_option maxRecDepth 100000 in
theorem kw_46 : Cond.static yX9_fits ∈ uw := uw_t4 3 rfl rfl
set_option maxRecDepth 100000 in
theorem kw_47 : Cond.code yX9_fits cX9_fits 2 (some .boolean) ∈ uw := uw_t4 4 rfl rfl
set_option maxRecDepth 100000 in
theorem kw_48 : Cond.fieldLink RX1 7 "ListPainter$Clip" "x" "I" ∈ uw := uw_t1 204 rfl rfl
set_option maxRecDepth 100000 in
theorem kw_49 : Cond.fieldLink RX1 13 "ListPainter$Clip" "y" "I" ∈ uw := uw_t1 207 rfl rfl
set_option maxRecDepth 100000 in
theorem kw_50 : Cond.fieldLink RX1 16 "ListPainter$Clip" "endX" "I" ∈ uw := uw_t1 211 rfl rfl
set_option maxRecDepth 100000 in
theorem kw_51 : Cond.fieldLink RX1 19 "ListPainter$Clip" "endY" "I" ∈ uw := uw_t1 215 rfl rfl
set_option maxRecDepth 100000 in
theorem kw_52 : Cond.methodLink RX1 22 yX1_become ∈ uw := uw_t3 67 rfl rfl
set_option maxRecDepth 100000 in
theorem kw_53 : Cond.instanceMethod yX1_become ∈ uw := uw_t2 201 rfl rfl
set_option maxRecDepth 100000 in
theorem kw_54 : Cond.selects RX1 yX1_become yX1_become ∈ uw := uw_t2 202 rfl rfl
set_option maxRecDepth 100000 in
theorem kw_55 : Cond.initialized RX1 ∈ uw := uw_t1 11 rfl rfl
set_option maxRecDepth 100000 in
theorem kw_56 : Cond.code yX1_become cX1_become 5 none ∈ uw := uw_t2 203 rfl rfl
set_option maxRecDepth 100000 in
theorem kw_57 : Cond.methodLink RX1 26 yX10_word ∈ uw := uw_t3 137 rfl rfl
set_option maxRecDepth 100000 in
theorem kw_58 : Cond.methodLink RX1 32 Lib.Math.max.name ∈ uw := uw_t3 138 rfl rfl
set_option maxRecDepth 100000 in
theorem kw_59 : Cond.static Lib.Math.max.name ∈ uw := uw_t1 38 rfl rfl
set_option maxRecDepth 100000 in
theorem kw_60 : Cond.initialized RJ9 ∈ uw := uw_t1 3 rfl rfl
set_option maxRecDepth 100000 in
theorem kw_61 : Cond.code Lib.Math.max.name Lib.Math.max.code 2 (some .int) ∈ uw := uw_t1 39 rfl rfl
set_option maxRecDepth 100000 in
theorem kw_62 : Cond.methodLink RX1 38 Lib.Math.min.name ∈ uw := uw_t3 139 rfl rfl
set_option maxRecDepth 100000 in
theorem kw_63 : Cond.static Lib.Math.min.name ∈ uw := uw_t1 35 rfl rfl
set_option maxRecDepth 100000 in
theorem kw_64 : Cond.code Lib.Math.min.name Lib.Math.min.code 2 (some .int) ∈ uw := uw_t1 36 rfl rfl
set_option maxRecDepth 100000 in
theorem kw_65 : Cond.fieldLink RX7 15 "ListPainter$Sheet" "w" "I" ∈ uw := uw_t1 40 rfl rfl
set_option maxRecDepth 100000 in
theorem kw_66 : Cond.fieldLink RX7 19 "ListPainter$Sheet" "h" "I" ∈ uw := uw_t1 42 rfl rfl
set_option maxRecDepth 100000 in
theorem kw_67 : Cond.methodLink RX7 35 yX7_holds ∈ uw := uw_t3 25 rfl rfl
set_option maxRecDepth 100000 in
theorem kw_68 : Cond.instanceMethod yX7_holds ∈ uw := uw_t3 26 rfl rfl
set_option maxRecDepth 100000 in
theorem kw_69 : Cond.selects RX7 yX7_holds yX7_holds ∈ uw := uw_t3 27 rfl rfl
set_option maxRecDepth 100000 in
theorem kw_70 : Cond.initialized RX7 ∈ uw := uw_t1 2 rfl rfl
set_option maxRecDepth 100000 in
theorem kw_71 : Cond.code yX7_holds cX7_holds 3 (some .boolean) ∈ uw := uw_t3 28 rfl rfl
set_option maxRecDepth 100000 in
theorem kw_72 : Cond.fieldLink RX7 22 "ListPainter$Sheet" "pixels" "[I" ∈ uw := uw_t1 44 rfl rfl
set_option maxRecDepth 100000 in
theorem kw_73 : Cond.methodLink RX7 39 yJ7_fill_53178 ∈ uw := uw_t4 52 rfl rfl
set_option maxRecDepth 100000 in
theorem kw_74 : Cond.static yJ7_fill_53178 ∈ uw := uw_t4 53 rfl rfl
set_option maxRecDepth 100000 in
theorem kw_75 : Cond.initialized RJ7 ∈ uw := uw_t1 16 rfl rfl
set_option maxRecDepth 100000 in
theorem kw_76 : Cond.code yJ7_fill_53178 cJ7_fill_53178 4 none ∈ uw := uw_t4 54 rfl rfl
set_option maxRecDepth 100000 in
theorem kw_77 : Cond.methodLink RX4 13 yX4_per255 ∈ uw := uw_t3 35 rfl rfl
set_option maxRecDepth 100000 in
theorem kw_78 : Cond.static yX4_per255 ∈ uw := uw_t3 36 rfl rfl
set_option maxRecDepth 100000 in
theorem kw_79 : Cond.initialized RX4 ∈ uw := uw_t1 14 rfl rfl
set_option maxRecDepth 100000 in
theorem kw_80 : Cond.code yX4_per255 cX4_per255 1 (some .int) ∈ uw := uw_t3 37 rfl rfl
set_option maxRecDepth 100000 in
theorem kw_81 : Cond.methodLink RX4 17 Lib.Math.min.name ∈ uw := uw_t3 38 rfl rfl
set_option maxRecDepth 100000 in
theorem kw_82 : Cond.methodLink RX4 23 Lib.Math.abs.name ∈ uw := uw_t3 39 rfl rfl
set_option maxRecDepth 100000 in
theorem kw_83 : Cond.static Lib.Math.abs.name ∈ uw := uw_t3 40 rfl rfl
set_option maxRecDepth 100000 in
theorem kw_84 : Cond.code Lib.Math.abs.name Lib.Math.abs.code 1 (some .int) ∈ uw := uw_t3 41 rfl rfl
set_option maxRecDepth 100000 in
theorem kw_85 : Cond.methodLink RX4 9 yX4_laidByte ∈ uw := uw_t3 32 rfl rfl
set_option maxRecDepth 100000 in
theorem kw_86 : Cond.static yX4_laidByte ∈ uw := uw_t3 33 rfl rfl
set_option maxRecDepth 100000 in
theorem kw_87 : Cond.code yX4_laidByte cX4_laidByte 4 (some .int) ∈ uw := uw_t3 34 rfl rfl
set_option maxRecDepth 100000 in
theorem kw_88 : Cond.fieldLink RX6 12 "ListPainter$Settings" "table" "LListPainter$Table;" ∈ uw := uw_t1 228 rfl rfl
set_option maxRecDepth 100000 in
theorem kw_89 : Cond.methodLink RX6 25 yX9_becomePlain ∈ uw := uw_t2 195 rfl rfl
set_option maxRecDepth 100000 in
theorem kw_90 : Cond.instanceMethod yX9_becomePlain ∈ uw := uw_t2 196 rfl rfl
set_option maxRecDepth 100000 in
theorem kw_91 : Cond.selects RX9 yX9_becomePlain yX9_becomePlain ∈ uw := uw_t2 197 rfl rfl
set_option maxRecDepth 100000 in
theorem kw_92 : Cond.code yX9_becomePlain cX9_becomePlain 1 none ∈ uw := uw_t2 198 rfl rfl
set_option maxRecDepth 100000 in
theorem kw_93 : Cond.fieldLink RX6 21 "ListPainter$Settings" "clip" "LListPainter$Clip;" ∈ uw := uw_t1 231 rfl rfl
set_option maxRecDepth 100000 in
theorem kw_94 : tables_1[41]? = some (Cond.fieldLinkNest RX6 28 "ListPainter$Sheet" "w" "I" "ListPainter") := rfl
set_option maxRecDepth 100000 in
theorem kw_95 : tables_1[43]? = some (Cond.fieldLinkNest RX6 34 "ListPainter$Sheet" "h" "I" "ListPainter") := rfl
set_option maxRecDepth 100000 in
theorem kw_96 : Cond.methodLink RX6 37 yX1_become ∈ uw := uw_t2 200 rfl rfl
set_option maxRecDepth 100000 in
theorem kw_97 : Cond.constant RX6 41 (-16777216) ∈ uw := uw_t2 204 rfl rfl
set_option maxRecDepth 100000 in
theorem kw_98 : Cond.fieldLink RX6 42 "ListPainter$Settings" "colour" "I" ∈ uw := uw_t1 235 rfl rfl
set_option maxRecDepth 100000 in
theorem kw_99 : Cond.fieldLink RX6 45 "ListPainter$Settings" "way" "I" ∈ uw := uw_t1 239 rfl rfl
set_option maxRecDepth 100000 in
theorem kw_100 : Cond.methodLink RX6 48 yX9_copyFrom ∈ uw := uw_t3 59 rfl rfl
set_option maxRecDepth 100000 in
theorem kw_101 : Cond.instanceMethod yX9_copyFrom ∈ uw := uw_t3 60 rfl rfl
set_option maxRecDepth 100000 in
theorem kw_102 : Cond.selects RX9 yX9_copyFrom yX9_copyFrom ∈ uw := uw_t3 61 rfl rfl
set_option maxRecDepth 100000 in
theorem kw_103 : Cond.code yX9_copyFrom cX9_copyFrom 2 none ∈ uw := uw_t3 62 rfl rfl
set_option maxRecDepth 100000 in
theorem kw_104 : Cond.methodLink RX6 52 yX1_copyFrom ∈ uw := uw_t3 63 rfl rfl
set_option maxRecDepth 100000 in
theorem kw_105 : Cond.instanceMethod yX1_copyFrom ∈ uw := uw_t3 64 rfl rfl
set_option maxRecDepth 100000 in
theorem kw_106 : Cond.selects RX1 yX1_copyFrom yX1_copyFrom ∈ uw := uw_t3 65 rfl rfl
set_option maxRecDepth 100000 in
theorem kw_107 : Cond.code yX1_copyFrom cX1_copyFrom 2 none ∈ uw := uw_t3 66 rfl rfl
set_option maxRecDepth 100000 in
theorem kw_108 : Cond.fieldLink RX5 22 "ListPainter$Path" "points" "I" ∈ uw := uw_t1 121 rfl rfl
set_option maxRecDepth 100000 in
theorem kw_109 : Cond.fieldLink RX5 26 "ListPainter$Path" "lines" "I" ∈ uw := uw_t1 123 rfl rfl
set_option maxRecDepth 100000 in
theorem kw_110 : Cond.fieldLink RX5 29 "ListPainter$Path" "first" "I" ∈ uw := uw_t1 125 rfl rfl
set_option maxRecDepth 100000 in
theorem kw_111 : Cond.fieldLink RX5 73 "ListPainter$Path" "leastX" "I" ∈ uw := uw_t1 130 rfl rfl
set_option maxRecDepth 100000 in
theorem kw_112 : Cond.fieldLink RX5 81 "ListPainter$Path" "leastY" "I" ∈ uw := uw_t1 131 rfl rfl
set_option maxRecDepth 100000 in
theorem kw_113 : Cond.fieldLink RX5 84 "ListPainter$Path" "greatestY" "I" ∈ uw := uw_t1 132 rfl rfl
set_option maxRecDepth 100000 in
theorem kw_114 : Cond.fieldLink RX5 9 "ListPainter$Path" "xs" "[I" ∈ uw := uw_t1 115 rfl rfl
set_option maxRecDepth 100000 in
theorem kw_115 : Cond.fieldLink RX5 15 "ListPainter$Path" "ys" "[I" ∈ uw := uw_t1 117 rfl rfl
set_option maxRecDepth 100000 in
theorem kw_116 : Cond.fieldLink RX5 18 "ListPainter$Path" "begins" "[Z" ∈ uw := uw_t1 119 rfl rfl
set_option maxRecDepth 100000 in
theorem kw_117 : Cond.methodLink RX5 87 Lib.Math.max.name ∈ uw := uw_t3 100 rfl rfl
set_option maxRecDepth 100000 in
theorem kw_118 : Cond.methodLink RX5 76 Lib.Math.min.name ∈ uw := uw_t3 99 rfl rfl
set_option maxRecDepth 100000 in
theorem kw_119 : Cond.fieldLink RX5 32 "ListPainter$Path" "firstToldX" "I" ∈ uw := uw_t1 126 rfl rfl
set_option maxRecDepth 100000 in
theorem kw_120 : Cond.fieldLink RX5 35 "ListPainter$Path" "firstToldY" "I" ∈ uw := uw_t1 127 rfl rfl
set_option maxRecDepth 100000 in
theorem kw_121 : Cond.fieldLink RX5 38 "ListPainter$Path" "lastToldX" "I" ∈ uw := uw_t1 128 rfl rfl
set_option maxRecDepth 100000 in
theorem kw_122 : Cond.fieldLink RX5 41 "ListPainter$Path" "lastToldY" "I" ∈ uw := uw_t1 129 rfl rfl
set_option maxRecDepth 100000 in
theorem kw_123 : Cond.methodLink RX5 44 yX9_sendX ∈ uw := uw_t3 76 rfl rfl
set_option maxRecDepth 100000 in
theorem kw_124 : Cond.instanceMethod yX9_sendX ∈ uw := uw_t3 77 rfl rfl
set_option maxRecDepth 100000 in
theorem kw_125 : Cond.selects RX9 yX9_sendX yX9_sendX ∈ uw := uw_t3 78 rfl rfl
set_option maxRecDepth 100000 in
theorem kw_126 : Cond.code yX9_sendX cX9_sendX 3 (some .int) ∈ uw := uw_t3 79 rfl rfl
set_option maxRecDepth 100000 in
theorem kw_127 : Cond.methodLink RX5 50 yX9_sendY ∈ uw := uw_t3 91 rfl rfl
set_option maxRecDepth 100000 in
theorem kw_128 : Cond.instanceMethod yX9_sendY ∈ uw := uw_t3 92 rfl rfl
set_option maxRecDepth 100000 in
theorem kw_129 : Cond.selects RX9 yX9_sendY yX9_sendY ∈ uw := uw_t3 93 rfl rfl
set_option maxRecDepth 100000 in
theorem kw_130 : Cond.code yX9_sendY cX9_sendY 3 (some .int) ∈ uw := uw_t3 94 rfl rfl
set_option maxRecDepth 100000 in
theorem kw_131 : Cond.methodLink RX5 53 yX5_addPoint ∈ uw := uw_t3 95 rfl rfl
set_option maxRecDepth 100000 in
theorem kw_132 : Cond.instanceMethod yX5_addPoint ∈ uw := uw_t3 97 rfl rfl
set_option maxRecDepth 100000 in
theorem kw_133 : Cond.selects RX5 yX5_addPoint yX5_addPoint ∈ uw := uw_s 9 rfl rfl
set_option maxRecDepth 100000 in
theorem kw_134 : Cond.initialized RX5 ∈ uw := uw_t1 8 rfl rfl
set_option maxRecDepth 100000 in
theorem kw_135 : Cond.code yX5_addPoint cX5_addPoint 4 none ∈ uw := uw_t3 98 rfl rfl
set_option maxRecDepth 100000 in
theorem kw_136 : Cond.constantLong RX5 65 32 ∈ uw := uw_t3 112 rfl rfl
set_option maxRecDepth 100000 in
theorem kw_137 : Cond.methodLink RX5 57 yX5_onCurve ∈ uw := uw_t3 109 rfl rfl
set_option maxRecDepth 100000 in
theorem kw_138 : Cond.static yX5_onCurve ∈ uw := uw_t3 110 rfl rfl
set_option maxRecDepth 100000 in
theorem kw_139 : Cond.code yX5_onCurve cX5_onCurve 8 (some .int) ∈ uw := uw_t3 111 rfl rfl
set_option maxRecDepth 100000 in
theorem kw_140 : Cond.methodLink RX5 61 yX5_lineTo ∈ uw := uw_t3 113 rfl rfl
set_option maxRecDepth 100000 in
theorem kw_141 : Cond.instanceMethod yX5_lineTo ∈ uw := uw_t3 102 rfl rfl
set_option maxRecDepth 100000 in
theorem kw_142 : Cond.selects RX5 yX5_lineTo yX5_lineTo ∈ uw := uw_t3 103 rfl rfl
set_option maxRecDepth 100000 in
theorem kw_143 : Cond.code yX5_lineTo cX5_lineTo 4 none ∈ uw := uw_t3 104 rfl rfl
set_option maxRecDepth 100000 in
theorem kw_144 : Cond.methodLink RX5 67 yX5_begin ∈ uw := uw_t3 122 rfl rfl
set_option maxRecDepth 100000 in
theorem kw_145 : Cond.instanceMethod yX5_begin ∈ uw := uw_t3 73 rfl rfl
set_option maxRecDepth 100000 in
theorem kw_146 : Cond.selects RX5 yX5_begin yX5_begin ∈ uw := uw_t3 74 rfl rfl
set_option maxRecDepth 100000 in
theorem kw_147 : Cond.code yX5_begin cX5_begin 4 none ∈ uw := uw_t3 75 rfl rfl
set_option maxRecDepth 100000 in
theorem kw_148 : Cond.methodLink RX5 70 yX5_close ∈ uw := uw_t3 123 rfl rfl
set_option maxRecDepth 100000 in
theorem kw_149 : Cond.instanceMethod yX5_close ∈ uw := uw_t3 115 rfl rfl
set_option maxRecDepth 100000 in
theorem kw_150 : Cond.selects RX5 yX5_close yX5_close ∈ uw := uw_t3 116 rfl rfl
set_option maxRecDepth 100000 in
theorem kw_151 : Cond.code yX5_close cX5_close 1 none ∈ uw := uw_t3 117 rfl rfl
set_option maxRecDepth 100000 in
theorem kw_152 : Cond.constant RX2 95 32768 ∈ uw := uw_t2 238 rfl rfl
set_option maxRecDepth 100000 in
theorem kw_153 : tables_1[210]? = some (Cond.fieldLinkNest RX5 90 "ListPainter$Clip" "y" "I" "ListPainter") := rfl
set_option maxRecDepth 100000 in
theorem kw_154 : Cond.methodLink RX5 95 yX2_firstMiddle ∈ uw := uw_t3 194 rfl rfl
set_option maxRecDepth 100000 in
theorem kw_155 : Cond.static yX2_firstMiddle ∈ uw := uw_t2 236 rfl rfl
set_option maxRecDepth 100000 in
theorem kw_156 : Cond.initialized RX2 ∈ uw := uw_t1 6 rfl rfl
set_option maxRecDepth 100000 in
theorem kw_157 : Cond.code yX2_firstMiddle cX2_firstMiddle 1 (some .int) ∈ uw := uw_t2 237 rfl rfl
set_option maxRecDepth 100000 in
theorem kw_158 : tables_1[218]? = some (Cond.fieldLinkNest RX5 101 "ListPainter$Clip" "endY" "I" "ListPainter") := rfl
set_option maxRecDepth 100000 in
theorem kw_159 : tables_1[214]? = some (Cond.fieldLinkNest RX5 104 "ListPainter$Clip" "endX" "I" "ListPainter") := rfl
set_option maxRecDepth 100000 in
theorem kw_160 : tables_1[118]? = some (Cond.fieldLinkNest RX2 55 "ListPainter$Path" "ys" "[I" "ListPainter") := rfl
set_option maxRecDepth 100000 in
theorem kw_161 : tables_1[116]? = some (Cond.fieldLinkNest RX2 84 "ListPainter$Path" "xs" "[I" "ListPainter") := rfl
set_option maxRecDepth 100000 in
theorem kw_162 : Cond.constantLong RX2 87 65536 ∈ uw := uw_t3 4 rfl rfl
set_option maxRecDepth 100000 in
theorem kw_163 : Cond.constantLong RX2 89 32768 ∈ uw := uw_t3 5 rfl rfl
set_option maxRecDepth 100000 in
theorem kw_164 : Cond.methodLink RX2 91 yJ9_floorDiv_f86c9 ∈ uw := uw_t3 6 rfl rfl
set_option maxRecDepth 100000 in
theorem kw_165 : Cond.static yJ9_floorDiv_f86c9 ∈ uw := uw_t3 7 rfl rfl
set_option maxRecDepth 100000 in
theorem kw_166 : Cond.code yJ9_floorDiv_f86c9 cJ9_floorDiv_f86c9 6 (some .long) ∈ uw := uw_t3 8 rfl rfl
set_option maxRecDepth 100000 in
theorem kw_167 : Cond.methodLink RX2 58 yX2_firstMiddle ∈ uw := uw_t2 235 rfl rfl
set_option maxRecDepth 100000 in
theorem kw_168 : Cond.fieldLink RX2 9 "ListPainter$Filler" "changes" "[I" ∈ uw := uw_t1 97 rfl rfl
set_option maxRecDepth 100000 in
theorem kw_169 : tables_1[208]? = some (Cond.fieldLinkNest RX2 43 "ListPainter$Clip" "y" "I" "ListPainter") := rfl
set_option maxRecDepth 100000 in
theorem kw_170 : Cond.methodLink RX2 62 Lib.Math.max.name ∈ uw := uw_t2 239 rfl rfl
set_option maxRecDepth 100000 in
theorem kw_171 : tables_1[216]? = some (Cond.fieldLinkNest RX2 48 "ListPainter$Clip" "endY" "I" "ListPainter") := rfl
set_option maxRecDepth 100000 in
theorem kw_172 : Cond.methodLink RX2 67 Lib.Math.min.name ∈ uw := uw_t3 0 rfl rfl
set_option maxRecDepth 100000 in
theorem kw_173 : tables_1[205]? = some (Cond.fieldLinkNest RX2 70 "ListPainter$Clip" "x" "I" "ListPainter") := rfl
set_option maxRecDepth 100000 in
theorem kw_174 : Cond.methodLink RX2 73 yX2_firstColumn ∈ uw := uw_t3 1 rfl rfl
set_option maxRecDepth 100000 in
theorem kw_175 : Cond.static yX2_firstColumn ∈ uw := uw_t3 2 rfl rfl
set_option maxRecDepth 100000 in
theorem kw_176 : Cond.code yX2_firstColumn cX2_firstColumn 12 (some .int) ∈ uw := uw_t3 3 rfl rfl
set_option maxRecDepth 100000 in
theorem kw_177 : tables_1[212]? = some (Cond.fieldLinkNest RX2 77 "ListPainter$Clip" "endX" "I" "ListPainter") := rfl
set_option maxRecDepth 100000 in
theorem kw_178 : Cond.methodLink RX2 80 yX2_change ∈ uw := uw_t3 9 rfl rfl
set_option maxRecDepth 100000 in
theorem kw_179 : Cond.instanceMethod yX2_change ∈ uw := uw_t3 11 rfl rfl
set_option maxRecDepth 100000 in
theorem kw_180 : Cond.selects RX2 yX2_change yX2_change ∈ uw := uw_s 4 rfl rfl
set_option maxRecDepth 100000 in
theorem kw_181 : Cond.code yX2_change cX2_change 5 none ∈ uw := uw_t3 12 rfl rfl
set_option maxRecDepth 100000 in
theorem kw_182 : tables_1[232]? = some (Cond.fieldLinkNest RX2 33 "ListPainter$Settings" "clip" "LListPainter$Clip;" "ListPainter") := rfl
set_option maxRecDepth 100000 in
theorem kw_183 : Cond.methodLink RX2 96 yX2_takeChange ∈ uw := uw_t3 17 rfl rfl
set_option maxRecDepth 100000 in
theorem kw_184 : Cond.instanceMethod yX2_takeChange ∈ uw := uw_t3 19 rfl rfl
set_option maxRecDepth 100000 in
theorem kw_185 : Cond.selects RX2 yX2_takeChange yX2_takeChange ∈ uw := uw_s 6 rfl rfl
set_option maxRecDepth 100000 in
theorem kw_186 : Cond.code yX2_takeChange cX2_takeChange 5 (some .int) ∈ uw := uw_t3 20 rfl rfl
set_option maxRecDepth 100000 in
theorem kw_187 : Cond.fieldLink RX2 15 "ListPainter$Filler" "sheet" "LListPainter$Sheet;" ∈ uw := uw_t1 96 rfl rfl
set_option maxRecDepth 100000 in
theorem kw_188 : tables_1[238]? = some (Cond.fieldLinkNest RX2 99 "ListPainter$Settings" "colour" "I" "ListPainter") := rfl
set_option maxRecDepth 100000 in
theorem kw_189 : Cond.methodLink RX2 102 yX7_at ∈ uw := uw_t3 21 rfl rfl
set_option maxRecDepth 100000 in
theorem kw_190 : Cond.instanceMethod yX7_at ∈ uw := uw_t3 22 rfl rfl
set_option maxRecDepth 100000 in
theorem kw_191 : Cond.selects RX7 yX7_at yX7_at ∈ uw := uw_t3 23 rfl rfl
set_option maxRecDepth 100000 in
theorem kw_192 : Cond.code yX7_at cX7_at 3 (some .int) ∈ uw := uw_t3 24 rfl rfl
set_option maxRecDepth 100000 in
theorem kw_193 : tables_1[242]? = some (Cond.fieldLinkNest RX2 107 "ListPainter$Settings" "way" "I" "ListPainter") := rfl
set_option maxRecDepth 100000 in
theorem kw_194 : Cond.methodLink RX2 110 yX4_laid ∈ uw := uw_t3 29 rfl rfl
set_option maxRecDepth 100000 in
theorem kw_195 : Cond.static yX4_laid ∈ uw := uw_t3 30 rfl rfl
set_option maxRecDepth 100000 in
theorem kw_196 : Cond.code yX4_laid cX4_laid 8 (some .int) ∈ uw := uw_t3 31 rfl rfl
set_option maxRecDepth 100000 in
theorem kw_197 : Cond.methodLink RX2 116 yX7_put ∈ uw := uw_t3 42 rfl rfl
set_option maxRecDepth 100000 in
theorem kw_198 : Cond.instanceMethod yX7_put ∈ uw := uw_t3 43 rfl rfl
set_option maxRecDepth 100000 in
theorem kw_199 : Cond.selects RX7 yX7_put yX7_put ∈ uw := uw_t3 44 rfl rfl
set_option maxRecDepth 100000 in
theorem kw_200 : Cond.code yX7_put cX7_put 4 none ∈ uw := uw_t3 45 rfl rfl
set_option maxRecDepth 100000 in
theorem kw_201 : Cond.methodLink RX2 51 yX2_paintRow ∈ uw := uw_t3 13 rfl rfl
set_option maxRecDepth 100000 in
theorem kw_202 : Cond.instanceMethod yX2_paintRow ∈ uw := uw_t3 15 rfl rfl
set_option maxRecDepth 100000 in
theorem kw_203 : Cond.selects RX2 yX2_paintRow yX2_paintRow ∈ uw := uw_s 5 rfl rfl
set_option maxRecDepth 100000 in
theorem kw_204 : Cond.code yX2_paintRow cX2_paintRow 7 (some .int) ∈ uw := uw_t3 16 rfl rfl
set_option maxRecDepth 100000 in
theorem kw_205 : tables_1[122]? = some (Cond.fieldLinkNest RX2 19 "ListPainter$Path" "points" "I" "ListPainter") := rfl
set_option maxRecDepth 100000 in
theorem kw_206 : tables_1[120]? = some (Cond.fieldLinkNest RX2 25 "ListPainter$Path" "begins" "[Z" "ListPainter") := rfl
set_option maxRecDepth 100000 in
theorem kw_207 : Cond.methodLink RX2 29 yX5_endOfLine ∈ uw := uw_t2 227 rfl rfl
set_option maxRecDepth 100000 in
theorem kw_208 : Cond.instanceMethod yX5_endOfLine ∈ uw := uw_t2 228 rfl rfl
set_option maxRecDepth 100000 in
theorem kw_209 : Cond.selects RX5 yX5_endOfLine yX5_endOfLine ∈ uw := uw_t2 229 rfl rfl
set_option maxRecDepth 100000 in
theorem kw_210 : Cond.code yX5_endOfLine cX5_endOfLine 4 (some .int) ∈ uw := uw_t2 230 rfl rfl
set_option maxRecDepth 100000 in
theorem kw_211 : Cond.methodLink RX2 39 yX2_addLine ∈ uw := uw_t2 231 rfl rfl
set_option maxRecDepth 100000 in
theorem kw_212 : Cond.instanceMethod yX2_addLine ∈ uw := uw_t2 233 rfl rfl
set_option maxRecDepth 100000 in
theorem kw_213 : Cond.selects RX2 yX2_addLine yX2_addLine ∈ uw := uw_s 3 rfl rfl
set_option maxRecDepth 100000 in
theorem kw_214 : Cond.code yX2_addLine cX2_addLine 12 none ∈ uw := uw_t2 234 rfl rfl
set_option maxRecDepth 100000 in
theorem kw_215 : Cond.methodLink RX0 34 yX10_word ∈ uw := uw_t2 153 rfl rfl
set_option maxRecDepth 100000 in
theorem kw_216 : Cond.methodLink RX0 41 yX10_lengthAt ∈ uw := uw_t2 160 rfl rfl
set_option maxRecDepth 100000 in
theorem kw_217 : Cond.constant RX0 52 67108864 ∈ uw := uw_t2 171 rfl rfl
set_option maxRecDepth 100000 in
theorem kw_218 : Cond.methodLink RX0 53 yX0_allBelow ∈ uw := uw_t2 172 rfl rfl
set_option maxRecDepth 100000 in
theorem kw_219 : Cond.static yX0_allBelow ∈ uw := uw_t2 173 rfl rfl
set_option maxRecDepth 100000 in
theorem kw_220 : Cond.initialized RX0 ∈ uw := uw_t1 5 rfl rfl
set_option maxRecDepth 100000 in
theorem kw_221 : Cond.code yX0_allBelow cX0_allBelow 6 (some .boolean) ∈ uw := uw_t2 174 rfl rfl
set_option maxRecDepth 100000 in
theorem kw_222 : Cond.methodLink RX0 57 yX0_isWithin ∈ uw := uw_t2 175 rfl rfl
set_option maxRecDepth 100000 in
theorem kw_223 : Cond.static yX0_isWithin ∈ uw := uw_t2 176 rfl rfl
set_option maxRecDepth 100000 in
theorem kw_224 : Cond.code yX0_isWithin cX0_isWithin 2 (some .boolean) ∈ uw := uw_t2 177 rfl rfl
set_option maxRecDepth 100000 in
theorem kw_225 : Cond.constant RX0 61 1000000 ∈ uw := uw_t2 178 rfl rfl
set_option maxRecDepth 100000 in
theorem kw_226 : Cond.methodLink RX0 44 yX10_isCommand ∈ uw := uw_t2 157 rfl rfl
set_option maxRecDepth 100000 in
theorem kw_227 : tables_1[62]? = some (Cond.fieldLinkNest RX0 25 "ListPainter$Words" "count" "I" "ListPainter") := rfl
set_option maxRecDepth 100000 in
theorem kw_228 : Cond.methodLink RX0 48 yX0_withinBounds ∈ uw := uw_t2 168 rfl rfl
set_option maxRecDepth 100000 in
theorem kw_229 : Cond.static yX0_withinBounds ∈ uw := uw_t2 169 rfl rfl
set_option maxRecDepth 100000 in
theorem kw_230 : Cond.code yX0_withinBounds cX0_withinBounds 2 (some .boolean) ∈ uw := uw_t2 170 rfl rfl
set_option maxRecDepth 100000 in
theorem kw_231 : Cond.fieldLink RX0 18 "ListPainter$Checker" "begun" "Z" ∈ uw := uw_t1 80 rfl rfl
set_option maxRecDepth 100000 in
theorem kw_232 : Cond.fieldLink RX0 15 "ListPainter$Checker" "lines" "I" ∈ uw := uw_t1 79 rfl rfl
set_option maxRecDepth 100000 in
theorem kw_233 : Cond.methodLink RX0 62 yX0_faultOfLines ∈ uw := uw_t2 183 rfl rfl
set_option maxRecDepth 100000 in
theorem kw_234 : Cond.instanceMethod yX0_faultOfLines ∈ uw := uw_t2 185 rfl rfl
set_option maxRecDepth 100000 in
theorem kw_235 : Cond.selects RX0 yX0_faultOfLines yX0_faultOfLines ∈ uw := uw_s 2 rfl rfl
set_option maxRecDepth 100000 in
theorem kw_236 : Cond.code yX0_faultOfLines cX0_faultOfLines 2 (some .int) ∈ uw := uw_t2 186 rfl rfl
set_option maxRecDepth 100000 in
theorem kw_237 : Cond.fieldLink RX0 9 "ListPainter$Checker" "open" "I" ∈ uw := uw_t1 78 rfl rfl
set_option maxRecDepth 100000 in
theorem kw_238 : Cond.fieldLink RX0 22 "ListPainter$Checker" "place" "I" ∈ uw := uw_t1 76 rfl rfl
set_option maxRecDepth 100000 in
theorem kw_239 : Cond.methodLink RX0 30 yX0_faultOfWords ∈ uw := uw_t2 150 rfl rfl
set_option maxRecDepth 100000 in
theorem kw_240 : Cond.static yX0_faultOfWords ∈ uw := uw_t2 151 rfl rfl
set_option maxRecDepth 100000 in
theorem kw_241 : Cond.code yX0_faultOfWords cX0_faultOfWords 2 (some .int) ∈ uw := uw_t2 152 rfl rfl
set_option maxRecDepth 100000 in
theorem kw_242 : Cond.methodLink RX0 38 yX0_faultOfOrder ∈ uw := uw_t2 179 rfl rfl
set_option maxRecDepth 100000 in
theorem kw_243 : Cond.instanceMethod yX0_faultOfOrder ∈ uw := uw_t2 181 rfl rfl
set_option maxRecDepth 100000 in
theorem kw_244 : Cond.selects RX0 yX0_faultOfOrder yX0_faultOfOrder ∈ uw := uw_s 1 rfl rfl
set_option maxRecDepth 100000 in
theorem kw_245 : Cond.code yX0_faultOfOrder cX0_faultOfOrder 2 (some .int) ∈ uw := uw_t2 182 rfl rfl
set_option maxRecDepth 100000 in
theorem kw_246 : Cond.fieldLink RX12 81 "ListPainterModel" "good" "Z" ∈ uw := uw_t4 94 rfl rfl
set_option maxRecDepth 100000 in
theorem kw_247 : Cond.fieldLink RX12 85 "ListPainterModel" "made" "Z" ∈ uw := uw_t4 96 rfl rfl
set_option maxRecDepth 100000 in
theorem kw_248 : Cond.fieldLink RX12 16 "ListPainterModel" "size" "[I" ∈ uw := uw_t4 93 rfl rfl
set_option maxRecDepth 100000 in
theorem kw_249 : Cond.fieldLink RX12 13 "ListPainterModel" "words" "[I" ∈ uw := uw_t4 92 rfl rfl
set_option maxRecDepth 100000 in
theorem kw_250 : Cond.methodLink RX12 88 yX12_changed ∈ uw := uw_t4 178 rfl rfl
set_option maxRecDepth 100000 in
theorem kw_251 : Cond.instanceMethod yX12_changed ∈ uw := uw_t4 180 rfl rfl
set_option maxRecDepth 100000 in
theorem kw_252 : Cond.selects RX12 yX12_changed yX12_changed ∈ uw := uw_s 21 rfl rfl
set_option maxRecDepth 100000 in
theorem kw_253 : Cond.initialized RX12 ∈ uw := uw_t1 13 rfl rfl
set_option maxRecDepth 100000 in
theorem kw_254 : Cond.code yX12_changed cX12_changed 1 none ∈ uw := uw_t4 181 rfl rfl
set_option maxRecDepth 100000 in
theorem kw_255 : Cond.methodLink RX12 91 yX12_feed ∈ uw := uw_t4 186 rfl rfl
set_option maxRecDepth 100000 in
theorem kw_256 : Cond.instanceMethod yX12_feed ∈ uw := uw_t4 175 rfl rfl
set_option maxRecDepth 100000 in
theorem kw_257 : Cond.selects RX12 yX12_feed yX12_feed ∈ uw := uw_t4 176 rfl rfl
set_option maxRecDepth 100000 in
theorem kw_258 : Cond.code yX12_feed cX12_feed 2 (some .int) ∈ uw := uw_t4 177 rfl rfl
set_option maxRecDepth 100000 in
theorem kw_259 : Cond.methodLink RX12 95 yX12_more ∈ uw := uw_t4 195 rfl rfl
set_option maxRecDepth 100000 in
theorem kw_260 : Cond.static yX12_more ∈ uw := uw_t4 196 rfl rfl
set_option maxRecDepth 100000 in
theorem kw_261 : Cond.code yX12_more cX12_more 1 (some .int) ∈ uw := uw_t4 197 rfl rfl
set_option maxRecDepth 100000 in
theorem kw_262 : Cond.constant RX12 105 1000000 ∈ uw := uw_t4 208 rfl rfl
set_option maxRecDepth 100000 in
theorem kw_263 : Cond.methodLink RX12 100 yX12_within ∈ uw := uw_t4 204 rfl rfl
set_option maxRecDepth 100000 in
theorem kw_264 : Cond.static yX12_within ∈ uw := uw_t4 205 rfl rfl
set_option maxRecDepth 100000 in
theorem kw_265 : Cond.code yX12_within cX12_within 3 (some .boolean) ∈ uw := uw_t4 206 rfl rfl
set_option maxRecDepth 100000 in
theorem kw_266 : Cond.constant RX12 104 (-1000000) ∈ uw := uw_t4 207 rfl rfl
set_option maxRecDepth 100000 in
theorem kw_267 : Cond.constant RX12 98 (-67108864) ∈ uw := uw_t4 202 rfl rfl
set_option maxRecDepth 100000 in
theorem kw_268 : Cond.constant RX12 99 67108864 ∈ uw := uw_t4 203 rfl rfl
set_option maxRecDepth 100000 in
theorem kw_269 : Cond.fieldLink RX12 23 "ListPainterModel" "told" "[I" ∈ uw := uw_t4 99 rfl rfl
set_option maxRecDepth 100000 in
theorem kw_270 : Cond.constant RX12 123 65536 ∈ uw := uw_t4 220 rfl rfl
set_option maxRecDepth 100000 in
theorem kw_271 : Cond.fieldLink RX12 35 "ListPainterModel" "points" "[I" ∈ uw := uw_t4 103 rfl rfl
set_option maxRecDepth 100000 in
theorem kw_272 : Cond.fieldLink RX12 48 "ListPainterModel" "begun" "[Z" ∈ uw := uw_t4 107 rfl rfl
set_option maxRecDepth 100000 in
theorem kw_273 : Cond.fieldLink RX12 51 "ListPainterModel" "lines" "[I" ∈ uw := uw_t4 108 rfl rfl
set_option maxRecDepth 100000 in
theorem kw_274 : Cond.methodLink RX12 124 yX12_plain ∈ uw := uw_t4 216 rfl rfl
set_option maxRecDepth 100000 in
theorem kw_275 : Cond.instanceMethod yX12_plain ∈ uw := uw_t4 218 rfl rfl
set_option maxRecDepth 100000 in
theorem kw_276 : Cond.selects RX12 yX12_plain yX12_plain ∈ uw := uw_s 24 rfl rfl
set_option maxRecDepth 100000 in
theorem kw_277 : Cond.code yX12_plain cX12_plain 3 none ∈ uw := uw_t4 219 rfl rfl
set_option maxRecDepth 100000 in
theorem kw_278 : Cond.fieldLink RX12 75 "ListPainterModel" "wide" "I" ∈ uw := uw_t4 89 rfl rfl
set_option maxRecDepth 100000 in
theorem kw_279 : Cond.fieldLink RX12 78 "ListPainterModel" "tall" "I" ∈ uw := uw_t4 90 rfl rfl
set_option maxRecDepth 100000 in
theorem kw_280 : Cond.constant RX12 127 (-16777216) ∈ uw := uw_t4 221 rfl rfl
set_option maxRecDepth 100000 in
theorem kw_281 : Cond.fieldLink RX12 29 "ListPainterModel" "saves" "[I" ∈ uw := uw_t4 101 rfl rfl
set_option maxRecDepth 100000 in
theorem kw_282 : Cond.fieldLink RX12 32 "ListPainterModel" "at" "[I" ∈ uw := uw_t4 102 rfl rfl
set_option maxRecDepth 100000 in
theorem kw_283 : Cond.methodLink RX12 128 yX12_noPath ∈ uw := uw_t4 222 rfl rfl
set_option maxRecDepth 100000 in
theorem kw_284 : Cond.instanceMethod yX12_noPath ∈ uw := uw_t4 224 rfl rfl
set_option maxRecDepth 100000 in
theorem kw_285 : Cond.selects RX12 yX12_noPath yX12_noPath ∈ uw := uw_s 25 rfl rfl
set_option maxRecDepth 100000 in
theorem kw_286 : Cond.code yX12_noPath cX12_noPath 2 none ∈ uw := uw_t4 225 rfl rfl
set_option maxRecDepth 100000 in
theorem kw_287 : Cond.constantLong RX12 131 32768 ∈ uw := uw_t4 239 rfl rfl
set_option maxRecDepth 100000 in
theorem kw_288 : Cond.constantLong RX12 133 (-1073741824) ∈ uw := uw_t5 32 rfl rfl
set_option maxRecDepth 100000 in
theorem kw_289 : Cond.constantLong RX12 136 1073741824 ∈ uw := uw_t5 34 rfl rfl
set_option maxRecDepth 100000 in
theorem kw_290 : Cond.constant RX12 138 1073741824 ∈ uw := uw_t5 35 rfl rfl
set_option maxRecDepth 100000 in
theorem kw_291 : Cond.constant RX12 135 (-1073741824) ∈ uw := uw_t5 33 rfl rfl
set_option maxRecDepth 100000 in
theorem kw_292 : Cond.fieldLink RX12 38 "ListPainterModel" "px" "[I" ∈ uw := uw_t4 104 rfl rfl
set_option maxRecDepth 100000 in
theorem kw_293 : Cond.methodLink RX12 139 yX12_rounded ∈ uw := uw_t5 26 rfl rfl
set_option maxRecDepth 100000 in
theorem kw_294 : Cond.static yX12_rounded ∈ uw := uw_t5 27 rfl rfl
set_option maxRecDepth 100000 in
theorem kw_295 : Cond.code yX12_rounded cX12_rounded 2 (some .long) ∈ uw := uw_t5 28 rfl rfl
set_option maxRecDepth 100000 in
theorem kw_296 : Cond.methodLink RX12 143 yX12_held ∈ uw := uw_t5 29 rfl rfl
set_option maxRecDepth 100000 in
theorem kw_297 : Cond.static yX12_held ∈ uw := uw_t5 30 rfl rfl
set_option maxRecDepth 100000 in
theorem kw_298 : Cond.code yX12_held cX12_held 2 (some .int) ∈ uw := uw_t5 31 rfl rfl
set_option maxRecDepth 100000 in
theorem kw_299 : Cond.fieldLink RX12 41 "ListPainterModel" "py" "[I" ∈ uw := uw_t4 105 rfl rfl
set_option maxRecDepth 100000 in
theorem kw_300 : Cond.fieldLink RX12 44 "ListPainterModel" "begins" "[Z" ∈ uw := uw_t4 106 rfl rfl
set_option maxRecDepth 100000 in
theorem kw_301 : Cond.fieldLink RX12 54 "ListPainterModel" "lastX" "[I" ∈ uw := uw_t4 109 rfl rfl
set_option maxRecDepth 100000 in
theorem kw_302 : Cond.fieldLink RX12 57 "ListPainterModel" "lastY" "[I" ∈ uw := uw_t4 110 rfl rfl
set_option maxRecDepth 100000 in
theorem kw_303 : Cond.fieldLink RX12 60 "ListPainterModel" "startX" "[I" ∈ uw := uw_t4 111 rfl rfl
set_option maxRecDepth 100000 in
theorem kw_304 : Cond.fieldLink RX12 63 "ListPainterModel" "startY" "[I" ∈ uw := uw_t4 112 rfl rfl
set_option maxRecDepth 100000 in
theorem kw_305 : Cond.fieldLink RX12 66 "ListPainterModel" "startPoint" "[I" ∈ uw := uw_t4 113 rfl rfl
set_option maxRecDepth 100000 in
theorem kw_306 : Cond.constantLong RX12 147 2 ∈ uw := uw_t5 43 rfl rfl
set_option maxRecDepth 100000 in
theorem kw_307 : Cond.constantLong RX12 149 32 ∈ uw := uw_t5 44 rfl rfl
set_option maxRecDepth 100000 in
theorem kw_308 : Cond.methodLink RX12 151 yX12_between ∈ uw := uw_t5 40 rfl rfl
set_option maxRecDepth 100000 in
theorem kw_309 : Cond.static yX12_between ∈ uw := uw_t5 41 rfl rfl
set_option maxRecDepth 100000 in
theorem kw_310 : Cond.code yX12_between cX12_between 6 (some .int) ∈ uw := uw_t5 42 rfl rfl
set_option maxRecDepth 100000 in
theorem kw_311 : Cond.methodLink RX12 155 yX12_point ∈ uw := uw_t5 22 rfl rfl
set_option maxRecDepth 100000 in
theorem kw_312 : Cond.instanceMethod yX12_point ∈ uw := uw_t5 24 rfl rfl
set_option maxRecDepth 100000 in
theorem kw_313 : Cond.selects RX12 yX12_point yX12_point ∈ uw := uw_s 31 rfl rfl
set_option maxRecDepth 100000 in
theorem kw_314 : Cond.code yX12_point cX12_point 7 none ∈ uw := uw_t5 25 rfl rfl
set_option maxRecDepth 100000 in
theorem kw_315 : Cond.methodLink RX12 159 yX12_close ∈ uw := uw_t5 45 rfl rfl
set_option maxRecDepth 100000 in
theorem kw_316 : Cond.instanceMethod yX12_close ∈ uw := uw_t5 47 rfl rfl
set_option maxRecDepth 100000 in
theorem kw_317 : Cond.selects RX12 yX12_close yX12_close ∈ uw := uw_s 33 rfl rfl
set_option maxRecDepth 100000 in
theorem kw_318 : Cond.code yX12_close cX12_close 3 none ∈ uw := uw_t5 48 rfl rfl
set_option maxRecDepth 100000 in
theorem kw_319 : Cond.fieldLink RX12 19 "ListPainterModel" "faultPlace" "I" ∈ uw := uw_t4 95 rfl rfl
set_option maxRecDepth 100000 in
theorem kw_320 : Cond.fieldLink RX12 113 "ListPainterModel" "fills" "I" ∈ uw := uw_t4 97 rfl rfl
set_option maxRecDepth 100000 in
theorem kw_321 : Cond.fieldLink RX12 116 "ListPainterModel" "painted" "I" ∈ uw := uw_t4 98 rfl rfl
set_option maxRecDepth 100000 in
theorem kw_322 : Cond.methodLink RX12 119 yX12_begin ∈ uw := uw_t4 212 rfl rfl
set_option maxRecDepth 100000 in
theorem kw_323 : Cond.instanceMethod yX12_begin ∈ uw := uw_t4 214 rfl rfl
set_option maxRecDepth 100000 in
theorem kw_324 : Cond.selects RX12 yX12_begin yX12_begin ∈ uw := uw_s 23 rfl rfl
set_option maxRecDepth 100000 in
theorem kw_325 : Cond.code yX12_begin cX12_begin 2 none ∈ uw := uw_t4 215 rfl rfl
set_option maxRecDepth 100000 in
theorem kw_326 : Cond.methodLink RX12 106 yX12_areBounds ∈ uw := uw_t4 198 rfl rfl
set_option maxRecDepth 100000 in
theorem kw_327 : Cond.instanceMethod yX12_areBounds ∈ uw := uw_t4 200 rfl rfl
set_option maxRecDepth 100000 in
theorem kw_328 : Cond.selects RX12 yX12_areBounds yX12_areBounds ∈ uw := uw_s 22 rfl rfl
set_option maxRecDepth 100000 in
theorem kw_329 : Cond.code yX12_areBounds cX12_areBounds 7 (some .boolean) ∈ uw := uw_t4 201 rfl rfl
set_option maxRecDepth 100000 in
theorem kw_330 : Cond.methodLink RX12 110 yX12_linesOf ∈ uw := uw_t4 209 rfl rfl
set_option maxRecDepth 100000 in
theorem kw_331 : Cond.static yX12_linesOf ∈ uw := uw_t4 210 rfl rfl
set_option maxRecDepth 100000 in
theorem kw_332 : Cond.code yX12_linesOf cX12_linesOf 1 (some .int) ∈ uw := uw_t4 211 rfl rfl
set_option maxRecDepth 100000 in
theorem kw_333 : Cond.fieldLink RX12 69 "ListPainterModel" "both" "[I" ∈ uw := uw_t4 114 rfl rfl
set_option maxRecDepth 100000 in
theorem kw_334 : Cond.methodLink RX12 162 yX12_compose ∈ uw := uw_t5 57 rfl rfl
set_option maxRecDepth 100000 in
theorem kw_335 : Cond.instanceMethod yX12_compose ∈ uw := uw_t5 59 rfl rfl
set_option maxRecDepth 100000 in
theorem kw_336 : Cond.selects RX12 yX12_compose yX12_compose ∈ uw := uw_s 36 rfl rfl
set_option maxRecDepth 100000 in
theorem kw_337 : Cond.code yX12_compose cX12_compose 20 none ∈ uw := uw_t5 60 rfl rfl
set_option maxRecDepth 100000 in
theorem kw_338 : Cond.fieldLink RX12 72 "ListPainterModel" "cut" "[I" ∈ uw := uw_t4 115 rfl rfl
set_option maxRecDepth 100000 in
theorem kw_339 : Cond.fieldLink RX12 26 "ListPainterModel" "saved" "[I" ∈ uw := uw_t4 100 rfl rfl
set_option maxRecDepth 100000 in
theorem kw_340 : Cond.methodLink RX12 166 yX12_move ∈ uw := uw_t5 18 rfl rfl
set_option maxRecDepth 100000 in
theorem kw_341 : Cond.instanceMethod yX12_move ∈ uw := uw_t5 20 rfl rfl
set_option maxRecDepth 100000 in
theorem kw_342 : Cond.selects RX12 yX12_move yX12_move ∈ uw := uw_s 30 rfl rfl
set_option maxRecDepth 100000 in
theorem kw_343 : Cond.code yX12_move cX12_move 5 none ∈ uw := uw_t5 21 rfl rfl
set_option maxRecDepth 100000 in
theorem kw_344 : Cond.methodLink RX12 170 yX12_curve ∈ uw := uw_t5 36 rfl rfl
set_option maxRecDepth 100000 in
theorem kw_345 : Cond.instanceMethod yX12_curve ∈ uw := uw_t5 38 rfl rfl
set_option maxRecDepth 100000 in
theorem kw_346 : Cond.selects RX12 yX12_curve yX12_curve ∈ uw := uw_s 32 rfl rfl
set_option maxRecDepth 100000 in
theorem kw_347 : Cond.code yX12_curve cX12_curve 9 none ∈ uw := uw_t5 39 rfl rfl
set_option maxRecDepth 100000 in
theorem kw_348 : Cond.methodLink RX12 174 yX12_box ∈ uw := uw_t5 49 rfl rfl
set_option maxRecDepth 100000 in
theorem kw_349 : Cond.instanceMethod yX12_box ∈ uw := uw_t5 51 rfl rfl
set_option maxRecDepth 100000 in
theorem kw_350 : Cond.selects RX12 yX12_box yX12_box ∈ uw := uw_s 34 rfl rfl
set_option maxRecDepth 100000 in
theorem kw_351 : Cond.code yX12_box cX12_box 6 none ∈ uw := uw_t5 52 rfl rfl
set_option maxRecDepth 100000 in
theorem kw_352 : Cond.methodLink RX12 177 yX12_composeTold ∈ uw := uw_t5 53 rfl rfl
set_option maxRecDepth 100000 in
theorem kw_353 : Cond.instanceMethod yX12_composeTold ∈ uw := uw_t5 55 rfl rfl
set_option maxRecDepth 100000 in
theorem kw_354 : Cond.selects RX12 yX12_composeTold yX12_composeTold ∈ uw := uw_s 35 rfl rfl
set_option maxRecDepth 100000 in
theorem kw_355 : Cond.code yX12_composeTold cX12_composeTold 4 none ∈ uw := uw_t5 56 rfl rfl
set_option maxRecDepth 100000 in
theorem kw_356 : Cond.methodLink RX12 181 yX12_clip ∈ uw := uw_t5 61 rfl rfl
set_option maxRecDepth 100000 in
theorem kw_357 : Cond.instanceMethod yX12_clip ∈ uw := uw_t5 63 rfl rfl
set_option maxRecDepth 100000 in
theorem kw_358 : Cond.selects RX12 yX12_clip yX12_clip ∈ uw := uw_s 37 rfl rfl
set_option maxRecDepth 100000 in
theorem kw_359 : Cond.code yX12_clip cX12_clip 9 none ∈ uw := uw_t5 64 rfl rfl
set_option maxRecDepth 100000 in
theorem kw_360 : Cond.methodLink RX12 184 yX12_part ∈ uw := uw_t5 7 rfl rfl
set_option maxRecDepth 100000 in
theorem kw_361 : Cond.static yX12_part ∈ uw := uw_t5 8 rfl rfl
set_option maxRecDepth 100000 in
theorem kw_362 : Cond.code yX12_part cX12_part 1 (some .int) ∈ uw := uw_t5 9 rfl rfl
set_option maxRecDepth 100000 in
theorem kw_363 : Cond.methodLink RX12 187 yX12_laid ∈ uw := uw_t5 10 rfl rfl
set_option maxRecDepth 100000 in
theorem kw_364 : Cond.static yX12_laid ∈ uw := uw_t5 11 rfl rfl
set_option maxRecDepth 100000 in
theorem kw_365 : Cond.code yX12_laid cX12_laid 5 (some .int) ∈ uw := uw_t5 12 rfl rfl
set_option maxRecDepth 100000 in
theorem kw_366 : Cond.constant RX12 200 1073741823 ∈ uw := uw_t5 13 rfl rfl
set_option maxRecDepth 100000 in
theorem kw_367 : Cond.constantLong RX12 190 65536 ∈ uw := uw_t4 238 rfl rfl
set_option maxRecDepth 100000 in
theorem kw_368 : Cond.methodLink RX12 192 yX12_isIn ∈ uw := uw_t5 0 rfl rfl
set_option maxRecDepth 100000 in
theorem kw_369 : Cond.instanceMethod yX12_isIn ∈ uw := uw_t5 2 rfl rfl
set_option maxRecDepth 100000 in
theorem kw_370 : Cond.selects RX12 yX12_isIn yX12_isIn ∈ uw := uw_s 28 rfl rfl
set_option maxRecDepth 100000 in
theorem kw_371 : Cond.code yX12_isIn cX12_isIn 19 (some .boolean) ∈ uw := uw_t5 3 rfl rfl
set_option maxRecDepth 100000 in
theorem kw_372 : Cond.fieldLink RX12 7 "ListPainterModel" "sheet" "[I" ∈ uw := uw_t4 91 rfl rfl
set_option maxRecDepth 100000 in
theorem kw_373 : Cond.methodLink RX12 196 yX12_paint ∈ uw := uw_t5 4 rfl rfl
set_option maxRecDepth 100000 in
theorem kw_374 : Cond.static yX12_paint ∈ uw := uw_t5 5 rfl rfl
set_option maxRecDepth 100000 in
theorem kw_375 : Cond.code yX12_paint cX12_paint 8 (some .int) ∈ uw := uw_t5 6 rfl rfl
set_option maxRecDepth 100000 in
theorem kw_376 : Cond.methodLink RX12 204 yX12_follow ∈ uw := uw_t5 14 rfl rfl
set_option maxRecDepth 100000 in
theorem kw_377 : Cond.instanceMethod yX12_follow ∈ uw := uw_t5 16 rfl rfl
set_option maxRecDepth 100000 in
theorem kw_378 : Cond.selects RX12 yX12_follow yX12_follow ∈ uw := uw_s 29 rfl rfl
set_option maxRecDepth 100000 in
theorem kw_379 : Cond.code yX12_follow cX12_follow 5 none ∈ uw := uw_t5 17 rfl rfl
set_option maxRecDepth 100000 in
theorem kw_380 : Cond.methodLink RX12 201 yX12_fill ∈ uw := uw_t4 234 rfl rfl
set_option maxRecDepth 100000 in
theorem kw_381 : Cond.instanceMethod yX12_fill ∈ uw := uw_t4 236 rfl rfl
set_option maxRecDepth 100000 in
theorem kw_382 : Cond.selects RX12 yX12_fill yX12_fill ∈ uw := uw_s 27 rfl rfl
set_option maxRecDepth 100000 in
theorem kw_383 : Cond.code yX12_fill cX12_fill 7 none ∈ uw := uw_t4 237 rfl rfl
set_option maxRecDepth 100000 in
theorem kw_384 : Cond.constant RX12 297 (-2000000000) ∈ uw := uw_t5 173 rfl rfl
set_option maxRecDepth 100000 in
theorem kw_385 : Cond.methodLink RX12 207 yX12_next ∈ uw := uw_t4 230 rfl rfl
set_option maxRecDepth 100000 in
theorem kw_386 : Cond.instanceMethod yX12_next ∈ uw := uw_t4 232 rfl rfl
set_option maxRecDepth 100000 in
theorem kw_387 : Cond.selects RX12 yX12_next yX12_next ∈ uw := uw_s 26 rfl rfl
set_option maxRecDepth 100000 in
theorem kw_388 : Cond.code yX12_next cX12_next 3 none ∈ uw := uw_t4 233 rfl rfl
set_option maxRecDepth 100000 in
theorem kw_389 : Cond.constant RX12 210 100000 ∈ uw := uw_t5 69 rfl rfl
set_option maxRecDepth 100000 in
theorem kw_390 : Cond.methodLink RX12 211 yX12_renderBy ∈ uw := uw_t5 70 rfl rfl
set_option maxRecDepth 100000 in
theorem kw_391 : Cond.instanceMethod yX12_renderBy ∈ uw := uw_t5 72 rfl rfl
set_option maxRecDepth 100000 in
theorem kw_392 : Cond.selects RX12 yX12_renderBy yX12_renderBy ∈ uw := uw_s 38 rfl rfl
set_option maxRecDepth 100000 in
theorem kw_393 : Cond.code yX12_renderBy cX12_renderBy 4 (some .int) ∈ uw := uw_t5 73 rfl rfl
set_option maxRecDepth 100000 in
theorem kw_394 : Cond.fieldLink RX12 215 "ListPainterModel" "other" "Z" ∈ uw := uw_t4 116 rfl rfl
set_option maxRecDepth 100000 in
theorem kw_395 : Cond.methodLink RX12 225 yX12_beginPass ∈ uw := uw_t5 94 rfl rfl
set_option maxRecDepth 100000 in
theorem kw_396 : Cond.instanceMethod yX12_beginPass ∈ uw := uw_t5 96 rfl rfl
set_option maxRecDepth 100000 in
theorem kw_397 : Cond.selects RX12 yX12_beginPass yX12_beginPass ∈ uw := uw_s 42 rfl rfl
set_option maxRecDepth 100000 in
theorem kw_398 : Cond.code yX12_beginPass cX12_beginPass 1 none ∈ uw := uw_t5 97 rfl rfl
set_option maxRecDepth 100000 in
theorem kw_399 : Cond.methodLink RX12 231 yX12_endPass ∈ uw := uw_t5 102 rfl rfl
set_option maxRecDepth 100000 in
theorem kw_400 : Cond.instanceMethod yX12_endPass ∈ uw := uw_t5 104 rfl rfl
set_option maxRecDepth 100000 in
theorem kw_401 : Cond.selects RX12 yX12_endPass yX12_endPass ∈ uw := uw_s 44 rfl rfl
set_option maxRecDepth 100000 in
theorem kw_402 : Cond.code yX12_endPass cX12_endPass 2 none ∈ uw := uw_t5 105 rfl rfl
set_option maxRecDepth 100000 in
theorem kw_403 : Cond.methodLink RX12 218 yX12_endPlace ∈ uw := uw_t5 86 rfl rfl
set_option maxRecDepth 100000 in
theorem kw_404 : Cond.instanceMethod yX12_endPlace ∈ uw := uw_t5 88 rfl rfl
set_option maxRecDepth 100000 in
theorem kw_405 : Cond.selects RX12 yX12_endPlace yX12_endPlace ∈ uw := uw_s 40 rfl rfl
set_option maxRecDepth 100000 in
theorem kw_406 : Cond.code yX12_endPlace cX12_endPlace 1 (some .int) ∈ uw := uw_t5 89 rfl rfl
set_option maxRecDepth 100000 in
theorem kw_407 : Cond.methodLink RX12 222 yX12_behind ∈ uw := uw_t5 90 rfl rfl
set_option maxRecDepth 100000 in
theorem kw_408 : Cond.instanceMethod yX12_behind ∈ uw := uw_t5 92 rfl rfl
set_option maxRecDepth 100000 in
theorem kw_409 : Cond.selects RX12 yX12_behind yX12_behind ∈ uw := uw_s 41 rfl rfl
set_option maxRecDepth 100000 in
theorem kw_410 : Cond.code yX12_behind cX12_behind 2 (some .int) ∈ uw := uw_t5 93 rfl rfl
set_option maxRecDepth 100000 in
theorem kw_411 : Cond.methodLink RX12 228 yX12_keepCommand ∈ uw := uw_t5 98 rfl rfl
set_option maxRecDepth 100000 in
theorem kw_412 : Cond.instanceMethod yX12_keepCommand ∈ uw := uw_t5 100 rfl rfl
set_option maxRecDepth 100000 in
theorem kw_413 : Cond.selects RX12 yX12_keepCommand yX12_keepCommand ∈ uw := uw_s 43 rfl rfl
set_option maxRecDepth 100000 in
theorem kw_414 : Cond.code yX12_keepCommand cX12_keepCommand 3 none ∈ uw := uw_t5 101 rfl rfl
set_option maxRecDepth 100000 in
theorem kw_415 : Cond.constantLong RX12 236 9223372036854775807 ∈ uw := uw_t5 114 rfl rfl
set_option maxRecDepth 100000 in
theorem kw_416 : Cond.constantLong RX12 238 (-9223372036854775808) ∈ uw := uw_t5 115 rfl rfl
set_option maxRecDepth 100000 in
theorem kw_417 : Cond.methodLink RX12 240 yX12_maySee ∈ uw := uw_t5 110 rfl rfl
set_option maxRecDepth 100000 in
theorem kw_418 : Cond.instanceMethod yX12_maySee ∈ uw := uw_t5 112 rfl rfl
set_option maxRecDepth 100000 in
theorem kw_419 : Cond.selects RX12 yX12_maySee yX12_maySee ∈ uw := uw_s 46 rfl rfl
set_option maxRecDepth 100000 in
theorem kw_420 : Cond.code yX12_maySee cX12_maySee 13 (some .boolean) ∈ uw := uw_t5 113 rfl rfl
set_option maxRecDepth 100000 in
theorem kw_421 : Cond.methodLink RX12 244 yX12_draws ∈ uw := uw_t5 120 rfl rfl
set_option maxRecDepth 100000 in
theorem kw_422 : Cond.static yX12_draws ∈ uw := uw_t5 121 rfl rfl
set_option maxRecDepth 100000 in
theorem kw_423 : Cond.code yX12_draws cX12_draws 1 (some .boolean) ∈ uw := uw_t5 122 rfl rfl
set_option maxRecDepth 100000 in
theorem kw_424 : Cond.methodLink RX12 248 yX12_leaves ∈ uw := uw_t5 135 rfl rfl
set_option maxRecDepth 100000 in
theorem kw_425 : Cond.instanceMethod yX12_leaves ∈ uw := uw_t5 137 rfl rfl
set_option maxRecDepth 100000 in
theorem kw_426 : Cond.selects RX12 yX12_leaves yX12_leaves ∈ uw := uw_s 51 rfl rfl
set_option maxRecDepth 100000 in
theorem kw_427 : Cond.code yX12_leaves cX12_leaves 6 (some .boolean) ∈ uw := uw_t5 138 rfl rfl
set_option maxRecDepth 100000 in
theorem kw_428 : Cond.constant RX12 251 65535 ∈ uw := uw_t5 147 rfl rfl
set_option maxRecDepth 100000 in
theorem kw_429 : Cond.constantLong RX12 252 (-32768) ∈ uw := uw_t5 159 rfl rfl
set_option maxRecDepth 100000 in
theorem kw_430 : Cond.constantLong RX12 254 32767 ∈ uw := uw_t5 160 rfl rfl
set_option maxRecDepth 100000 in
theorem kw_431 : Cond.methodLink RX12 256 yX12_whole ∈ uw := uw_t5 152 rfl rfl
set_option maxRecDepth 100000 in
theorem kw_432 : Cond.instanceMethod yX12_whole ∈ uw := uw_t5 154 rfl rfl
set_option maxRecDepth 100000 in
theorem kw_433 : Cond.selects RX12 yX12_whole yX12_whole ∈ uw := uw_s 55 rfl rfl
set_option maxRecDepth 100000 in
theorem kw_434 : Cond.code yX12_whole cX12_whole 2 (some .long) ∈ uw := uw_t5 155 rfl rfl
set_option maxRecDepth 100000 in
theorem kw_435 : Cond.methodLink RX12 260 yX12_isShort ∈ uw := uw_t5 156 rfl rfl
set_option maxRecDepth 100000 in
theorem kw_436 : Cond.static yX12_isShort ∈ uw := uw_t5 157 rfl rfl
set_option maxRecDepth 100000 in
theorem kw_437 : Cond.code yX12_isShort cX12_isShort 2 (some .boolean) ∈ uw := uw_t5 158 rfl rfl
set_option maxRecDepth 100000 in
theorem kw_438 : Cond.methodLink RX12 264 yX12_areRound ∈ uw := uw_t5 143 rfl rfl
set_option maxRecDepth 100000 in
theorem kw_439 : Cond.instanceMethod yX12_areRound ∈ uw := uw_t5 145 rfl rfl
set_option maxRecDepth 100000 in
theorem kw_440 : Cond.selects RX12 yX12_areRound yX12_areRound ∈ uw := uw_s 53 rfl rfl
set_option maxRecDepth 100000 in
theorem kw_441 : Cond.code yX12_areRound cX12_areRound 4 (some .boolean) ∈ uw := uw_t5 146 rfl rfl
set_option maxRecDepth 100000 in
theorem kw_442 : Cond.methodLink RX12 267 yX12_fitBoth ∈ uw := uw_t5 148 rfl rfl
set_option maxRecDepth 100000 in
theorem kw_443 : Cond.instanceMethod yX12_fitBoth ∈ uw := uw_t5 150 rfl rfl
set_option maxRecDepth 100000 in
theorem kw_444 : Cond.selects RX12 yX12_fitBoth yX12_fitBoth ∈ uw := uw_s 54 rfl rfl
set_option maxRecDepth 100000 in
theorem kw_445 : Cond.code yX12_fitBoth cX12_fitBoth 9 (some .boolean) ∈ uw := uw_t5 151 rfl rfl
set_option maxRecDepth 100000 in
theorem kw_446 : Cond.methodLink RX12 270 yX12_passA ∈ uw := uw_t5 82 rfl rfl
set_option maxRecDepth 100000 in
theorem kw_447 : Cond.instanceMethod yX12_passA ∈ uw := uw_t5 84 rfl rfl
set_option maxRecDepth 100000 in
theorem kw_448 : Cond.selects RX12 yX12_passA yX12_passA ∈ uw := uw_s 39 rfl rfl
set_option maxRecDepth 100000 in
theorem kw_449 : Cond.code yX12_passA cX12_passA 7 none ∈ uw := uw_t5 85 rfl rfl
set_option maxRecDepth 100000 in
theorem kw_450 : Cond.methodLink RX12 273 yX12_passB ∈ uw := uw_t5 106 rfl rfl
set_option maxRecDepth 100000 in
theorem kw_451 : Cond.instanceMethod yX12_passB ∈ uw := uw_t5 108 rfl rfl
set_option maxRecDepth 100000 in
theorem kw_452 : Cond.selects RX12 yX12_passB yX12_passB ∈ uw := uw_s 45 rfl rfl
set_option maxRecDepth 100000 in
theorem kw_453 : Cond.code yX12_passB cX12_passB 2 none ∈ uw := uw_t5 109 rfl rfl
set_option maxRecDepth 100000 in
theorem kw_454 : Cond.methodLink RX12 276 yX12_passC ∈ uw := uw_t5 116 rfl rfl
set_option maxRecDepth 100000 in
theorem kw_455 : Cond.instanceMethod yX12_passC ∈ uw := uw_t5 118 rfl rfl
set_option maxRecDepth 100000 in
theorem kw_456 : Cond.selects RX12 yX12_passC yX12_passC ∈ uw := uw_s 47 rfl rfl
set_option maxRecDepth 100000 in
theorem kw_457 : Cond.code yX12_passC cX12_passC 4 none ∈ uw := uw_t5 119 rfl rfl
set_option maxRecDepth 100000 in
theorem kw_458 : Cond.methodLink RX12 279 yX12_passD ∈ uw := uw_t5 123 rfl rfl
set_option maxRecDepth 100000 in
theorem kw_459 : Cond.instanceMethod yX12_passD ∈ uw := uw_t5 125 rfl rfl
set_option maxRecDepth 100000 in
theorem kw_460 : Cond.selects RX12 yX12_passD yX12_passD ∈ uw := uw_s 48 rfl rfl
set_option maxRecDepth 100000 in
theorem kw_461 : Cond.code yX12_passD cX12_passD 4 none ∈ uw := uw_t5 126 rfl rfl
set_option maxRecDepth 100000 in
theorem kw_462 : Cond.methodLink RX12 282 yX12_passE ∈ uw := uw_t5 127 rfl rfl
set_option maxRecDepth 100000 in
theorem kw_463 : Cond.instanceMethod yX12_passE ∈ uw := uw_t5 129 rfl rfl
set_option maxRecDepth 100000 in
theorem kw_464 : Cond.selects RX12 yX12_passE yX12_passE ∈ uw := uw_s 49 rfl rfl
set_option maxRecDepth 100000 in
theorem kw_465 : Cond.code yX12_passE cX12_passE 6 none ∈ uw := uw_t5 130 rfl rfl
set_option maxRecDepth 100000 in
theorem kw_466 : Cond.methodLink RX12 285 yX12_passF ∈ uw := uw_t5 131 rfl rfl
set_option maxRecDepth 100000 in
theorem kw_467 : Cond.instanceMethod yX12_passF ∈ uw := uw_t5 133 rfl rfl
set_option maxRecDepth 100000 in
theorem kw_468 : Cond.selects RX12 yX12_passF yX12_passF ∈ uw := uw_s 50 rfl rfl
set_option maxRecDepth 100000 in
theorem kw_469 : Cond.code yX12_passF cX12_passF 2 none ∈ uw := uw_t5 134 rfl rfl
set_option maxRecDepth 100000 in
theorem kw_470 : Cond.methodLink RX12 288 yX12_passG ∈ uw := uw_t5 139 rfl rfl
set_option maxRecDepth 100000 in
theorem kw_471 : Cond.instanceMethod yX12_passG ∈ uw := uw_t5 141 rfl rfl
set_option maxRecDepth 100000 in
theorem kw_472 : Cond.selects RX12 yX12_passG yX12_passG ∈ uw := uw_s 52 rfl rfl
set_option maxRecDepth 100000 in
theorem kw_473 : Cond.code yX12_passG cX12_passG 5 none ∈ uw := uw_t5 142 rfl rfl
set_option maxRecDepth 100000 in
theorem kw_474 : Cond.methodLink RX12 291 yX12_passH ∈ uw := uw_t5 161 rfl rfl
set_option maxRecDepth 100000 in
theorem kw_475 : Cond.instanceMethod yX12_passH ∈ uw := uw_t5 163 rfl rfl
set_option maxRecDepth 100000 in
theorem kw_476 : Cond.selects RX12 yX12_passH yX12_passH ∈ uw := uw_s 56 rfl rfl
set_option maxRecDepth 100000 in
theorem kw_477 : Cond.code yX12_passH cX12_passH 5 none ∈ uw := uw_t5 164 rfl rfl
set_option maxRecDepth 100000 in
theorem kw_478 : Cond.methodLink RX12 294 yX12_passI ∈ uw := uw_t5 165 rfl rfl
set_option maxRecDepth 100000 in
theorem kw_479 : Cond.instanceMethod yX12_passI ∈ uw := uw_t5 167 rfl rfl
set_option maxRecDepth 100000 in
theorem kw_480 : Cond.selects RX12 yX12_passI yX12_passI ∈ uw := uw_s 57 rfl rfl
set_option maxRecDepth 100000 in
theorem kw_481 : Cond.code yX12_passI cX12_passI 3 none ∈ uw := uw_t5 168 rfl rfl
set_option maxRecDepth 100000 in
theorem kw_482 : Cond.fieldLink RX3 44 "ListPainter$Machine" "place" "I" ∈ uw := uw_t2 24 rfl rfl
set_option maxRecDepth 100000 in
theorem kw_483 : Cond.fieldLink RX3 48 "ListPainter$Machine" "open" "I" ∈ uw := uw_t2 23 rfl rfl
set_option maxRecDepth 100000 in
theorem kw_484 : Cond.fieldLink RX3 21 "ListPainter$Machine" "now" "LListPainter$Settings;" ∈ uw := uw_t2 19 rfl rfl
set_option maxRecDepth 100000 in
theorem kw_485 : Cond.fieldLink RX3 36 "ListPainter$Machine" "sheet" "LListPainter$Sheet;" ∈ uw := uw_t2 15 rfl rfl
set_option maxRecDepth 100000 in
theorem kw_486 : Cond.methodLink RX3 51 yX6_becomeFirst ∈ uw := uw_t2 191 rfl rfl
set_option maxRecDepth 100000 in
theorem kw_487 : Cond.instanceMethod yX6_becomeFirst ∈ uw := uw_t2 192 rfl rfl
set_option maxRecDepth 100000 in
theorem kw_488 : Cond.selects RX6 yX6_becomeFirst yX6_becomeFirst ∈ uw := uw_t2 193 rfl rfl
set_option maxRecDepth 100000 in
theorem kw_489 : Cond.initialized RX6 ∈ uw := uw_t1 9 rfl rfl
set_option maxRecDepth 100000 in
theorem kw_490 : Cond.code yX6_becomeFirst cX6_becomeFirst 2 none ∈ uw := uw_t2 194 rfl rfl
set_option maxRecDepth 100000 in
theorem kw_491 : Cond.fieldLink RX3 12 "ListPainter$Machine" "path" "LListPainter$Path;" ∈ uw := uw_t2 17 rfl rfl
set_option maxRecDepth 100000 in
theorem kw_492 : Cond.methodLink RX3 55 yX5_becomeEmpty ∈ uw := uw_t2 205 rfl rfl
set_option maxRecDepth 100000 in
theorem kw_493 : Cond.instanceMethod yX5_becomeEmpty ∈ uw := uw_t2 206 rfl rfl
set_option maxRecDepth 100000 in
theorem kw_494 : Cond.selects RX5 yX5_becomeEmpty yX5_becomeEmpty ∈ uw := uw_t2 207 rfl rfl
set_option maxRecDepth 100000 in
theorem kw_495 : Cond.code yX5_becomeEmpty cX5_becomeEmpty 1 none ∈ uw := uw_t2 208 rfl rfl
set_option maxRecDepth 100000 in
theorem kw_496 : Cond.fieldLink RX3 58 "ListPainter$Machine" "fills" "I" ∈ uw := uw_t2 25 rfl rfl
set_option maxRecDepth 100000 in
theorem kw_497 : Cond.fieldLink RX3 61 "ListPainter$Machine" "painted" "I" ∈ uw := uw_t2 26 rfl rfl
set_option maxRecDepth 100000 in
theorem kw_498 : Cond.fieldLink RX3 32 "ListPainter$Machine" "saved" "[LListPainter$Settings;" ∈ uw := uw_t2 22 rfl rfl
set_option maxRecDepth 100000 in
theorem kw_499 : Cond.methodLink RX3 145 yX6_copyFrom ∈ uw := uw_t3 55 rfl rfl
set_option maxRecDepth 100000 in
theorem kw_500 : Cond.instanceMethod yX6_copyFrom ∈ uw := uw_t3 56 rfl rfl
set_option maxRecDepth 100000 in
theorem kw_501 : Cond.selects RX6 yX6_copyFrom yX6_copyFrom ∈ uw := uw_t3 57 rfl rfl
set_option maxRecDepth 100000 in
theorem kw_502 : Cond.code yX6_copyFrom cX6_copyFrom 2 none ∈ uw := uw_t3 58 rfl rfl
set_option maxRecDepth 100000 in
theorem kw_503 : tables_1[234]? = some (Cond.fieldLinkNest RX3 133 "ListPainter$Settings" "clip" "LListPainter$Clip;" "ListPainter") := rfl
set_option maxRecDepth 100000 in
theorem kw_504 : tables_1[206]? = some (Cond.fieldLinkNest RX3 158 "ListPainter$Clip" "x" "I" "ListPainter") := rfl
set_option maxRecDepth 100000 in
theorem kw_505 : tables_1[209]? = some (Cond.fieldLinkNest RX3 161 "ListPainter$Clip" "y" "I" "ListPainter") := rfl
set_option maxRecDepth 100000 in
theorem kw_506 : tables_1[213]? = some (Cond.fieldLinkNest RX3 164 "ListPainter$Clip" "endX" "I" "ListPainter") := rfl
set_option maxRecDepth 100000 in
theorem kw_507 : tables_1[217]? = some (Cond.fieldLinkNest RX3 167 "ListPainter$Clip" "endY" "I" "ListPainter") := rfl
set_option maxRecDepth 100000 in
theorem kw_508 : Cond.constant RX3 170 (-2000000000) ∈ uw := uw_t4 75 rfl rfl
set_option maxRecDepth 100000 in
theorem kw_509 : tables_1[229]? = some (Cond.fieldLinkNest RX3 100 "ListPainter$Settings" "table" "LListPainter$Table;" "ListPainter") := rfl
set_option maxRecDepth 100000 in
theorem kw_510 : tables_1[174]? = some (Cond.fieldLinkNest RX3 171 "ListPainter$Table" "a" "I" "ListPainter") := rfl
set_option maxRecDepth 100000 in
theorem kw_511 : tables_1[176]? = some (Cond.fieldLinkNest RX3 174 "ListPainter$Table" "b" "I" "ListPainter") := rfl
set_option maxRecDepth 100000 in
theorem kw_512 : tables_1[178]? = some (Cond.fieldLinkNest RX3 177 "ListPainter$Table" "c" "I" "ListPainter") := rfl
set_option maxRecDepth 100000 in
theorem kw_513 : tables_1[180]? = some (Cond.fieldLinkNest RX3 180 "ListPainter$Table" "d" "I" "ListPainter") := rfl
set_option maxRecDepth 100000 in
theorem kw_514 : tables_1[182]? = some (Cond.fieldLinkNest RX3 183 "ListPainter$Table" "e" "I" "ListPainter") := rfl
set_option maxRecDepth 100000 in
theorem kw_515 : tables_1[184]? = some (Cond.fieldLinkNest RX3 186 "ListPainter$Table" "f" "I" "ListPainter") := rfl
set_option maxRecDepth 100000 in
theorem kw_516 : Cond.methodLink RX3 155 yX3_toldOfTable ∈ uw := uw_t4 76 rfl rfl
set_option maxRecDepth 100000 in
theorem kw_517 : Cond.instanceMethod yX3_toldOfTable ∈ uw := uw_t4 78 rfl rfl
set_option maxRecDepth 100000 in
theorem kw_518 : Cond.selects RX3 yX3_toldOfTable yX3_toldOfTable ∈ uw := uw_s 20 rfl rfl
set_option maxRecDepth 100000 in
theorem kw_519 : Cond.initialized RX3 ∈ uw := uw_t1 7 rfl rfl
set_option maxRecDepth 100000 in
theorem kw_520 : Cond.code yX3_toldOfTable cX3_toldOfTable 2 (some .int) ∈ uw := uw_t4 79 rfl rfl
set_option maxRecDepth 100000 in
theorem kw_521 : Cond.methodLink RX3 152 yX3_toldOfClip ∈ uw := uw_t4 71 rfl rfl
set_option maxRecDepth 100000 in
theorem kw_522 : Cond.instanceMethod yX3_toldOfClip ∈ uw := uw_t4 73 rfl rfl
set_option maxRecDepth 100000 in
theorem kw_523 : Cond.selects RX3 yX3_toldOfClip yX3_toldOfClip ∈ uw := uw_s 19 rfl rfl
set_option maxRecDepth 100000 in
theorem kw_524 : Cond.code yX3_toldOfClip cX3_toldOfClip 2 (some .int) ∈ uw := uw_t4 74 rfl rfl
set_option maxRecDepth 100000 in
theorem kw_525 : tables_1[237]? = some (Cond.fieldLinkNest RX3 120 "ListPainter$Settings" "colour" "I" "ListPainter") := rfl
set_option maxRecDepth 100000 in
theorem kw_526 : tables_1[241]? = some (Cond.fieldLinkNest RX3 123 "ListPainter$Settings" "way" "I" "ListPainter") := rfl
set_option maxRecDepth 100000 in
theorem kw_527 : tables_1[124]? = some (Cond.fieldLinkNest RX3 149 "ListPainter$Path" "lines" "I" "ListPainter") := rfl
set_option maxRecDepth 100000 in
theorem kw_528 : Cond.methodLink RX3 80 yX10_word ∈ uw := uw_t2 222 rfl rfl
set_option maxRecDepth 100000 in
theorem kw_529 : Cond.methodLink RX3 94 yX3_save ∈ uw := uw_t3 51 rfl rfl
set_option maxRecDepth 100000 in
theorem kw_530 : Cond.instanceMethod yX3_save ∈ uw := uw_t3 53 rfl rfl
set_option maxRecDepth 100000 in
theorem kw_531 : Cond.selects RX3 yX3_save yX3_save ∈ uw := uw_s 7 rfl rfl
set_option maxRecDepth 100000 in
theorem kw_532 : Cond.code yX3_save cX3_save 1 none ∈ uw := uw_t3 54 rfl rfl
set_option maxRecDepth 100000 in
theorem kw_533 : Cond.methodLink RX3 97 yX3_bringBack ∈ uw := uw_t3 68 rfl rfl
set_option maxRecDepth 100000 in
theorem kw_534 : Cond.instanceMethod yX3_bringBack ∈ uw := uw_t3 70 rfl rfl
set_option maxRecDepth 100000 in
theorem kw_535 : Cond.selects RX3 yX3_bringBack yX3_bringBack ∈ uw := uw_s 8 rfl rfl
set_option maxRecDepth 100000 in
theorem kw_536 : Cond.code yX3_bringBack cX3_bringBack 1 none ∈ uw := uw_t3 71 rfl rfl
set_option maxRecDepth 100000 in
theorem kw_537 : Cond.methodLink RX3 103 yX5_begin ∈ uw := uw_t3 72 rfl rfl
set_option maxRecDepth 100000 in
theorem kw_538 : Cond.methodLink RX3 107 yX5_lineTo ∈ uw := uw_t3 101 rfl rfl
set_option maxRecDepth 100000 in
theorem kw_539 : Cond.methodLink RX3 110 yX5_curve ∈ uw := uw_t3 105 rfl rfl
set_option maxRecDepth 100000 in
theorem kw_540 : Cond.instanceMethod yX5_curve ∈ uw := uw_t3 106 rfl rfl
set_option maxRecDepth 100000 in
theorem kw_541 : Cond.selects RX5 yX5_curve yX5_curve ∈ uw := uw_t3 107 rfl rfl
set_option maxRecDepth 100000 in
theorem kw_542 : Cond.code yX5_curve cX5_curve 9 none ∈ uw := uw_t3 108 rfl rfl
set_option maxRecDepth 100000 in
theorem kw_543 : Cond.methodLink RX3 114 yX5_close ∈ uw := uw_t3 114 rfl rfl
set_option maxRecDepth 100000 in
theorem kw_544 : Cond.methodLink RX3 117 yX5_box ∈ uw := uw_t3 118 rfl rfl
set_option maxRecDepth 100000 in
theorem kw_545 : Cond.instanceMethod yX5_box ∈ uw := uw_t3 119 rfl rfl
set_option maxRecDepth 100000 in
theorem kw_546 : Cond.selects RX5 yX5_box yX5_box ∈ uw := uw_t3 120 rfl rfl
set_option maxRecDepth 100000 in
theorem kw_547 : Cond.code yX5_box cX5_box 6 none ∈ uw := uw_t3 121 rfl rfl
set_option maxRecDepth 100000 in
theorem kw_548 : Cond.fieldLink RX3 28 "ListPainter$Machine" "nextTable" "LListPainter$Table;" ∈ uw := uw_t2 21 rfl rfl
set_option maxRecDepth 100000 in
theorem kw_549 : Cond.methodLink RX3 126 yX9_readFrom ∈ uw := uw_t3 124 rfl rfl
set_option maxRecDepth 100000 in
theorem kw_550 : Cond.instanceMethod yX9_readFrom ∈ uw := uw_t3 125 rfl rfl
set_option maxRecDepth 100000 in
theorem kw_551 : Cond.selects RX9 yX9_readFrom yX9_readFrom ∈ uw := uw_t3 126 rfl rfl
set_option maxRecDepth 100000 in
theorem kw_552 : Cond.code yX9_readFrom cX9_readFrom 3 none ∈ uw := uw_t3 127 rfl rfl
set_option maxRecDepth 100000 in
theorem kw_553 : Cond.methodLink RX3 129 yX9_goBehind ∈ uw := uw_t3 129 rfl rfl
set_option maxRecDepth 100000 in
theorem kw_554 : Cond.instanceMethod yX9_goBehind ∈ uw := uw_t3 130 rfl rfl
set_option maxRecDepth 100000 in
theorem kw_555 : Cond.selects RX9 yX9_goBehind yX9_goBehind ∈ uw := uw_t3 131 rfl rfl
set_option maxRecDepth 100000 in
theorem kw_556 : Cond.code yX9_goBehind cX9_goBehind 6 none ∈ uw := uw_t3 132 rfl rfl
set_option maxRecDepth 100000 in
theorem kw_557 : Cond.methodLink RX3 137 yX1_narrowBy ∈ uw := uw_t3 133 rfl rfl
set_option maxRecDepth 100000 in
theorem kw_558 : Cond.instanceMethod yX1_narrowBy ∈ uw := uw_t3 134 rfl rfl
set_option maxRecDepth 100000 in
theorem kw_559 : Cond.selects RX1 yX1_narrowBy yX1_narrowBy ∈ uw := uw_t3 135 rfl rfl
set_option maxRecDepth 100000 in
theorem kw_560 : Cond.code yX1_narrowBy cX1_narrowBy 5 none ∈ uw := uw_t3 136 rfl rfl
set_option maxRecDepth 100000 in
theorem kw_561 : Cond.methodLink RX3 142 yX9_becomePlain ∈ uw := uw_t3 140 rfl rfl
set_option maxRecDepth 100000 in
theorem kw_562 : tables_1[64]? = some (Cond.fieldLinkNest RX3 71 "ListPainter$Words" "count" "I" "ListPainter") := rfl
set_option maxRecDepth 100000 in
theorem kw_563 : Cond.methodLink RX3 76 yX10_lengthAt ∈ uw := uw_t2 221 rfl rfl
set_option maxRecDepth 100000 in
theorem kw_564 : Cond.methodLink RX3 90 yX3_follow ∈ uw := uw_t3 47 rfl rfl
set_option maxRecDepth 100000 in
theorem kw_565 : Cond.instanceMethod yX3_follow ∈ uw := uw_t3 48 rfl rfl
set_option maxRecDepth 100000 in
theorem kw_566 : Cond.selects RX3 yX3_follow yX3_follow ∈ uw := uw_t3 49 rfl rfl
set_option maxRecDepth 100000 in
theorem kw_567 : Cond.code yX3_follow cX3_follow 5 none ∈ uw := uw_t3 50 rfl rfl
set_option maxRecDepth 100000 in
theorem kw_568 : Cond.fieldLink RX3 40 "ListPainter$Machine" "filler" "LListPainter$Filler;" ∈ uw := uw_t2 16 rfl rfl
set_option maxRecDepth 100000 in
theorem kw_569 : Cond.methodLink RX3 83 yX2_fill ∈ uw := uw_t2 223 rfl rfl
set_option maxRecDepth 100000 in
theorem kw_570 : Cond.instanceMethod yX2_fill ∈ uw := uw_t2 224 rfl rfl
set_option maxRecDepth 100000 in
theorem kw_571 : Cond.selects RX2 yX2_fill yX2_fill ∈ uw := uw_t2 225 rfl rfl
set_option maxRecDepth 100000 in
theorem kw_572 : Cond.code yX2_fill cX2_fill 7 (some .int) ∈ uw := uw_t2 226 rfl rfl
set_option maxRecDepth 100000 in
theorem kw_573 : Cond.constant RX3 89 1073741823 ∈ uw := uw_t3 46 rfl rfl
set_option maxRecDepth 100000 in
theorem kw_574 : Cond.methodLink RX3 64 yX3_restart ∈ uw := uw_t3 153 rfl rfl
set_option maxRecDepth 100000 in
theorem kw_575 : Cond.instanceMethod yX3_restart ∈ uw := uw_t2 188 rfl rfl
set_option maxRecDepth 100000 in
theorem kw_576 : Cond.selects RX3 yX3_restart yX3_restart ∈ uw := uw_t2 189 rfl rfl
set_option maxRecDepth 100000 in
theorem kw_577 : Cond.code yX3_restart cX3_restart 1 none ∈ uw := uw_t2 190 rfl rfl
set_option maxRecDepth 100000 in
theorem kw_578 : Cond.methodLink RX3 67 yX3_doNext ∈ uw := uw_t3 154 rfl rfl
set_option maxRecDepth 100000 in
theorem kw_579 : Cond.instanceMethod yX3_doNext ∈ uw := uw_t2 218 rfl rfl
set_option maxRecDepth 100000 in
theorem kw_580 : Cond.selects RX3 yX3_doNext yX3_doNext ∈ uw := uw_t2 219 rfl rfl
set_option maxRecDepth 100000 in
theorem kw_581 : Cond.code yX3_doNext cX3_doNext 4 (some .boolean) ∈ uw := uw_t2 220 rfl rfl
set_option maxRecDepth 100000 in
theorem kw_582 : Cond.fieldLink RX8 57 "ListPainter$Shortener" "openedBehind" "I" ∈ uw := uw_t2 64 rfl rfl
set_option maxRecDepth 100000 in
theorem kw_583 : Cond.fieldLink RX8 28 "ListPainter$Shortener" "list" "LListPainter$Words;" ∈ uw := uw_t2 58 rfl rfl
set_option maxRecDepth 100000 in
theorem kw_584 : Cond.methodLink RX8 67 yX10_word ∈ uw := uw_t3 181 rfl rfl
set_option maxRecDepth 100000 in
theorem kw_585 : Cond.methodLink RX8 106 yX10_firstBehind ∈ uw := uw_t3 195 rfl rfl
set_option maxRecDepth 100000 in
theorem kw_586 : Cond.instanceMethod yX10_firstBehind ∈ uw := uw_t3 196 rfl rfl
set_option maxRecDepth 100000 in
theorem kw_587 : Cond.selects RX10 yX10_firstBehind yX10_firstBehind ∈ uw := uw_t3 197 rfl rfl
set_option maxRecDepth 100000 in
theorem kw_588 : Cond.code yX10_firstBehind cX10_firstBehind 5 (some .int) ∈ uw := uw_t3 198 rfl rfl
set_option maxRecDepth 100000 in
theorem kw_589 : Cond.fieldLink RX8 32 "ListPainter$Shortener" "machine" "LListPainter$Machine;" ∈ uw := uw_t2 59 rfl rfl
set_option maxRecDepth 100000 in
theorem kw_590 : tables_1[260]? = some (Cond.fieldLinkNest RX8 93 "ListPainter$Machine" "now" "LListPainter$Settings;" "ListPainter") := rfl
set_option maxRecDepth 100000 in
theorem kw_591 : tables_1[240]? = some (Cond.fieldLinkNest RX8 136 "ListPainter$Settings" "way" "I" "ListPainter") := rfl
set_option maxRecDepth 100000 in
theorem kw_592 : tables_1[236]? = some (Cond.fieldLinkNest RX8 133 "ListPainter$Settings" "colour" "I" "ListPainter") := rfl
set_option maxRecDepth 100000 in
theorem kw_593 : Cond.fieldLink RX8 12 "ListPainter$Shortener" "clip" "LListPainter$Clip;" ∈ uw := uw_t2 60 rfl rfl
set_option maxRecDepth 100000 in
theorem kw_594 : tables_1[233]? = some (Cond.fieldLinkNest RX8 97 "ListPainter$Settings" "clip" "LListPainter$Clip;" "ListPainter") := rfl
set_option maxRecDepth 100000 in
theorem kw_595 : Cond.methodLink RX8 139 yX1_copyFrom ∈ uw := uw_t3 211 rfl rfl
set_option maxRecDepth 100000 in
theorem kw_596 : Cond.methodLink RX8 143 yX1_narrowBy ∈ uw := uw_t3 212 rfl rfl
set_option maxRecDepth 100000 in
theorem kw_597 : Cond.methodLink RX8 146 yX1_isSameAs ∈ uw := uw_t3 213 rfl rfl
set_option maxRecDepth 100000 in
theorem kw_598 : Cond.instanceMethod yX1_isSameAs ∈ uw := uw_t3 214 rfl rfl
set_option maxRecDepth 100000 in
theorem kw_599 : Cond.selects RX1 yX1_isSameAs yX1_isSameAs ∈ uw := uw_t3 215 rfl rfl
set_option maxRecDepth 100000 in
theorem kw_600 : Cond.code yX1_isSameAs cX1_isSameAs 2 (some .boolean) ∈ uw := uw_t3 216 rfl rfl
set_option maxRecDepth 100000 in
theorem kw_601 : Cond.fieldLink RX8 21 "ListPainter$Shortener" "table" "LListPainter$Table;" ∈ uw := uw_t2 61 rfl rfl
set_option maxRecDepth 100000 in
theorem kw_602 : Cond.methodLink RX8 149 yX9_becomePlain ∈ uw := uw_t3 221 rfl rfl
set_option maxRecDepth 100000 in
theorem kw_603 : tables_1[230]? = some (Cond.fieldLinkNest RX8 155 "ListPainter$Settings" "table" "LListPainter$Table;" "ListPainter") := rfl
set_option maxRecDepth 100000 in
theorem kw_604 : Cond.methodLink RX8 162 yX9_isSameAs ∈ uw := uw_t3 225 rfl rfl
set_option maxRecDepth 100000 in
theorem kw_605 : Cond.instanceMethod yX9_isSameAs ∈ uw := uw_t3 226 rfl rfl
set_option maxRecDepth 100000 in
theorem kw_606 : Cond.selects RX9 yX9_isSameAs yX9_isSameAs ∈ uw := uw_t3 227 rfl rfl
set_option maxRecDepth 100000 in
theorem kw_607 : Cond.code yX9_isSameAs cX9_isSameAs 2 (some .boolean) ∈ uw := uw_t3 228 rfl rfl
set_option maxRecDepth 100000 in
theorem kw_608 : Cond.fieldLink RX8 25 "ListPainter$Shortener" "next" "LListPainter$Table;" ∈ uw := uw_t2 62 rfl rfl
set_option maxRecDepth 100000 in
theorem kw_609 : Cond.methodLink RX8 152 yX9_readFrom ∈ uw := uw_t3 222 rfl rfl
set_option maxRecDepth 100000 in
theorem kw_610 : Cond.methodLink RX8 156 yX9_copyFrom ∈ uw := uw_t3 223 rfl rfl
set_option maxRecDepth 100000 in
theorem kw_611 : Cond.methodLink RX8 159 yX9_goBehind ∈ uw := uw_t3 224 rfl rfl
set_option maxRecDepth 100000 in
theorem kw_612 : Cond.methodLink RX8 63 yX10_lengthAt ∈ uw := uw_t3 180 rfl rfl
set_option maxRecDepth 100000 in
theorem kw_613 : Cond.methodLink RX8 165 yX9_isWhole ∈ uw := uw_t3 233 rfl rfl
set_option maxRecDepth 100000 in
theorem kw_614 : Cond.instanceMethod yX9_isWhole ∈ uw := uw_t3 234 rfl rfl
set_option maxRecDepth 100000 in
theorem kw_615 : Cond.selects RX9 yX9_isWhole yX9_isWhole ∈ uw := uw_t3 235 rfl rfl
set_option maxRecDepth 100000 in
theorem kw_616 : Cond.code yX9_isWhole cX9_isWhole 1 (some .boolean) ∈ uw := uw_t3 236 rfl rfl
set_option maxRecDepth 100000 in
theorem kw_617 : Cond.methodLink RX8 168 yX9_fitsBehind ∈ uw := uw_t3 238 rfl rfl
set_option maxRecDepth 100000 in
theorem kw_618 : Cond.instanceMethod yX9_fitsBehind ∈ uw := uw_t3 239 rfl rfl
set_option maxRecDepth 100000 in
theorem kw_619 : Cond.selects RX9 yX9_fitsBehind yX9_fitsBehind ∈ uw := uw_t4 0 rfl rfl
set_option maxRecDepth 100000 in
theorem kw_620 : Cond.code yX9_fitsBehind cX9_fitsBehind 10 (some .boolean) ∈ uw := uw_t4 1 rfl rfl
set_option maxRecDepth 100000 in
theorem kw_621 : Cond.methodLink RX8 171 yX9_writeTo ∈ uw := uw_t4 5 rfl rfl
set_option maxRecDepth 100000 in
theorem kw_622 : Cond.instanceMethod yX9_writeTo ∈ uw := uw_t4 6 rfl rfl
set_option maxRecDepth 100000 in
theorem kw_623 : Cond.selects RX9 yX9_writeTo yX9_writeTo ∈ uw := uw_t4 7 rfl rfl
set_option maxRecDepth 100000 in
theorem kw_624 : Cond.code yX9_writeTo cX9_writeTo 3 none ∈ uw := uw_t4 8 rfl rfl
set_option maxRecDepth 100000 in
theorem kw_625 : Cond.fieldLink RX8 60 "ListPainter$Shortener" "joinedAt" "I" ∈ uw := uw_t2 65 rfl rfl
set_option maxRecDepth 100000 in
theorem kw_626 : Cond.fieldLink RX8 55 "ListPainter$Shortener" "lastFill" "I" ∈ uw := uw_t2 63 rfl rfl
set_option maxRecDepth 100000 in
theorem kw_627 : Cond.methodLink RX8 85 yX8_goesBehindFills ∈ uw := uw_t3 186 rfl rfl
set_option maxRecDepth 100000 in
theorem kw_628 : Cond.instanceMethod yX8_goesBehindFills ∈ uw := uw_t3 188 rfl rfl
set_option maxRecDepth 100000 in
theorem kw_629 : Cond.selects RX8 yX8_goesBehindFills yX8_goesBehindFills ∈ uw := uw_s 12 rfl rfl
set_option maxRecDepth 100000 in
theorem kw_630 : Cond.initialized RX8 ∈ uw := uw_t1 12 rfl rfl
set_option maxRecDepth 100000 in
theorem kw_631 : Cond.code yX8_goesBehindFills cX8_goesBehindFills 2 (some .boolean) ∈ uw := uw_t3 189 rfl rfl
set_option maxRecDepth 100000 in
theorem kw_632 : tables_1[258]? = some (Cond.fieldLinkNest RX8 89 "ListPainter$Machine" "path" "LListPainter$Path;" "ListPainter") := rfl
set_option maxRecDepth 100000 in
theorem kw_633 : Cond.methodLink RX8 100 yX5_misses ∈ uw := uw_t3 190 rfl rfl
set_option maxRecDepth 100000 in
theorem kw_634 : Cond.instanceMethod yX5_misses ∈ uw := uw_t3 191 rfl rfl
set_option maxRecDepth 100000 in
theorem kw_635 : Cond.selects RX5 yX5_misses yX5_misses ∈ uw := uw_t3 192 rfl rfl
set_option maxRecDepth 100000 in
theorem kw_636 : Cond.code yX5_misses cX5_misses 4 (some .boolean) ∈ uw := uw_t3 193 rfl rfl
set_option maxRecDepth 100000 in
theorem kw_637 : Cond.methodLink RX8 110 yX5_isBegun ∈ uw := uw_t3 199 rfl rfl
set_option maxRecDepth 100000 in
theorem kw_638 : Cond.instanceMethod yX5_isBegun ∈ uw := uw_t3 200 rfl rfl
set_option maxRecDepth 100000 in
theorem kw_639 : Cond.selects RX5 yX5_isBegun yX5_isBegun ∈ uw := uw_t3 201 rfl rfl
set_option maxRecDepth 100000 in
theorem kw_640 : Cond.code yX5_isBegun cX5_isBegun 1 (some .boolean) ∈ uw := uw_t3 202 rfl rfl
set_option maxRecDepth 100000 in
theorem kw_641 : Cond.methodLink RX8 114 yX8_isIdlePaint ∈ uw := uw_t3 203 rfl rfl
set_option maxRecDepth 100000 in
theorem kw_642 : Cond.instanceMethod yX8_isIdlePaint ∈ uw := uw_t3 205 rfl rfl
set_option maxRecDepth 100000 in
theorem kw_643 : Cond.selects RX8 yX8_isIdlePaint yX8_isIdlePaint ∈ uw := uw_s 13 rfl rfl
set_option maxRecDepth 100000 in
theorem kw_644 : Cond.code yX8_isIdlePaint cX8_isIdlePaint 5 (some .boolean) ∈ uw := uw_t3 206 rfl rfl
set_option maxRecDepth 100000 in
theorem kw_645 : Cond.methodLink RX8 118 yX8_isIdleClip ∈ uw := uw_t3 207 rfl rfl
set_option maxRecDepth 100000 in
theorem kw_646 : Cond.instanceMethod yX8_isIdleClip ∈ uw := uw_t3 209 rfl rfl
set_option maxRecDepth 100000 in
theorem kw_647 : Cond.selects RX8 yX8_isIdleClip yX8_isIdleClip ∈ uw := uw_s 14 rfl rfl
set_option maxRecDepth 100000 in
theorem kw_648 : Cond.code yX8_isIdleClip cX8_isIdleClip 2 (some .boolean) ∈ uw := uw_t3 210 rfl rfl
set_option maxRecDepth 100000 in
theorem kw_649 : Cond.methodLink RX8 121 yX8_isIdleTable ∈ uw := uw_t3 217 rfl rfl
set_option maxRecDepth 100000 in
theorem kw_650 : Cond.instanceMethod yX8_isIdleTable ∈ uw := uw_t3 219 rfl rfl
set_option maxRecDepth 100000 in
theorem kw_651 : Cond.selects RX8 yX8_isIdleTable yX8_isIdleTable ∈ uw := uw_s 15 rfl rfl
set_option maxRecDepth 100000 in
theorem kw_652 : Cond.code yX8_isIdleTable cX8_isIdleTable 3 (some .boolean) ∈ uw := uw_t3 220 rfl rfl
set_option maxRecDepth 100000 in
theorem kw_653 : Cond.methodLink RX8 124 yX8_joinsNext ∈ uw := uw_t3 229 rfl rfl
set_option maxRecDepth 100000 in
theorem kw_654 : Cond.instanceMethod yX8_joinsNext ∈ uw := uw_t3 231 rfl rfl
set_option maxRecDepth 100000 in
theorem kw_655 : Cond.selects RX8 yX8_joinsNext yX8_joinsNext ∈ uw := uw_s 16 rfl rfl
set_option maxRecDepth 100000 in
theorem kw_656 : Cond.code yX8_joinsNext cX8_joinsNext 4 (some .boolean) ∈ uw := uw_t3 232 rfl rfl
set_option maxRecDepth 100000 in
theorem kw_657 : Cond.methodLink RX8 127 yX8_isBroughtBackUnused ∈ uw := uw_t4 13 rfl rfl
set_option maxRecDepth 100000 in
theorem kw_658 : Cond.instanceMethod yX8_isBroughtBackUnused ∈ uw := uw_t4 15 rfl rfl
set_option maxRecDepth 100000 in
theorem kw_659 : Cond.selects RX8 yX8_isBroughtBackUnused yX8_isBroughtBackUnused ∈ uw := uw_s 17 rfl rfl
set_option maxRecDepth 100000 in
theorem kw_660 : Cond.code yX8_isBroughtBackUnused cX8_isBroughtBackUnused 3 (some .boolean) ∈ uw := uw_t4 16 rfl rfl
set_option maxRecDepth 100000 in
theorem kw_661 : Cond.methodLink RX8 130 yX8_isEmptySave ∈ uw := uw_t4 17 rfl rfl
set_option maxRecDepth 100000 in
theorem kw_662 : Cond.instanceMethod yX8_isEmptySave ∈ uw := uw_t4 19 rfl rfl
set_option maxRecDepth 100000 in
theorem kw_663 : Cond.selects RX8 yX8_isEmptySave yX8_isEmptySave ∈ uw := uw_s 18 rfl rfl
set_option maxRecDepth 100000 in
theorem kw_664 : Cond.code yX8_isEmptySave cX8_isEmptySave 3 (some .boolean) ∈ uw := uw_t4 20 rfl rfl
set_option maxRecDepth 100000 in
theorem kw_665 : Cond.methodLink RX8 46 yX3_restart ∈ uw := uw_t3 174 rfl rfl
set_option maxRecDepth 100000 in
theorem kw_666 : Cond.methodLink RX8 51 yX10_lastFill ∈ uw := uw_t3 175 rfl rfl
set_option maxRecDepth 100000 in
theorem kw_667 : Cond.instanceMethod yX10_lastFill ∈ uw := uw_t3 176 rfl rfl
set_option maxRecDepth 100000 in
theorem kw_668 : Cond.selects RX10 yX10_lastFill yX10_lastFill ∈ uw := uw_t3 177 rfl rfl
set_option maxRecDepth 100000 in
theorem kw_669 : Cond.code yX10_lastFill cX10_lastFill 3 (some .int) ∈ uw := uw_t3 178 rfl rfl
set_option maxRecDepth 100000 in
theorem kw_670 : Cond.methodLink RX8 82 yX10_cutTo ∈ uw := uw_t4 27 rfl rfl
set_option maxRecDepth 100000 in
theorem kw_671 : Cond.instanceMethod yX10_cutTo ∈ uw := uw_t2 139 rfl rfl
set_option maxRecDepth 100000 in
theorem kw_672 : Cond.selects RX10 yX10_cutTo yX10_cutTo ∈ uw := uw_t2 140 rfl rfl
set_option maxRecDepth 100000 in
theorem kw_673 : Cond.code yX10_cutTo cX10_cutTo 2 none ∈ uw := uw_t2 141 rfl rfl
set_option maxRecDepth 100000 in
theorem kw_674 : tables_1[61]? = some (Cond.fieldLinkNest RX8 36 "ListPainter$Words" "count" "I" "ListPainter") := rfl
set_option maxRecDepth 100000 in
theorem kw_675 : Cond.methodLink RX8 74 yX3_follow ∈ uw := uw_t4 21 rfl rfl
set_option maxRecDepth 100000 in
theorem kw_676 : Cond.methodLink RX8 78 yX10_moveDown ∈ uw := uw_t4 22 rfl rfl
set_option maxRecDepth 100000 in
theorem kw_677 : Cond.instanceMethod yX10_moveDown ∈ uw := uw_t4 23 rfl rfl
set_option maxRecDepth 100000 in
theorem kw_678 : Cond.selects RX10 yX10_moveDown yX10_moveDown ∈ uw := uw_t4 24 rfl rfl
set_option maxRecDepth 100000 in
theorem kw_679 : Cond.code yX10_moveDown cX10_moveDown 5 none ∈ uw := uw_t4 25 rfl rfl
set_option maxRecDepth 100000 in
theorem kw_680 : Cond.methodLink RX8 70 yX8_goes ∈ uw := uw_t3 182 rfl rfl
set_option maxRecDepth 100000 in
theorem kw_681 : Cond.instanceMethod yX8_goes ∈ uw := uw_t3 184 rfl rfl
set_option maxRecDepth 100000 in
theorem kw_682 : Cond.selects RX8 yX8_goes yX8_goes ∈ uw := uw_s 11 rfl rfl
set_option maxRecDepth 100000 in
theorem kw_683 : Cond.code yX8_goes cX8_goes 4 (some .boolean) ∈ uw := uw_t3 185 rfl rfl
set_option maxRecDepth 100000 in
theorem kw_684 : Cond.methodLink RX8 42 yX8_goThrough ∈ uw := uw_t3 170 rfl rfl
set_option maxRecDepth 100000 in
theorem kw_685 : Cond.instanceMethod yX8_goThrough ∈ uw := uw_t3 172 rfl rfl
set_option maxRecDepth 100000 in
theorem kw_686 : Cond.selects RX8 yX8_goThrough yX8_goThrough ∈ uw := uw_s 10 rfl rfl
set_option maxRecDepth 100000 in
theorem kw_687 : Cond.code yX8_goThrough cX8_goThrough 5 none ∈ uw := uw_t3 173 rfl rfl
set_option maxRecDepth 100000 in
theorem kw_688 : Cond.fieldLink RX11 87 "ListPainter" "lookedOver" "Z" ∈ uw := uw_t2 90 rfl rfl
set_option maxRecDepth 100000 in
theorem kw_689 : Cond.fieldLink RX11 118 "ListPainter" "shortListMade" "Z" ∈ uw := uw_t2 91 rfl rfl
set_option maxRecDepth 100000 in
theorem kw_690 : Cond.fieldLink RX11 21 "ListPainter" "list" "LListPainter$Words;" ∈ uw := uw_t2 84 rfl rfl
set_option maxRecDepth 100000 in
theorem kw_691 : Cond.methodLink RX11 65 yX10_hasRoom ∈ uw := uw_t2 118 rfl rfl
set_option maxRecDepth 100000 in
theorem kw_692 : Cond.instanceMethod yX10_hasRoom ∈ uw := uw_t2 119 rfl rfl
set_option maxRecDepth 100000 in
theorem kw_693 : Cond.selects RX10 yX10_hasRoom yX10_hasRoom ∈ uw := uw_t2 120 rfl rfl
set_option maxRecDepth 100000 in
theorem kw_694 : Cond.code yX10_hasRoom cX10_hasRoom 2 (some .boolean) ∈ uw := uw_t2 121 rfl rfl
set_option maxRecDepth 100000 in
theorem kw_695 : Cond.methodLink RX11 69 yX11_listChanges ∈ uw := uw_t2 122 rfl rfl
set_option maxRecDepth 100000 in
theorem kw_696 : Cond.instanceMethod yX11_listChanges ∈ uw := uw_t2 124 rfl rfl
set_option maxRecDepth 100000 in
theorem kw_697 : Cond.selects RX11 yX11_listChanges yX11_listChanges ∈ uw := uw_s 0 rfl rfl
set_option maxRecDepth 100000 in
theorem kw_698 : Cond.initialized RX11 ∈ uw := uw_t1 1 rfl rfl
set_option maxRecDepth 100000 in
theorem kw_699 : Cond.code yX11_listChanges cX11_listChanges 1 none ∈ uw := uw_t2 125 rfl rfl
set_option maxRecDepth 100000 in
theorem kw_700 : Cond.methodLink RX11 72 yX10_add ∈ uw := uw_t2 126 rfl rfl
set_option maxRecDepth 100000 in
theorem kw_701 : Cond.instanceMethod yX10_add ∈ uw := uw_t2 127 rfl rfl
set_option maxRecDepth 100000 in
theorem kw_702 : Cond.selects RX10 yX10_add yX10_add ∈ uw := uw_t2 128 rfl rfl
set_option maxRecDepth 100000 in
theorem kw_703 : Cond.code yX10_add cX10_add 2 (some .int) ∈ uw := uw_t2 129 rfl rfl
set_option maxRecDepth 100000 in
theorem kw_704 : tables_1[63]? = some (Cond.fieldLinkNest RX11 76 "ListPainter$Words" "count" "I" "ListPainter") := rfl
set_option maxRecDepth 100000 in
theorem kw_705 : Cond.methodLink RX11 79 yX10_cutTo ∈ uw := uw_t2 138 rfl rfl
set_option maxRecDepth 100000 in
theorem kw_706 : Cond.fieldLink RX11 31 "ListPainter" "checker" "LListPainter$Checker;" ∈ uw := uw_t2 86 rfl rfl
set_option maxRecDepth 100000 in
theorem kw_707 : Cond.methodLink RX11 83 yX0_lookOver ∈ uw := uw_t2 146 rfl rfl
set_option maxRecDepth 100000 in
theorem kw_708 : Cond.instanceMethod yX0_lookOver ∈ uw := uw_t2 147 rfl rfl
set_option maxRecDepth 100000 in
theorem kw_709 : Cond.selects RX0 yX0_lookOver yX0_lookOver ∈ uw := uw_t2 148 rfl rfl
set_option maxRecDepth 100000 in
theorem kw_710 : Cond.code yX0_lookOver cX0_lookOver 3 (some .int) ∈ uw := uw_t2 149 rfl rfl
set_option maxRecDepth 100000 in
theorem kw_711 : Cond.fieldLink RX11 61 "ListPainter" "faultPlace" "I" ∈ uw := uw_t2 92 rfl rfl
set_option maxRecDepth 100000 in
theorem kw_712 : Cond.fieldLink RX11 45 "ListPainter" "machine" "LListPainter$Machine;" ∈ uw := uw_t2 87 rfl rfl
set_option maxRecDepth 100000 in
theorem kw_713 : Cond.methodLink RX11 94 yX3_restart ∈ uw := uw_t2 187 rfl rfl
set_option maxRecDepth 100000 in
theorem kw_714 : Cond.methodLink RX11 97 yX3_forgetCounts ∈ uw := uw_t2 209 rfl rfl
set_option maxRecDepth 100000 in
theorem kw_715 : Cond.instanceMethod yX3_forgetCounts ∈ uw := uw_t2 210 rfl rfl
set_option maxRecDepth 100000 in
theorem kw_716 : Cond.selects RX3 yX3_forgetCounts yX3_forgetCounts ∈ uw := uw_t2 211 rfl rfl
set_option maxRecDepth 100000 in
theorem kw_717 : Cond.code yX3_forgetCounts cX3_forgetCounts 1 none ∈ uw := uw_t2 212 rfl rfl
set_option maxRecDepth 100000 in
theorem kw_718 : tables_1[77]? = some (Cond.fieldLinkNest RX11 91 "ListPainter$Checker" "place" "I" "ListPainter") := rfl
set_option maxRecDepth 100000 in
theorem kw_719 : Cond.methodLink RX11 100 yX3_doNext ∈ uw := uw_t2 217 rfl rfl
set_option maxRecDepth 100000 in
theorem kw_720 : Cond.constant RX11 121 (-2000000000) ∈ uw := uw_t4 32 rfl rfl
set_option maxRecDepth 100000 in
theorem kw_721 : Cond.fieldLink RX11 25 "ListPainter" "shortList" "LListPainter$Words;" ∈ uw := uw_t2 85 rfl rfl
set_option maxRecDepth 100000 in
theorem kw_722 : Cond.methodLink RX11 122 yX10_word ∈ uw := uw_t4 33 rfl rfl
set_option maxRecDepth 100000 in
theorem kw_723 : Cond.fieldLink RX11 14 "ListPainter" "sheet" "LListPainter$Sheet;" ∈ uw := uw_t2 83 rfl rfl
set_option maxRecDepth 100000 in
theorem kw_724 : Cond.methodLink RX11 125 yX7_holds ∈ uw := uw_t4 42 rfl rfl
set_option maxRecDepth 100000 in
theorem kw_725 : Cond.methodLink RX11 129 yX7_at ∈ uw := uw_t4 43 rfl rfl
set_option maxRecDepth 100000 in
theorem kw_726 : Cond.methodLink RX11 133 yX7_cover ∈ uw := uw_t4 48 rfl rfl
set_option maxRecDepth 100000 in
theorem kw_727 : Cond.instanceMethod yX7_cover ∈ uw := uw_t4 49 rfl rfl
set_option maxRecDepth 100000 in
theorem kw_728 : Cond.selects RX7 yX7_cover yX7_cover ∈ uw := uw_t4 50 rfl rfl
set_option maxRecDepth 100000 in
theorem kw_729 : Cond.code yX7_cover cX7_cover 2 none ∈ uw := uw_t4 51 rfl rfl
set_option maxRecDepth 100000 in
theorem kw_730 : Cond.methodLink RX11 136 yX7_total ∈ uw := uw_t4 59 rfl rfl
set_option maxRecDepth 100000 in
theorem kw_731 : Cond.instanceMethod yX7_total ∈ uw := uw_t4 60 rfl rfl
set_option maxRecDepth 100000 in
theorem kw_732 : Cond.selects RX7 yX7_total yX7_total ∈ uw := uw_t4 61 rfl rfl
set_option maxRecDepth 100000 in
theorem kw_733 : Cond.code yX7_total cX7_total 3 (some .int) ∈ uw := uw_t4 62 rfl rfl
set_option maxRecDepth 100000 in
theorem kw_734 : Cond.methodLink RX11 140 yX3_told ∈ uw := uw_t4 67 rfl rfl
set_option maxRecDepth 100000 in
theorem kw_735 : Cond.instanceMethod yX3_told ∈ uw := uw_t4 68 rfl rfl
set_option maxRecDepth 100000 in
theorem kw_736 : Cond.selects RX3 yX3_told yX3_told ∈ uw := uw_t4 69 rfl rfl
set_option maxRecDepth 100000 in
theorem kw_737 : Cond.code yX3_told cX3_told 2 (some .int) ∈ uw := uw_t4 70 rfl rfl
set_option maxRecDepth 100000 in
theorem kw_738 : Cond.constant RX11 143 100000 ∈ uw := uw_t3 148 rfl rfl
set_option maxRecDepth 100000 in
theorem kw_739 : Cond.methodLink RX11 104 yX11_isAskable ∈ uw := uw_t3 145 rfl rfl
set_option maxRecDepth 100000 in
theorem kw_740 : Cond.static yX11_isAskable ∈ uw := uw_t3 146 rfl rfl
set_option maxRecDepth 100000 in
theorem kw_741 : Cond.code yX11_isAskable cX11_isAskable 1 (some .boolean) ∈ uw := uw_t3 147 rfl rfl
set_option maxRecDepth 100000 in
theorem kw_742 : Cond.methodLink RX11 107 yX3_run ∈ uw := uw_t3 149 rfl rfl
set_option maxRecDepth 100000 in
theorem kw_743 : Cond.instanceMethod yX3_run ∈ uw := uw_t3 150 rfl rfl
set_option maxRecDepth 100000 in
theorem kw_744 : Cond.selects RX3 yX3_run yX3_run ∈ uw := uw_t3 151 rfl rfl
set_option maxRecDepth 100000 in
theorem kw_745 : Cond.code yX3_run cX3_run 5 (some .boolean) ∈ uw := uw_t3 152 rfl rfl
set_option maxRecDepth 100000 in
theorem kw_746 : Cond.fieldLink RX11 49 "ListPainter" "ownMachine" "LListPainter$Machine;" ∈ uw := uw_t2 88 rfl rfl
set_option maxRecDepth 100000 in
theorem kw_747 : Cond.methodLink RX11 111 yX10_copyFrom ∈ uw := uw_t3 159 rfl rfl
set_option maxRecDepth 100000 in
theorem kw_748 : Cond.instanceMethod yX10_copyFrom ∈ uw := uw_t3 160 rfl rfl
set_option maxRecDepth 100000 in
theorem kw_749 : Cond.selects RX10 yX10_copyFrom yX10_copyFrom ∈ uw := uw_t3 161 rfl rfl
set_option maxRecDepth 100000 in
theorem kw_750 : Cond.code yX10_copyFrom cX10_copyFrom 2 none ∈ uw := uw_t3 162 rfl rfl
set_option maxRecDepth 100000 in
theorem kw_751 : Cond.fieldLink RX11 57 "ListPainter" "shortener" "LListPainter$Shortener;" ∈ uw := uw_t2 89 rfl rfl
set_option maxRecDepth 100000 in
theorem kw_752 : Cond.methodLink RX11 115 yX8_shorten ∈ uw := uw_t3 166 rfl rfl
set_option maxRecDepth 100000 in
theorem kw_753 : Cond.instanceMethod yX8_shorten ∈ uw := uw_t3 167 rfl rfl
set_option maxRecDepth 100000 in
theorem kw_754 : Cond.selects RX8 yX8_shorten yX8_shorten ∈ uw := uw_t3 168 rfl rfl
set_option maxRecDepth 100000 in
theorem kw_755 : Cond.code yX8_shorten cX8_shorten 5 none ∈ uw := uw_t3 169 rfl rfl
set_option maxRecDepth 100000 in
theorem kw_756 : Cond.methodLink RX0 3 Lib.objectInit ∈ uw := uw_t1 75 rfl rfl
set_option maxRecDepth 100000 in
theorem kw_757 : Cond.instanceMethod Lib.objectInit ∈ uw := uw_t1 23 rfl rfl
set_option maxRecDepth 100000 in
theorem kw_758 : Cond.code Lib.objectInit ⟨#[0xb1]⟩ 1 none ∈ uw := uw_t1 24 rfl rfl
set_option maxRecDepth 100000 in
theorem kw_759 : Cond.methodLink RX1 1 Lib.objectInit ∈ uw := uw_t1 203 rfl rfl
set_option maxRecDepth 100000 in
theorem kw_760 : Cond.methodLink RX9 3 Lib.objectInit ∈ uw := uw_t1 172 rfl rfl
set_option maxRecDepth 100000 in
theorem kw_761 : Cond.methodLink RX10 3 Lib.objectInit ∈ uw := uw_t1 58 rfl rfl
set_option maxRecDepth 100000 in
theorem kw_762 : Cond.arrayClass .int ∈ uw := uw_t1 52 rfl rfl
set_option maxRecDepth 100000 in
theorem kw_763 : Cond.methodLink RX5 3 Lib.objectInit ∈ uw := uw_t1 114 rfl rfl
set_option maxRecDepth 100000 in
theorem kw_764 : Cond.arrayClass .boolean ∈ uw := uw_t1 160 rfl rfl
set_option maxRecDepth 100000 in
theorem kw_765 : Cond.methodLink RX6 3 Lib.objectInit ∈ uw := uw_t1 166 rfl rfl
set_option maxRecDepth 100000 in
theorem kw_766 : Cond.classLink RX6 9 RX9 ∈ uw := uw_t1 167 rfl rfl
set_option maxRecDepth 100000 in
theorem kw_767 : Cond.instantiable RX9 6 ∈ uw := uw_t1 168 rfl rfl
set_option maxRecDepth 100000 in
theorem kw_768 : tables_1[169]? = some (Cond.methodLinkNest RX6 11 yX9_init "ListPainter") := rfl
set_option maxRecDepth 100000 in
theorem kw_769 : Cond.code yX9_init cX9_init 1 none ∈ uw := uw_t1 171 rfl rfl
set_option maxRecDepth 100000 in
theorem kw_770 : Cond.instanceMethod yX9_init ∈ uw := uw_t1 170 rfl rfl
set_option maxRecDepth 100000 in
theorem kw_771 : Cond.classLink RX6 18 RX1 ∈ uw := uw_t1 198 rfl rfl
set_option maxRecDepth 100000 in
theorem kw_772 : Cond.instantiable RX1 4 ∈ uw := uw_t1 199 rfl rfl
set_option maxRecDepth 100000 in
theorem kw_773 : tables_1[200]? = some (Cond.methodLinkNest RX6 20 yX1_init "ListPainter") := rfl
set_option maxRecDepth 100000 in
theorem kw_774 : Cond.code yX1_init cX1_init 1 none ∈ uw := uw_t1 202 rfl rfl
set_option maxRecDepth 100000 in
theorem kw_775 : Cond.instanceMethod yX1_init ∈ uw := uw_t1 201 rfl rfl
set_option maxRecDepth 100000 in
theorem kw_776 : Cond.methodLink RX2 3 Lib.objectInit ∈ uw := uw_t1 95 rfl rfl
set_option maxRecDepth 100000 in
theorem kw_777 : Cond.methodLink RX7 3 Lib.objectInit ∈ uw := uw_t1 30 rfl rfl
set_option maxRecDepth 100000 in
theorem kw_778 : Cond.methodLink RX7 26 Lib.Math.min.name ∈ uw := uw_t1 34 rfl rfl
set_option maxRecDepth 100000 in
theorem kw_779 : Cond.methodLink RX7 32 Lib.Math.max.name ∈ uw := uw_t1 37 rfl rfl
set_option maxRecDepth 100000 in
theorem kw_780 : Cond.methodLink RX7 9 yX7_side ∈ uw := uw_t1 31 rfl rfl
set_option maxRecDepth 100000 in
theorem kw_781 : Cond.static yX7_side ∈ uw := uw_t1 32 rfl rfl
set_option maxRecDepth 100000 in
theorem kw_782 : Cond.code yX7_side cX7_side 1 (some .int) ∈ uw := uw_t1 33 rfl rfl
set_option maxRecDepth 100000 in
theorem kw_783 : Cond.methodLink RX3 3 Lib.objectInit ∈ uw := uw_t1 108 rfl rfl
set_option maxRecDepth 100000 in
theorem kw_784 : Cond.classLink RX3 9 RX5 ∈ uw := uw_t1 109 rfl rfl
set_option maxRecDepth 100000 in
theorem kw_785 : Cond.instantiable RX5 13 ∈ uw := uw_t1 110 rfl rfl
set_option maxRecDepth 100000 in
theorem kw_786 : tables_1[111]? = some (Cond.methodLinkNest RX3 11 yX5_init "ListPainter") := rfl
set_option maxRecDepth 100000 in
theorem kw_787 : Cond.code yX5_init cX5_init 1 none ∈ uw := uw_t1 113 rfl rfl
set_option maxRecDepth 100000 in
theorem kw_788 : Cond.instanceMethod yX5_init ∈ uw := uw_t1 112 rfl rfl
set_option maxRecDepth 100000 in
theorem kw_789 : Cond.classLink RX3 18 RX6 ∈ uw := uw_t1 161 rfl rfl
set_option maxRecDepth 100000 in
theorem kw_790 : Cond.instantiable RX6 4 ∈ uw := uw_t1 162 rfl rfl
set_option maxRecDepth 100000 in
theorem kw_791 : tables_1[163]? = some (Cond.methodLinkNest RX3 20 yX6_init "ListPainter") := rfl
set_option maxRecDepth 100000 in
theorem kw_792 : Cond.code yX6_init cX6_init 1 none ∈ uw := uw_t1 165 rfl rfl
set_option maxRecDepth 100000 in
theorem kw_793 : Cond.instanceMethod yX6_init ∈ uw := uw_t1 164 rfl rfl
set_option maxRecDepth 100000 in
theorem kw_794 : Cond.classLink RX3 25 RX9 ∈ uw := uw_t2 12 rfl rfl
set_option maxRecDepth 100000 in
theorem kw_795 : tables_1[253]? = some (Cond.methodLinkNest RX3 27 yX9_init "ListPainter") := rfl
set_option maxRecDepth 100000 in
theorem kw_796 : Cond.methodLink RX8 3 Lib.objectInit ∈ uw := uw_t2 53 rfl rfl
set_option maxRecDepth 100000 in
theorem kw_797 : Cond.classLink RX8 9 RX1 ∈ uw := uw_t2 54 rfl rfl
set_option maxRecDepth 100000 in
theorem kw_798 : tables_1[295]? = some (Cond.methodLinkNest RX8 11 yX1_init "ListPainter") := rfl
set_option maxRecDepth 100000 in
theorem kw_799 : Cond.classLink RX8 18 RX9 ∈ uw := uw_t2 56 rfl rfl
set_option maxRecDepth 100000 in
theorem kw_800 : tables_1[297]? = some (Cond.methodLinkNest RX8 20 yX9_init "ListPainter") := rfl
set_option maxRecDepth 100000 in
theorem kw_801 : Cond.methodLink RX11 3 Lib.objectInit ∈ uw := uw_t1 22 rfl rfl
set_option maxRecDepth 100000 in
theorem kw_802 : Cond.classLink RX11 9 RX7 ∈ uw := uw_t1 25 rfl rfl
set_option maxRecDepth 100000 in
theorem kw_803 : Cond.instantiable RX7 3 ∈ uw := uw_t1 26 rfl rfl
set_option maxRecDepth 100000 in
theorem kw_804 : Cond.code yX7_init cX7_init 3 none ∈ uw := uw_t1 29 rfl rfl
set_option maxRecDepth 100000 in
theorem kw_805 : Cond.methodLink RX11 11 yX7_init ∈ uw := uw_t1 27 rfl rfl
set_option maxRecDepth 100000 in
theorem kw_806 : Cond.instanceMethod yX7_init ∈ uw := uw_t1 28 rfl rfl
set_option maxRecDepth 100000 in
theorem kw_807 : Cond.classLink RX11 18 RX10 ∈ uw := uw_t1 53 rfl rfl
set_option maxRecDepth 100000 in
theorem kw_808 : Cond.instantiable RX10 2 ∈ uw := uw_t1 54 rfl rfl
set_option maxRecDepth 100000 in
theorem kw_809 : tables_1[55]? = some (Cond.methodLinkNest RX11 20 yX10_init "ListPainter") := rfl
set_option maxRecDepth 100000 in
theorem kw_810 : Cond.code yX10_init cX10_init 1 none ∈ uw := uw_t1 57 rfl rfl
set_option maxRecDepth 100000 in
theorem kw_811 : Cond.instanceMethod yX10_init ∈ uw := uw_t1 56 rfl rfl
set_option maxRecDepth 100000 in
theorem kw_812 : Cond.classLink RX11 28 RX0 ∈ uw := uw_t1 70 rfl rfl
set_option maxRecDepth 100000 in
theorem kw_813 : Cond.instantiable RX0 4 ∈ uw := uw_t1 71 rfl rfl
set_option maxRecDepth 100000 in
theorem kw_814 : tables_1[72]? = some (Cond.methodLinkNest RX11 30 yX0_init "ListPainter") := rfl
set_option maxRecDepth 100000 in
theorem kw_815 : Cond.code yX0_init cX0_init 1 none ∈ uw := uw_t1 74 rfl rfl
set_option maxRecDepth 100000 in
theorem kw_816 : Cond.instanceMethod yX0_init ∈ uw := uw_t1 73 rfl rfl
set_option maxRecDepth 100000 in
theorem kw_817 : Cond.classLink RX11 35 RX2 ∈ uw := uw_t1 90 rfl rfl
set_option maxRecDepth 100000 in
theorem kw_818 : Cond.instantiable RX2 2 ∈ uw := uw_t1 91 rfl rfl
set_option maxRecDepth 100000 in
theorem kw_819 : Cond.code yX2_init cX2_init 2 none ∈ uw := uw_t1 94 rfl rfl
set_option maxRecDepth 100000 in
theorem kw_820 : Cond.methodLink RX11 37 yX2_init ∈ uw := uw_t1 92 rfl rfl
set_option maxRecDepth 100000 in
theorem kw_821 : Cond.instanceMethod yX2_init ∈ uw := uw_t1 93 rfl rfl
set_option maxRecDepth 100000 in
theorem kw_822 : Cond.classLink RX11 40 RX3 ∈ uw := uw_t1 103 rfl rfl
set_option maxRecDepth 100000 in
theorem kw_823 : Cond.instantiable RX3 10 ∈ uw := uw_t1 104 rfl rfl
set_option maxRecDepth 100000 in
theorem kw_824 : Cond.code yX3_init cX3_init 4 none ∈ uw := uw_t1 107 rfl rfl
set_option maxRecDepth 100000 in
theorem kw_825 : Cond.methodLink RX11 42 yX3_init ∈ uw := uw_t1 105 rfl rfl
set_option maxRecDepth 100000 in
theorem kw_826 : Cond.instanceMethod yX3_init ∈ uw := uw_t1 106 rfl rfl
set_option maxRecDepth 100000 in
theorem kw_827 : Cond.classLink RX11 52 RX8 ∈ uw := uw_t2 48 rfl rfl
set_option maxRecDepth 100000 in
theorem kw_828 : Cond.instantiable RX8 8 ∈ uw := uw_t2 49 rfl rfl
set_option maxRecDepth 100000 in
theorem kw_829 : Cond.code yX8_init cX8_init 3 none ∈ uw := uw_t2 52 rfl rfl
set_option maxRecDepth 100000 in
theorem kw_830 : Cond.methodLink RX11 54 yX8_init ∈ uw := uw_t2 50 rfl rfl
set_option maxRecDepth 100000 in
theorem kw_831 : Cond.instanceMethod yX8_init ∈ uw := uw_t2 51 rfl rfl
set_option maxRecDepth 100000 in
theorem kw_832 : Cond.methodLink RX12 1 Lib.objectInit ∈ uw := uw_t4 88 rfl rfl
set_option maxRecDepth 100000 in
theorem kw_833 : Cond.methodLink RL 21 yX11_feed ∈ uw := uw_t2 114 rfl rfl
set_option maxRecDepth 100000 in
theorem kw_834 : Cond.instanceMethod yX11_feed ∈ uw := uw_t2 115 rfl rfl
set_option maxRecDepth 100000 in
theorem kw_835 : Cond.selects RX11 yX11_feed yX11_feed ∈ uw := uw_t2 116 rfl rfl
set_option maxRecDepth 100000 in
theorem kw_836 : Cond.code yX11_feed cX11_feed 2 (some .int) ∈ uw := uw_t2 117 rfl rfl
set_option maxRecDepth 100000 in
theorem kw_837 : Cond.methodLink RL 25 yX12_feed ∈ uw := uw_t4 174 rfl rfl
set_option maxRecDepth 100000 in
theorem kw_838 : Cond.methodLink RL 26 yX11_five ∈ uw := uw_t2 130 rfl rfl
set_option maxRecDepth 100000 in
theorem kw_839 : Cond.instanceMethod yX11_five ∈ uw := uw_t2 131 rfl rfl
set_option maxRecDepth 100000 in
theorem kw_840 : Cond.selects RX11 yX11_five yX11_five ∈ uw := uw_t2 132 rfl rfl
set_option maxRecDepth 100000 in
theorem kw_841 : Cond.code yX11_five cX11_five 6 (some .int) ∈ uw := uw_t2 133 rfl rfl
set_option maxRecDepth 100000 in
theorem kw_842 : Cond.methodLink RL 30 yX12_five ∈ uw := uw_t4 182 rfl rfl
set_option maxRecDepth 100000 in
theorem kw_843 : Cond.instanceMethod yX12_five ∈ uw := uw_t4 183 rfl rfl
set_option maxRecDepth 100000 in
theorem kw_844 : Cond.selects RX12 yX12_five yX12_five ∈ uw := uw_t4 184 rfl rfl
set_option maxRecDepth 100000 in
theorem kw_845 : Cond.code yX12_five cX12_five 7 (some .int) ∈ uw := uw_t4 185 rfl rfl
set_option maxRecDepth 100000 in
theorem kw_846 : Cond.methodLink RL 31 yX11_reset ∈ uw := uw_t2 134 rfl rfl
set_option maxRecDepth 100000 in
theorem kw_847 : Cond.instanceMethod yX11_reset ∈ uw := uw_t2 135 rfl rfl
set_option maxRecDepth 100000 in
theorem kw_848 : Cond.selects RX11 yX11_reset yX11_reset ∈ uw := uw_t2 136 rfl rfl
set_option maxRecDepth 100000 in
theorem kw_849 : Cond.code yX11_reset cX11_reset 2 (some .int) ∈ uw := uw_t2 137 rfl rfl
set_option maxRecDepth 100000 in
theorem kw_850 : Cond.methodLink RL 35 yX12_reset ∈ uw := uw_t4 187 rfl rfl
set_option maxRecDepth 100000 in
theorem kw_851 : Cond.instanceMethod yX12_reset ∈ uw := uw_t4 188 rfl rfl
set_option maxRecDepth 100000 in
theorem kw_852 : Cond.selects RX12 yX12_reset yX12_reset ∈ uw := uw_t4 189 rfl rfl
set_option maxRecDepth 100000 in
theorem kw_853 : Cond.code yX12_reset cX12_reset 2 (some .int) ∈ uw := uw_t4 190 rfl rfl
set_option maxRecDepth 100000 in
theorem kw_854 : Cond.methodLink RL 36 yX11_verify ∈ uw := uw_t2 142 rfl rfl
set_option maxRecDepth 100000 in
theorem kw_855 : Cond.instanceMethod yX11_verify ∈ uw := uw_t2 143 rfl rfl
set_option maxRecDepth 100000 in
theorem kw_856 : Cond.selects RX11 yX11_verify yX11_verify ∈ uw := uw_t2 144 rfl rfl
set_option maxRecDepth 100000 in
theorem kw_857 : Cond.code yX11_verify cX11_verify 2 (some .int) ∈ uw := uw_t2 145 rfl rfl
set_option maxRecDepth 100000 in
theorem kw_858 : Cond.methodLink RL 39 yX12_verify ∈ uw := uw_t4 191 rfl rfl
set_option maxRecDepth 100000 in
theorem kw_859 : Cond.instanceMethod yX12_verify ∈ uw := uw_t4 192 rfl rfl
set_option maxRecDepth 100000 in
theorem kw_860 : Cond.selects RX12 yX12_verify yX12_verify ∈ uw := uw_t4 193 rfl rfl
set_option maxRecDepth 100000 in
theorem kw_861 : Cond.code yX12_verify cX12_verify 7 (some .int) ∈ uw := uw_t4 194 rfl rfl
set_option maxRecDepth 100000 in
theorem kw_862 : Cond.methodLink RL 40 yX11_one ∈ uw := uw_t2 213 rfl rfl
set_option maxRecDepth 100000 in
theorem kw_863 : Cond.instanceMethod yX11_one ∈ uw := uw_t2 214 rfl rfl
set_option maxRecDepth 100000 in
theorem kw_864 : Cond.selects RX11 yX11_one yX11_one ∈ uw := uw_t2 215 rfl rfl
set_option maxRecDepth 100000 in
theorem kw_865 : Cond.code yX11_one cX11_one 1 (some .int) ∈ uw := uw_t2 216 rfl rfl
set_option maxRecDepth 100000 in
theorem kw_866 : Cond.methodLink RL 43 yX12_one ∈ uw := uw_t4 226 rfl rfl
set_option maxRecDepth 100000 in
theorem kw_867 : Cond.instanceMethod yX12_one ∈ uw := uw_t4 227 rfl rfl
set_option maxRecDepth 100000 in
theorem kw_868 : Cond.selects RX12 yX12_one yX12_one ∈ uw := uw_t4 228 rfl rfl
set_option maxRecDepth 100000 in
theorem kw_869 : Cond.code yX12_one cX12_one 1 (some .int) ∈ uw := uw_t4 229 rfl rfl
set_option maxRecDepth 100000 in
theorem kw_870 : Cond.methodLink RL 44 yX11_render ∈ uw := uw_t3 141 rfl rfl
set_option maxRecDepth 100000 in
theorem kw_871 : Cond.instanceMethod yX11_render ∈ uw := uw_t3 142 rfl rfl
set_option maxRecDepth 100000 in
theorem kw_872 : Cond.selects RX11 yX11_render yX11_render ∈ uw := uw_t3 143 rfl rfl
set_option maxRecDepth 100000 in
theorem kw_873 : Cond.code yX11_render cX11_render 2 (some .int) ∈ uw := uw_t3 144 rfl rfl
set_option maxRecDepth 100000 in
theorem kw_874 : Cond.methodLink RL 47 yX12_render ∈ uw := uw_t5 65 rfl rfl
set_option maxRecDepth 100000 in
theorem kw_875 : Cond.instanceMethod yX12_render ∈ uw := uw_t5 66 rfl rfl
set_option maxRecDepth 100000 in
theorem kw_876 : Cond.selects RX12 yX12_render yX12_render ∈ uw := uw_t5 67 rfl rfl
set_option maxRecDepth 100000 in
theorem kw_877 : Cond.code yX12_render cX12_render 2 (some .int) ∈ uw := uw_t5 68 rfl rfl
set_option maxRecDepth 100000 in
theorem kw_878 : Cond.methodLink RL 48 yX11_optimise ∈ uw := uw_t3 155 rfl rfl
set_option maxRecDepth 100000 in
theorem kw_879 : Cond.instanceMethod yX11_optimise ∈ uw := uw_t3 156 rfl rfl
set_option maxRecDepth 100000 in
theorem kw_880 : Cond.selects RX11 yX11_optimise yX11_optimise ∈ uw := uw_t3 157 rfl rfl
set_option maxRecDepth 100000 in
theorem kw_881 : Cond.code yX11_optimise cX11_optimise 1 (some .int) ∈ uw := uw_t3 158 rfl rfl
set_option maxRecDepth 100000 in
theorem kw_882 : Cond.methodLink RL 51 yX12_optimise ∈ uw := uw_t5 78 rfl rfl
set_option maxRecDepth 100000 in
theorem kw_883 : Cond.instanceMethod yX12_optimise ∈ uw := uw_t5 79 rfl rfl
set_option maxRecDepth 100000 in
theorem kw_884 : Cond.selects RX12 yX12_optimise yX12_optimise ∈ uw := uw_t5 80 rfl rfl
set_option maxRecDepth 100000 in
theorem kw_885 : Cond.code yX12_optimise cX12_optimise 2 (some .int) ∈ uw := uw_t5 81 rfl rfl
set_option maxRecDepth 100000 in
theorem kw_886 : Cond.methodLink RL 52 yX11_shorter ∈ uw := uw_t4 28 rfl rfl
set_option maxRecDepth 100000 in
theorem kw_887 : Cond.instanceMethod yX11_shorter ∈ uw := uw_t4 29 rfl rfl
set_option maxRecDepth 100000 in
theorem kw_888 : Cond.selects RX11 yX11_shorter yX11_shorter ∈ uw := uw_t4 30 rfl rfl
set_option maxRecDepth 100000 in
theorem kw_889 : Cond.code yX11_shorter cX11_shorter 2 (some .int) ∈ uw := uw_t4 31 rfl rfl
set_option maxRecDepth 100000 in
theorem kw_890 : Cond.methodLink RL 55 yX12_shorter ∈ uw := uw_t5 169 rfl rfl
set_option maxRecDepth 100000 in
theorem kw_891 : Cond.instanceMethod yX12_shorter ∈ uw := uw_t5 170 rfl rfl
set_option maxRecDepth 100000 in
theorem kw_892 : Cond.selects RX12 yX12_shorter yX12_shorter ∈ uw := uw_t5 171 rfl rfl
set_option maxRecDepth 100000 in
theorem kw_893 : Cond.code yX12_shorter cX12_shorter 2 (some .int) ∈ uw := uw_t5 172 rfl rfl
set_option maxRecDepth 100000 in
theorem kw_894 : Cond.methodLink RL 56 yX11_renderShorter ∈ uw := uw_t4 34 rfl rfl
set_option maxRecDepth 100000 in
theorem kw_895 : Cond.instanceMethod yX11_renderShorter ∈ uw := uw_t4 35 rfl rfl
set_option maxRecDepth 100000 in
theorem kw_896 : Cond.selects RX11 yX11_renderShorter yX11_renderShorter ∈ uw := uw_t4 36 rfl rfl
set_option maxRecDepth 100000 in
theorem kw_897 : Cond.code yX11_renderShorter cX11_renderShorter 2 (some .int) ∈ uw := uw_t4 37 rfl rfl
set_option maxRecDepth 100000 in
theorem kw_898 : Cond.methodLink RL 59 yX12_renderShorter ∈ uw := uw_t5 74 rfl rfl
set_option maxRecDepth 100000 in
theorem kw_899 : Cond.instanceMethod yX12_renderShorter ∈ uw := uw_t5 75 rfl rfl
set_option maxRecDepth 100000 in
theorem kw_900 : Cond.selects RX12 yX12_renderShorter yX12_renderShorter ∈ uw := uw_t5 76 rfl rfl
set_option maxRecDepth 100000 in
theorem kw_901 : Cond.code yX12_renderShorter cX12_renderShorter 2 (some .int) ∈ uw := uw_t5 77 rfl rfl
set_option maxRecDepth 100000 in
theorem kw_902 : Cond.methodLink RL 60 yX11_pixel ∈ uw := uw_t4 38 rfl rfl
set_option maxRecDepth 100000 in
theorem kw_903 : Cond.instanceMethod yX11_pixel ∈ uw := uw_t4 39 rfl rfl
set_option maxRecDepth 100000 in
theorem kw_904 : Cond.selects RX11 yX11_pixel yX11_pixel ∈ uw := uw_t4 40 rfl rfl
set_option maxRecDepth 100000 in
theorem kw_905 : Cond.code yX11_pixel cX11_pixel 3 (some .int) ∈ uw := uw_t4 41 rfl rfl
set_option maxRecDepth 100000 in
theorem kw_906 : Cond.methodLink RL 64 yX12_pixel ∈ uw := uw_t5 174 rfl rfl
set_option maxRecDepth 100000 in
theorem kw_907 : Cond.instanceMethod yX12_pixel ∈ uw := uw_t5 175 rfl rfl
set_option maxRecDepth 100000 in
theorem kw_908 : Cond.selects RX12 yX12_pixel yX12_pixel ∈ uw := uw_t5 176 rfl rfl
set_option maxRecDepth 100000 in
theorem kw_909 : Cond.code yX12_pixel cX12_pixel 3 (some .int) ∈ uw := uw_t5 177 rfl rfl
set_option maxRecDepth 100000 in
theorem kw_910 : Cond.methodLink RL 65 yX11_clear ∈ uw := uw_t4 44 rfl rfl
set_option maxRecDepth 100000 in
theorem kw_911 : Cond.instanceMethod yX11_clear ∈ uw := uw_t4 45 rfl rfl
set_option maxRecDepth 100000 in
theorem kw_912 : Cond.selects RX11 yX11_clear yX11_clear ∈ uw := uw_t4 46 rfl rfl
set_option maxRecDepth 100000 in
theorem kw_913 : Cond.code yX11_clear cX11_clear 2 none ∈ uw := uw_t4 47 rfl rfl
set_option maxRecDepth 100000 in
theorem kw_914 : Cond.methodLink RL 69 yX12_clear ∈ uw := uw_t5 178 rfl rfl
set_option maxRecDepth 100000 in
theorem kw_915 : Cond.instanceMethod yX12_clear ∈ uw := uw_t5 179 rfl rfl
set_option maxRecDepth 100000 in
theorem kw_916 : Cond.selects RX12 yX12_clear yX12_clear ∈ uw := uw_t5 180 rfl rfl
set_option maxRecDepth 100000 in
theorem kw_917 : Cond.code yX12_clear cX12_clear 3 none ∈ uw := uw_t5 181 rfl rfl
set_option maxRecDepth 100000 in
theorem kw_918 : Cond.methodLink RL 70 yX11_sum ∈ uw := uw_t4 55 rfl rfl
set_option maxRecDepth 100000 in
theorem kw_919 : Cond.instanceMethod yX11_sum ∈ uw := uw_t4 56 rfl rfl
set_option maxRecDepth 100000 in
theorem kw_920 : Cond.selects RX11 yX11_sum yX11_sum ∈ uw := uw_t4 57 rfl rfl
set_option maxRecDepth 100000 in
theorem kw_921 : Cond.code yX11_sum cX11_sum 1 (some .int) ∈ uw := uw_t4 58 rfl rfl
set_option maxRecDepth 100000 in
theorem kw_922 : Cond.methodLink RL 73 yX12_sum ∈ uw := uw_t5 182 rfl rfl
set_option maxRecDepth 100000 in
theorem kw_923 : Cond.instanceMethod yX12_sum ∈ uw := uw_t5 183 rfl rfl
set_option maxRecDepth 100000 in
theorem kw_924 : Cond.selects RX12 yX12_sum yX12_sum ∈ uw := uw_t5 184 rfl rfl
set_option maxRecDepth 100000 in
theorem kw_925 : Cond.code yX12_sum cX12_sum 4 (some .int) ∈ uw := uw_t5 185 rfl rfl
set_option maxRecDepth 100000 in
theorem kw_926 : Cond.methodLink RL 74 yX11_state ∈ uw := uw_t4 63 rfl rfl
set_option maxRecDepth 100000 in
theorem kw_927 : Cond.instanceMethod yX11_state ∈ uw := uw_t4 64 rfl rfl
set_option maxRecDepth 100000 in
theorem kw_928 : Cond.selects RX11 yX11_state yX11_state ∈ uw := uw_t4 65 rfl rfl
set_option maxRecDepth 100000 in
theorem kw_929 : Cond.code yX11_state cX11_state 2 (some .int) ∈ uw := uw_t4 66 rfl rfl
set_option maxRecDepth 100000 in
theorem kw_930 : Cond.methodLink RL 77 yX12_state ∈ uw := uw_t5 186 rfl rfl
set_option maxRecDepth 100000 in
theorem kw_931 : Cond.instanceMethod yX12_state ∈ uw := uw_t5 187 rfl rfl
set_option maxRecDepth 100000 in
theorem kw_932 : Cond.selects RX12 yX12_state yX12_state ∈ uw := uw_t5 188 rfl rfl
set_option maxRecDepth 100000 in
theorem kw_933 : Cond.code yX12_state cX12_state 2 (some .int) ∈ uw := uw_t5 189 rfl rfl
set_option maxRecDepth 100000 in
theorem kw_934 : Cond.classLink RL 7 RX11 ∈ uw := uw_t1 17 rfl rfl
set_option maxRecDepth 100000 in
theorem kw_935 : Cond.instantiable RX11 10 ∈ uw := uw_t1 18 rfl rfl
set_option maxRecDepth 100000 in
theorem kw_936 : Cond.methodLink RL 9 yL_cell ∈ uw := uw_t4 80 rfl rfl
set_option maxRecDepth 100000 in
theorem kw_937 : Cond.static yL_cell ∈ uw := uw_t4 81 rfl rfl
set_option maxRecDepth 100000 in
theorem kw_938 : Cond.initialized RL ∈ uw := uw_t1 0 rfl rfl
set_option maxRecDepth 100000 in
theorem kw_939 : Cond.code yL_cell cL_cell 2 (some .int) ∈ uw := uw_t4 82 rfl rfl
set_option maxRecDepth 100000 in
theorem kw_940 : Cond.code yX11_init cX11_init 4 none ∈ uw := uw_t1 21 rfl rfl
set_option maxRecDepth 100000 in
theorem kw_941 : Cond.methodLink RL 15 yX11_init ∈ uw := uw_t1 19 rfl rfl
set_option maxRecDepth 100000 in
theorem kw_942 : Cond.instanceMethod yX11_init ∈ uw := uw_t1 20 rfl rfl
set_option maxRecDepth 100000 in
theorem kw_943 : Cond.classLink RL 18 RX12 ∈ uw := uw_t4 83 rfl rfl
set_option maxRecDepth 100000 in
theorem kw_944 : Cond.instantiable RX12 28 ∈ uw := uw_t4 84 rfl rfl
set_option maxRecDepth 100000 in
theorem kw_945 : Cond.code yX12_init cX12_init 3 none ∈ uw := uw_t4 87 rfl rfl
set_option maxRecDepth 100000 in
theorem kw_946 : Cond.methodLink RL 20 yX12_init ∈ uw := uw_t4 85 rfl rfl
set_option maxRecDepth 100000 in
theorem kw_947 : Cond.instanceMethod yX12_init ∈ uw := uw_t4 86 rfl rfl
