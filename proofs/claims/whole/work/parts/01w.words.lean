theorem ed_w1_0 : Cond.initialized RL ∈ ed_ws := ed_wm1 (i := 0) rfl rfl
theorem ed_w1_1 : Cond.initialized RX8 ∈ ed_ws := ed_wm1 (i := 1) rfl rfl
theorem ed_w1_2 : Cond.initialized RX5 ∈ ed_ws := ed_wm1 (i := 2) rfl rfl
theorem ed_w1_3 : Cond.initialized RX3 ∈ ed_ws := ed_wm1 (i := 3) rfl rfl
theorem ed_w1_4 : Cond.initialized RX6 ∈ ed_ws := ed_wm1 (i := 4) rfl rfl
theorem ed_w1_5 : Cond.initialized RX0 ∈ ed_ws := ed_wm1 (i := 5) rfl rfl
theorem ed_w1_6 : Cond.initialized RX1 ∈ ed_ws := ed_wm1 (i := 6) rfl rfl
theorem ed_w1_7 : Cond.initialized RX4 ∈ ed_ws := ed_wm1 (i := 7) rfl rfl
theorem ed_w1_8 : Cond.initialized RX2 ∈ ed_ws := ed_wm1 (i := 8) rfl rfl
theorem ed_w1_9 : Cond.initialized RX7 ∈ ed_ws := ed_wm1 (i := 9) rfl rfl
theorem ed_w1_10 : Cond.initialized RX9 ∈ ed_ws := ed_wm1 (i := 10) rfl rfl
theorem ed_w1_11 : Cond.initialized "java/lang/Math" ∈ ed_ws := ed_wm1 (i := 11) rfl rfl
theorem ed_w1_12 : Cond.initialized "java/lang/System" ∈ ed_ws := ed_wm1 (i := 12) rfl rfl
theorem ed_w1_13 : Cond.classLink RL 7 RX8 ∈ ed_ws := ed_wm1 (i := 13) rfl rfl
theorem ed_w1_14 : Cond.instantiable RX8 6 ∈ ed_ws := ed_wm1 (i := 14) rfl rfl
theorem ed_w1_15 : Cond.methodLink RL 9 yX8_init ∈ ed_ws := ed_wm1 (i := 15) rfl rfl
theorem ed_w1_16 : Cond.instanceMethod yX8_init ∈ ed_ws := ed_wm1 (i := 16) rfl rfl
theorem ed_w1_17 : Cond.code yX8_init cX8_init 1 none ∈ ed_ws := ed_wm1 (i := 17) rfl rfl
theorem ed_w1_18 : Cond.methodLink RX8 3 objectInit ∈ ed_ws := ed_wm1 (i := 18) rfl rfl
theorem ed_w1_19 : Cond.instanceMethod objectInit ∈ ed_ws := ed_wm1 (i := 19) rfl rfl
theorem ed_w1_20 : Cond.code objectInit ⟨#[0xb1]⟩ 1 none ∈ ed_ws := ed_wm1 (i := 20) rfl rfl
theorem ed_w1_21 : Cond.classLink RX8 9 RX5 ∈ ed_ws := ed_wm1 (i := 21) rfl rfl
theorem ed_w1_22 : Cond.instantiable RX5 11 ∈ ed_ws := ed_wm1 (i := 22) rfl rfl
theorem ed_w1_23 : Cond.methodLink RX8 11 yX5_init ∈ ed_ws := ed_wm1 (i := 23) rfl rfl
theorem ed_w1_24 : Cond.instanceMethod yX5_init ∈ ed_ws := ed_wm1 (i := 24) rfl rfl
theorem ed_w1_25 : Cond.code yX5_init cX5_init 2 none ∈ ed_ws := ed_wm1 (i := 25) rfl rfl
theorem ed_w1_26 : Cond.methodLink RX5 3 objectInit ∈ ed_ws := ed_wm1 (i := 26) rfl rfl
theorem ed_w1_27 : Cond.classLink RX5 15 RX3 ∈ ed_ws := ed_wm1 (i := 27) rfl rfl
theorem ed_w1_28 : Cond.instantiable RX3 3 ∈ ed_ws := ed_wm1 (i := 28) rfl rfl
theorem ed_w1_30 : Cond.instanceMethod yX3_init ∈ ed_ws := ed_wm1 (i := 30) rfl rfl
theorem ed_w1_31 : Cond.code yX3_init cX3_init 1 none ∈ ed_ws := ed_wm1 (i := 31) rfl rfl
theorem ed_w1_32 : Cond.methodLink RX3 3 objectInit ∈ ed_ws := ed_wm1 (i := 32) rfl rfl
theorem ed_w1_33 : Cond.fieldLink RX3 11 "EmbargoDesk$Log" "cells" "[I" ∈ ed_ws := ed_wm1 (i := 33) rfl rfl
theorem ed_w1_34 : Cond.fieldLink RX3 15 "EmbargoDesk$Log" "newest" "I" ∈ ed_ws := ed_wm1 (i := 34) rfl rfl
theorem ed_w1_35 : Cond.fieldLink RX3 19 "EmbargoDesk$Log" "size" "I" ∈ ed_ws := ed_wm1 (i := 35) rfl rfl
theorem ed_w1_36 : Cond.laysFinal "EmbargoDesk$Log" "EmbargoDesk$Log" "cells" "[I" ∈ ed_ws := ed_wm1 (i := 36) rfl rfl
theorem ed_w1_38 : Cond.lays "EmbargoDesk$Log" "EmbargoDesk$Log" "newest" "I" ∈ ed_ws := ed_wm1 (i := 38) rfl rfl
theorem ed_w1_40 : Cond.lays "EmbargoDesk$Log" "EmbargoDesk$Log" "size" "I" ∈ ed_ws := ed_wm1 (i := 40) rfl rfl
theorem ed_w1_43 : Cond.arrayClass .int ∈ ed_ws := ed_wm1 (i := 43) rfl rfl
theorem ed_w1_44 : Cond.classLink RX5 22 RX6 ∈ ed_ws := ed_wm1 (i := 44) rfl rfl
theorem ed_w1_46 : Cond.classLink RX5 28 RX0 ∈ ed_ws := ed_wm1 (i := 46) rfl rfl
theorem ed_w1_48 : Cond.classLink RX5 34 RX1 ∈ ed_ws := ed_wm1 (i := 48) rfl rfl
theorem ed_w1_50 : Cond.classLink RX5 40 RX4 ∈ ed_ws := ed_wm1 (i := 50) rfl rfl
theorem ed_w1_52 : Cond.instantiable RX6 11 ∈ ed_ws := ed_wm1 (i := 52) rfl rfl
theorem ed_w1_54 : Cond.instanceMethod yX6_init ∈ ed_ws := ed_wm1 (i := 54) rfl rfl
theorem ed_w1_55 : Cond.code yX6_init cX6_init 1 none ∈ ed_ws := ed_wm1 (i := 55) rfl rfl
theorem ed_w1_56 : Cond.methodLink RX6 3 objectInit ∈ ed_ws := ed_wm1 (i := 56) rfl rfl
theorem ed_w1_57 : Cond.fieldLink RX6 27 "EmbargoDesk$Story" "topic" "I" ∈ ed_ws := ed_wm1 (i := 57) rfl rfl
theorem ed_w1_58 : Cond.fieldLink RX8 94 "EmbargoDesk$Story" "topic" "I" ∈ ed_ws := ed_wm1 (i := 58) rfl rfl
theorem ed_w1_59 : Cond.fieldLink RX5 159 "EmbargoDesk$Story" "topic" "I" ∈ ed_ws := ed_wm1 (i := 59) rfl rfl
theorem ed_w1_60 : Cond.fieldLink RX6 31 "EmbargoDesk$Story" "bylineSize" "I" ∈ ed_ws := ed_wm1 (i := 60) rfl rfl
theorem ed_w1_61 : Cond.fieldLink RX5 224 "EmbargoDesk$Story" "bylineSize" "I" ∈ ed_ws := ed_wm1 (i := 61) rfl rfl
theorem ed_w1_62 : Cond.fieldLink RX8 157 "EmbargoDesk$Story" "bylineSize" "I" ∈ ed_ws := ed_wm1 (i := 62) rfl rfl
theorem ed_w1_63 : Cond.fieldLink RX6 9 "EmbargoDesk$Story" "byline" "[I" ∈ ed_ws := ed_wm1 (i := 63) rfl rfl
theorem ed_w1_64 : Cond.fieldLink RX6 40 "EmbargoDesk$Story" "embargo" "I" ∈ ed_ws := ed_wm1 (i := 64) rfl rfl
theorem ed_w1_65 : Cond.fieldLink RX8 101 "EmbargoDesk$Story" "embargo" "I" ∈ ed_ws := ed_wm1 (i := 65) rfl rfl
theorem ed_w1_66 : Cond.fieldLink RX5 135 "EmbargoDesk$Story" "embargo" "I" ∈ ed_ws := ed_wm1 (i := 66) rfl rfl
theorem ed_w1_67 : Cond.fieldLink RX6 44 "EmbargoDesk$Story" "slugSize" "I" ∈ ed_ws := ed_wm1 (i := 67) rfl rfl
theorem ed_w1_68 : Cond.fieldLink RX8 163 "EmbargoDesk$Story" "slugSize" "I" ∈ ed_ws := ed_wm1 (i := 68) rfl rfl
theorem ed_w1_69 : Cond.fieldLink RX6 15 "EmbargoDesk$Story" "slug" "[I" ∈ ed_ws := ed_wm1 (i := 69) rfl rfl
theorem ed_w1_70 : Cond.fieldLink RX6 46 "EmbargoDesk$Story" "state" "I" ∈ ed_ws := ed_wm1 (i := 70) rfl rfl
theorem ed_w1_71 : Cond.fieldLink RX8 92 "EmbargoDesk$Story" "state" "I" ∈ ed_ws := ed_wm1 (i := 71) rfl rfl
theorem ed_w1_72 : Cond.fieldLink RX5 132 "EmbargoDesk$Story" "state" "I" ∈ ed_ws := ed_wm1 (i := 72) rfl rfl
theorem ed_w1_73 : Cond.fieldLink RX6 49 "EmbargoDesk$Story" "version" "I" ∈ ed_ws := ed_wm1 (i := 73) rfl rfl
theorem ed_w1_74 : Cond.fieldLink RX8 113 "EmbargoDesk$Story" "version" "I" ∈ ed_ws := ed_wm1 (i := 74) rfl rfl
theorem ed_w1_75 : Cond.fieldLink RX5 202 "EmbargoDesk$Story" "version" "I" ∈ ed_ws := ed_wm1 (i := 75) rfl rfl
theorem ed_w1_76 : Cond.fieldLink RX6 18 "EmbargoDesk$Story" "corrections" "[I" ∈ ed_ws := ed_wm1 (i := 76) rfl rfl
theorem ed_w1_77 : Cond.fieldLink RX6 52 "EmbargoDesk$Story" "publishedAt" "I" ∈ ed_ws := ed_wm1 (i := 77) rfl rfl
theorem ed_w1_78 : Cond.fieldLink RX5 152 "EmbargoDesk$Story" "publishedAt" "I" ∈ ed_ws := ed_wm1 (i := 78) rfl rfl
theorem ed_w1_79 : Cond.fieldLink RX8 160 "EmbargoDesk$Story" "publishedAt" "I" ∈ ed_ws := ed_wm1 (i := 79) rfl rfl
theorem ed_w1_80 : Cond.fieldLink RX6 55 "EmbargoDesk$Story" "killedAt" "I" ∈ ed_ws := ed_wm1 (i := 80) rfl rfl
theorem ed_w1_81 : Cond.fieldLink RX8 130 "EmbargoDesk$Story" "killedAt" "I" ∈ ed_ws := ed_wm1 (i := 81) rfl rfl
theorem ed_w1_82 : Cond.fieldLink RX5 250 "EmbargoDesk$Story" "killedAt" "I" ∈ ed_ws := ed_wm1 (i := 82) rfl rfl
theorem ed_w1_83 : Cond.lays "EmbargoDesk$Story" "EmbargoDesk$Story" "topic" "I" ∈ ed_ws := ed_wm1 (i := 83) rfl rfl
theorem ed_w1_85 : Cond.lays "EmbargoDesk$Story" "EmbargoDesk$Story" "bylineSize" "I" ∈ ed_ws := ed_wm1 (i := 85) rfl rfl
theorem ed_w1_87 : Cond.laysFinal "EmbargoDesk$Story" "EmbargoDesk$Story" "byline" "[I" ∈ ed_ws := ed_wm1 (i := 87) rfl rfl
theorem ed_w1_89 : Cond.lays "EmbargoDesk$Story" "EmbargoDesk$Story" "embargo" "I" ∈ ed_ws := ed_wm1 (i := 89) rfl rfl
theorem ed_w1_91 : Cond.lays "EmbargoDesk$Story" "EmbargoDesk$Story" "slugSize" "I" ∈ ed_ws := ed_wm1 (i := 91) rfl rfl
theorem ed_w1_93 : Cond.laysFinal "EmbargoDesk$Story" "EmbargoDesk$Story" "slug" "[I" ∈ ed_ws := ed_wm1 (i := 93) rfl rfl
theorem ed_w1_95 : Cond.lays "EmbargoDesk$Story" "EmbargoDesk$Story" "state" "I" ∈ ed_ws := ed_wm1 (i := 95) rfl rfl
theorem ed_w1_97 : Cond.lays "EmbargoDesk$Story" "EmbargoDesk$Story" "version" "I" ∈ ed_ws := ed_wm1 (i := 97) rfl rfl
theorem ed_w1_99 : Cond.laysFinal "EmbargoDesk$Story" "EmbargoDesk$Story" "corrections" "[I" ∈ ed_ws := ed_wm1 (i := 99) rfl rfl
theorem ed_w1_101 : Cond.lays "EmbargoDesk$Story" "EmbargoDesk$Story" "publishedAt" "I" ∈ ed_ws := ed_wm1 (i := 101) rfl rfl
theorem ed_w1_103 : Cond.lays "EmbargoDesk$Story" "EmbargoDesk$Story" "killedAt" "I" ∈ ed_ws := ed_wm1 (i := 103) rfl rfl
theorem ed_w1_106 : Cond.instantiable RX0 10 ∈ ed_ws := ed_wm1 (i := 106) rfl rfl
theorem ed_w1_108 : Cond.instanceMethod yX0_init ∈ ed_ws := ed_wm1 (i := 108) rfl rfl
theorem ed_w1_109 : Cond.code yX0_init cX0_init 1 none ∈ ed_ws := ed_wm1 (i := 109) rfl rfl
theorem ed_w1_110 : Cond.methodLink RX0 1 objectInit ∈ ed_ws := ed_wm1 (i := 110) rfl rfl
theorem ed_w1_111 : Cond.fieldLink RX0 7 "EmbargoDesk$Client" "topics" "I" ∈ ed_ws := ed_wm1 (i := 111) rfl rfl
theorem ed_w1_112 : Cond.fieldLink RX8 59 "EmbargoDesk$Client" "topics" "I" ∈ ed_ws := ed_wm1 (i := 112) rfl rfl
theorem ed_w1_113 : Cond.fieldLink RX0 13 "EmbargoDesk$Client" "delay" "I" ∈ ed_ws := ed_wm1 (i := 113) rfl rfl
theorem ed_w1_114 : Cond.fieldLink RX5 166 "EmbargoDesk$Client" "delay" "I" ∈ ed_ws := ed_wm1 (i := 114) rfl rfl
theorem ed_w1_115 : Cond.fieldLink RX8 178 "EmbargoDesk$Client" "delay" "I" ∈ ed_ws := ed_wm1 (i := 115) rfl rfl
theorem ed_w1_116 : Cond.fieldLink RX0 16 "EmbargoDesk$Client" "lag" "I" ∈ ed_ws := ed_wm1 (i := 116) rfl rfl
theorem ed_w1_117 : Cond.fieldLink RX5 244 "EmbargoDesk$Client" "lag" "I" ∈ ed_ws := ed_wm1 (i := 117) rfl rfl
theorem ed_w1_118 : Cond.fieldLink RX8 181 "EmbargoDesk$Client" "lag" "I" ∈ ed_ws := ed_wm1 (i := 118) rfl rfl
theorem ed_w1_119 : Cond.fieldLink RX0 19 "EmbargoDesk$Client" "limit" "I" ∈ ed_ws := ed_wm1 (i := 119) rfl rfl
theorem ed_w1_120 : Cond.fieldLink RX8 184 "EmbargoDesk$Client" "limit" "I" ∈ ed_ws := ed_wm1 (i := 120) rfl rfl
theorem ed_w1_121 : Cond.fieldLink RX0 22 "EmbargoDesk$Client" "fee" "I" ∈ ed_ws := ed_wm1 (i := 121) rfl rfl
theorem ed_w1_122 : Cond.fieldLink RX5 216 "EmbargoDesk$Client" "fee" "I" ∈ ed_ws := ed_wm1 (i := 122) rfl rfl
theorem ed_w1_123 : Cond.fieldLink RX8 187 "EmbargoDesk$Client" "fee" "I" ∈ ed_ws := ed_wm1 (i := 123) rfl rfl
theorem ed_w1_124 : Cond.fieldLink RX0 25 "EmbargoDesk$Client" "up" "Z" ∈ ed_ws := ed_wm1 (i := 124) rfl rfl
theorem ed_w1_125 : Cond.fieldLink RX8 62 "EmbargoDesk$Client" "up" "Z" ∈ ed_ws := ed_wm1 (i := 125) rfl rfl
theorem ed_w1_126 : Cond.fieldLink RX5 191 "EmbargoDesk$Client" "up" "Z" ∈ ed_ws := ed_wm1 (i := 126) rfl rfl
theorem ed_w1_127 : Cond.fieldLink RX0 29 "EmbargoDesk$Client" "owed" "I" ∈ ed_ws := ed_wm1 (i := 127) rfl rfl
theorem ed_w1_128 : Cond.fieldLink RX8 73 "EmbargoDesk$Client" "owed" "I" ∈ ed_ws := ed_wm1 (i := 128) rfl rfl
theorem ed_w1_129 : Cond.fieldLink RX5 213 "EmbargoDesk$Client" "owed" "I" ∈ ed_ws := ed_wm1 (i := 129) rfl rfl
theorem ed_w1_130 : Cond.fieldLink RX0 32 "EmbargoDesk$Client" "today" "I" ∈ ed_ws := ed_wm1 (i := 130) rfl rfl
theorem ed_w1_131 : Cond.fieldLink RX5 149 "EmbargoDesk$Client" "today" "I" ∈ ed_ws := ed_wm1 (i := 131) rfl rfl
theorem ed_w1_132 : Cond.fieldLink RX8 190 "EmbargoDesk$Client" "today" "I" ∈ ed_ws := ed_wm1 (i := 132) rfl rfl
theorem ed_w1_133 : Cond.fieldLink RX0 35 "EmbargoDesk$Client" "total" "I" ∈ ed_ws := ed_wm1 (i := 133) rfl rfl
theorem ed_w1_134 : Cond.fieldLink RX5 206 "EmbargoDesk$Client" "total" "I" ∈ ed_ws := ed_wm1 (i := 134) rfl rfl
theorem ed_w1_135 : Cond.fieldLink RX8 193 "EmbargoDesk$Client" "total" "I" ∈ ed_ws := ed_wm1 (i := 135) rfl rfl
theorem ed_w1_136 : Cond.fieldLink RX0 38 "EmbargoDesk$Client" "unbilled" "I" ∈ ed_ws := ed_wm1 (i := 136) rfl rfl
theorem ed_w1_137 : Cond.fieldLink RX5 221 "EmbargoDesk$Client" "unbilled" "I" ∈ ed_ws := ed_wm1 (i := 137) rfl rfl
theorem ed_w1_138 : Cond.fieldLink RX8 196 "EmbargoDesk$Client" "unbilled" "I" ∈ ed_ws := ed_wm1 (i := 138) rfl rfl
theorem ed_w1_139 : Cond.lays "EmbargoDesk$Client" "EmbargoDesk$Client" "topics" "I" ∈ ed_ws := ed_wm1 (i := 139) rfl rfl
theorem ed_w1_141 : Cond.lays "EmbargoDesk$Client" "EmbargoDesk$Client" "delay" "I" ∈ ed_ws := ed_wm1 (i := 141) rfl rfl
theorem ed_w1_143 : Cond.lays "EmbargoDesk$Client" "EmbargoDesk$Client" "lag" "I" ∈ ed_ws := ed_wm1 (i := 143) rfl rfl
theorem ed_w1_145 : Cond.lays "EmbargoDesk$Client" "EmbargoDesk$Client" "limit" "I" ∈ ed_ws := ed_wm1 (i := 145) rfl rfl
theorem ed_w1_147 : Cond.lays "EmbargoDesk$Client" "EmbargoDesk$Client" "fee" "I" ∈ ed_ws := ed_wm1 (i := 147) rfl rfl
theorem ed_w1_149 : Cond.lays "EmbargoDesk$Client" "EmbargoDesk$Client" "up" "Z" ∈ ed_ws := ed_wm1 (i := 149) rfl rfl
theorem ed_w1_151 : Cond.lays "EmbargoDesk$Client" "EmbargoDesk$Client" "owed" "I" ∈ ed_ws := ed_wm1 (i := 151) rfl rfl
theorem ed_w1_153 : Cond.lays "EmbargoDesk$Client" "EmbargoDesk$Client" "today" "I" ∈ ed_ws := ed_wm1 (i := 153) rfl rfl
theorem ed_w1_155 : Cond.lays "EmbargoDesk$Client" "EmbargoDesk$Client" "total" "I" ∈ ed_ws := ed_wm1 (i := 155) rfl rfl
theorem ed_w1_157 : Cond.lays "EmbargoDesk$Client" "EmbargoDesk$Client" "unbilled" "I" ∈ ed_ws := ed_wm1 (i := 157) rfl rfl
theorem ed_w1_160 : Cond.instantiable RX1 6 ∈ ed_ws := ed_wm1 (i := 160) rfl rfl
theorem ed_w1_162 : Cond.instanceMethod yX1_init ∈ ed_ws := ed_wm1 (i := 162) rfl rfl
theorem ed_w1_163 : Cond.code yX1_init cX1_init 1 none ∈ ed_ws := ed_wm1 (i := 163) rfl rfl
theorem ed_w1_164 : Cond.methodLink RX1 3 objectInit ∈ ed_ws := ed_wm1 (i := 164) rfl rfl
theorem ed_w1_165 : Cond.fieldLink RX1 9 "EmbargoDesk$Copy" "story" "I" ∈ ed_ws := ed_wm1 (i := 165) rfl rfl
theorem ed_w1_166 : Cond.fieldLink RX5 123 "EmbargoDesk$Copy" "story" "I" ∈ ed_ws := ed_wm1 (i := 166) rfl rfl
theorem ed_w1_167 : Cond.fieldLink RX8 251 "EmbargoDesk$Copy" "story" "I" ∈ ed_ws := ed_wm1 (i := 167) rfl rfl
theorem ed_w1_168 : Cond.fieldLink RX1 15 "EmbargoDesk$Copy" "client" "I" ∈ ed_ws := ed_wm1 (i := 168) rfl rfl
theorem ed_w1_169 : Cond.fieldLink RX5 126 "EmbargoDesk$Copy" "client" "I" ∈ ed_ws := ed_wm1 (i := 169) rfl rfl
theorem ed_w1_170 : Cond.fieldLink RX8 254 "EmbargoDesk$Copy" "client" "I" ∈ ed_ws := ed_wm1 (i := 170) rfl rfl
theorem ed_w1_171 : Cond.fieldLink RX1 18 "EmbargoDesk$Copy" "state" "I" ∈ ed_ws := ed_wm1 (i := 171) rfl rfl
theorem ed_w1_172 : Cond.fieldLink RX5 176 "EmbargoDesk$Copy" "state" "I" ∈ ed_ws := ed_wm1 (i := 172) rfl rfl
theorem ed_w1_173 : Cond.fieldLink RX8 221 "EmbargoDesk$Copy" "state" "I" ∈ ed_ws := ed_wm1 (i := 173) rfl rfl
theorem ed_w1_174 : Cond.fieldLink RX1 21 "EmbargoDesk$Copy" "due" "I" ∈ ed_ws := ed_wm1 (i := 174) rfl rfl
theorem ed_w1_175 : Cond.fieldLink RX5 177 "EmbargoDesk$Copy" "due" "I" ∈ ed_ws := ed_wm1 (i := 175) rfl rfl
theorem ed_w1_176 : Cond.fieldLink RX8 224 "EmbargoDesk$Copy" "due" "I" ∈ ed_ws := ed_wm1 (i := 176) rfl rfl
theorem ed_w1_177 : Cond.fieldLink RX1 24 "EmbargoDesk$Copy" "startedAt" "I" ∈ ed_ws := ed_wm1 (i := 177) rfl rfl
theorem ed_w1_178 : Cond.fieldLink RX5 199 "EmbargoDesk$Copy" "startedAt" "I" ∈ ed_ws := ed_wm1 (i := 178) rfl rfl
theorem ed_w1_179 : Cond.fieldLink RX8 227 "EmbargoDesk$Copy" "startedAt" "I" ∈ ed_ws := ed_wm1 (i := 179) rfl rfl
theorem ed_w1_180 : Cond.fieldLink RX1 27 "EmbargoDesk$Copy" "version" "I" ∈ ed_ws := ed_wm1 (i := 180) rfl rfl
theorem ed_w1_181 : Cond.fieldLink RX5 205 "EmbargoDesk$Copy" "version" "I" ∈ ed_ws := ed_wm1 (i := 181) rfl rfl
theorem ed_w1_182 : Cond.fieldLink RX8 230 "EmbargoDesk$Copy" "version" "I" ∈ ed_ws := ed_wm1 (i := 182) rfl rfl
theorem ed_w1_183 : Cond.lays "EmbargoDesk$Copy" "EmbargoDesk$Copy" "story" "I" ∈ ed_ws := ed_wm1 (i := 183) rfl rfl
theorem ed_w1_185 : Cond.lays "EmbargoDesk$Copy" "EmbargoDesk$Copy" "client" "I" ∈ ed_ws := ed_wm1 (i := 185) rfl rfl
theorem ed_w1_187 : Cond.lays "EmbargoDesk$Copy" "EmbargoDesk$Copy" "state" "I" ∈ ed_ws := ed_wm1 (i := 187) rfl rfl
theorem ed_w1_189 : Cond.lays "EmbargoDesk$Copy" "EmbargoDesk$Copy" "due" "I" ∈ ed_ws := ed_wm1 (i := 189) rfl rfl
theorem ed_w1_191 : Cond.lays "EmbargoDesk$Copy" "EmbargoDesk$Copy" "startedAt" "I" ∈ ed_ws := ed_wm1 (i := 191) rfl rfl
theorem ed_w1_193 : Cond.lays "EmbargoDesk$Copy" "EmbargoDesk$Copy" "version" "I" ∈ ed_ws := ed_wm1 (i := 193) rfl rfl
theorem ed_w1_196 : Cond.instantiable RX4 2 ∈ ed_ws := ed_wm1 (i := 196) rfl rfl
theorem ed_w1_198 : Cond.instanceMethod yX4_init ∈ ed_ws := ed_wm1 (i := 198) rfl rfl
theorem ed_w1_199 : Cond.code yX4_init cX4_init 1 none ∈ ed_ws := ed_wm1 (i := 199) rfl rfl
theorem ed_w1_200 : Cond.methodLink RX4 3 objectInit ∈ ed_ws := ed_wm1 (i := 200) rfl rfl
theorem ed_w1_201 : Cond.fieldLink RX4 9 "EmbargoDesk$Person" "got" "I" ∈ ed_ws := ed_wm1 (i := 201) rfl rfl
theorem ed_w1_202 : Cond.fieldLink RX5 107 "EmbargoDesk$Person" "got" "I" ∈ ed_ws := ed_wm1 (i := 202) rfl rfl
theorem ed_w1_203 : Cond.fieldLink RX8 203 "EmbargoDesk$Person" "got" "I" ∈ ed_ws := ed_wm1 (i := 203) rfl rfl
theorem ed_w1_204 : Cond.fieldLink RX4 17 "EmbargoDesk$Person" "lost" "I" ∈ ed_ws := ed_wm1 (i := 204) rfl rfl
theorem ed_w1_205 : Cond.fieldLink RX5 110 "EmbargoDesk$Person" "lost" "I" ∈ ed_ws := ed_wm1 (i := 205) rfl rfl
theorem ed_w1_206 : Cond.fieldLink RX8 208 "EmbargoDesk$Person" "lost" "I" ∈ ed_ws := ed_wm1 (i := 206) rfl rfl
theorem ed_w1_207 : Cond.lays "EmbargoDesk$Person" "EmbargoDesk$Person" "got" "I" ∈ ed_ws := ed_wm1 (i := 207) rfl rfl
theorem ed_w1_209 : Cond.lays "EmbargoDesk$Person" "EmbargoDesk$Person" "lost" "I" ∈ ed_ws := ed_wm1 (i := 209) rfl rfl
theorem ed_w1_212 : Cond.fieldLink RX5 50 "EmbargoDesk$State" "hour" "I" ∈ ed_ws := ed_wm1 (i := 212) rfl rfl
theorem ed_w1_213 : Cond.fieldLink RX8 104 "EmbargoDesk$State" "hour" "I" ∈ ed_ws := ed_wm1 (i := 213) rfl rfl
theorem ed_w1_214 : Cond.fieldLink RX5 9 "EmbargoDesk$State" "useDays" "I" ∈ ed_ws := ed_wm1 (i := 214) rfl rfl
theorem ed_w1_215 : Cond.fieldLink RX8 70 "EmbargoDesk$State" "useDays" "I" ∈ ed_ws := ed_wm1 (i := 215) rfl rfl
theorem ed_w1_216 : Cond.fieldLink RX5 53 "EmbargoDesk$State" "corrected" "I" ∈ ed_ws := ed_wm1 (i := 216) rfl rfl
theorem ed_w1_217 : Cond.fieldLink RX8 266 "EmbargoDesk$State" "corrected" "I" ∈ ed_ws := ed_wm1 (i := 217) rfl rfl
theorem ed_w1_218 : Cond.fieldLink RX5 73 "EmbargoDesk$State" "storyCount" "I" ∈ ed_ws := ed_wm1 (i := 218) rfl rfl
theorem ed_w1_219 : Cond.fieldLink RX8 80 "EmbargoDesk$State" "storyCount" "I" ∈ ed_ws := ed_wm1 (i := 219) rfl rfl
theorem ed_w1_220 : Cond.fieldLink RX8 41 "EmbargoDesk$State" "clientCount" "I" ∈ ed_ws := ed_wm1 (i := 220) rfl rfl
theorem ed_w1_221 : Cond.fieldLink RX5 83 "EmbargoDesk$State" "clientCount" "I" ∈ ed_ws := ed_wm1 (i := 221) rfl rfl
theorem ed_w1_222 : Cond.fieldLink RX5 93 "EmbargoDesk$State" "copyCount" "I" ∈ ed_ws := ed_wm1 (i := 222) rfl rfl
theorem ed_w1_223 : Cond.fieldLink RX8 260 "EmbargoDesk$State" "copyCount" "I" ∈ ed_ws := ed_wm1 (i := 223) rfl rfl
theorem ed_w1_224 : Cond.fieldLink RX5 18 "EmbargoDesk$State" "log" "LEmbargoDesk$Log;" ∈ ed_ws := ed_wm1 (i := 224) rfl rfl
theorem ed_w1_225 : Cond.fieldLink RX8 120 "EmbargoDesk$State" "log" "LEmbargoDesk$Log;" ∈ ed_ws := ed_wm1 (i := 225) rfl rfl
theorem ed_w1_226 : Cond.fieldLink RX5 24 "EmbargoDesk$State" "stories" "[LEmbargoDesk$Story;" ∈ ed_ws := ed_wm1 (i := 226) rfl rfl
theorem ed_w1_227 : Cond.fieldLink RX5 30 "EmbargoDesk$State" "clients" "[LEmbargoDesk$Client;" ∈ ed_ws := ed_wm1 (i := 227) rfl rfl
theorem ed_w1_228 : Cond.fieldLink RX5 36 "EmbargoDesk$State" "copies" "[LEmbargoDesk$Copy;" ∈ ed_ws := ed_wm1 (i := 228) rfl rfl
theorem ed_w1_229 : Cond.fieldLink RX5 42 "EmbargoDesk$State" "persons" "[LEmbargoDesk$Person;" ∈ ed_ws := ed_wm1 (i := 229) rfl rfl
theorem ed_w1_230 : Cond.lays "EmbargoDesk$State" "EmbargoDesk$State" "hour" "I" ∈ ed_ws := ed_wm1 (i := 230) rfl rfl
theorem ed_w1_232 : Cond.lays "EmbargoDesk$State" "EmbargoDesk$State" "useDays" "I" ∈ ed_ws := ed_wm1 (i := 232) rfl rfl
theorem ed_w1_234 : Cond.lays "EmbargoDesk$State" "EmbargoDesk$State" "corrected" "I" ∈ ed_ws := ed_wm1 (i := 234) rfl rfl
theorem ed_w1_236 : Cond.lays "EmbargoDesk$State" "EmbargoDesk$State" "storyCount" "I" ∈ ed_ws := ed_wm1 (i := 236) rfl rfl
theorem ed_w1_238 : Cond.lays "EmbargoDesk$State" "EmbargoDesk$State" "clientCount" "I" ∈ ed_ws := ed_wm1 (i := 238) rfl rfl
theorem ed_w2_0 : Cond.lays "EmbargoDesk$State" "EmbargoDesk$State" "copyCount" "I" ∈ ed_ws := ed_wm2 (i := 0) rfl rfl
theorem ed_w2_2 : Cond.laysFinal "EmbargoDesk$State" "EmbargoDesk$State" "log" "LEmbargoDesk$Log;" ∈ ed_ws := ed_wm2 (i := 2) rfl rfl
theorem ed_w2_4 : Cond.laysFinal "EmbargoDesk$State" "EmbargoDesk$State" "stories" "[LEmbargoDesk$Story;" ∈ ed_ws := ed_wm2 (i := 4) rfl rfl
theorem ed_w2_6 : Cond.laysFinal "EmbargoDesk$State" "EmbargoDesk$State" "clients" "[LEmbargoDesk$Client;" ∈ ed_ws := ed_wm2 (i := 6) rfl rfl
theorem ed_w2_8 : Cond.laysFinal "EmbargoDesk$State" "EmbargoDesk$State" "copies" "[LEmbargoDesk$Copy;" ∈ ed_ws := ed_wm2 (i := 8) rfl rfl
theorem ed_w2_10 : Cond.laysFinal "EmbargoDesk$State" "EmbargoDesk$State" "persons" "[LEmbargoDesk$Person;" ∈ ed_ws := ed_wm2 (i := 10) rfl rfl
theorem ed_w2_13 : Cond.classLink RX8 22 RX2 ∈ ed_ws := ed_wm2 (i := 13) rfl rfl
theorem ed_w2_14 : Cond.instantiable RX2 2 ∈ ed_ws := ed_wm2 (i := 14) rfl rfl
theorem ed_w2_15 : Cond.methodLink RX8 24 yX2_init ∈ ed_ws := ed_wm2 (i := 15) rfl rfl
theorem ed_w2_16 : Cond.instanceMethod yX2_init ∈ ed_ws := ed_wm2 (i := 16) rfl rfl
theorem ed_w2_17 : Cond.code yX2_init cX2_init 2 none ∈ ed_ws := ed_wm2 (i := 17) rfl rfl
theorem ed_w2_18 : Cond.methodLink RX2 3 objectInit ∈ ed_ws := ed_wm2 (i := 18) rfl rfl
theorem ed_w2_19 : Cond.classLink RX2 9 RX5 ∈ ed_ws := ed_wm2 (i := 19) rfl rfl
theorem ed_w2_21 : Cond.methodLink RX2 17 yX5_init ∈ ed_ws := ed_wm2 (i := 21) rfl rfl
theorem ed_w2_22 : Cond.fieldLink RX2 11 "EmbargoDesk$History" "rows" "[LEmbargoDesk$State;" ∈ ed_ws := ed_wm2 (i := 22) rfl rfl
theorem ed_w2_23 : Cond.fieldLink RX2 18 "EmbargoDesk$History" "size" "I" ∈ ed_ws := ed_wm2 (i := 23) rfl rfl
theorem ed_w2_24 : Cond.fieldLink RX8 145 "EmbargoDesk$History" "size" "I" ∈ ed_ws := ed_wm2 (i := 24) rfl rfl
theorem ed_w2_25 : Cond.laysFinal "EmbargoDesk$History" "EmbargoDesk$History" "rows" "[LEmbargoDesk$State;" ∈ ed_ws := ed_wm2 (i := 25) rfl rfl
theorem ed_w2_27 : Cond.lays "EmbargoDesk$History" "EmbargoDesk$History" "size" "I" ∈ ed_ws := ed_wm2 (i := 27) rfl rfl
theorem ed_w2_30 : Cond.classLink RX8 29 RX7 ∈ ed_ws := ed_wm2 (i := 30) rfl rfl
theorem ed_w2_31 : Cond.instantiable RX7 9 ∈ ed_ws := ed_wm2 (i := 31) rfl rfl
theorem ed_w2_33 : Cond.instanceMethod yX7_init ∈ ed_ws := ed_wm2 (i := 33) rfl rfl
theorem ed_w2_34 : Cond.code yX7_init cX7_init 1 none ∈ ed_ws := ed_wm2 (i := 34) rfl rfl
theorem ed_w2_35 : Cond.methodLink RX7 3 objectInit ∈ ed_ws := ed_wm2 (i := 35) rfl rfl
theorem ed_w2_36 : Cond.fieldLink RX7 9 "EmbargoDesk$StoryText" "signs" "[I" ∈ ed_ws := ed_wm2 (i := 36) rfl rfl
theorem ed_w2_37 : Cond.fieldLink RX7 21 "EmbargoDesk$StoryText" "length" "I" ∈ ed_ws := ed_wm2 (i := 37) rfl rfl
theorem ed_w2_38 : Cond.fieldLink RX8 139 "EmbargoDesk$StoryText" "length" "I" ∈ ed_ws := ed_wm2 (i := 38) rfl rfl
theorem ed_w2_39 : Cond.fieldLink RX7 29 "EmbargoDesk$StoryText" "at" "I" ∈ ed_ws := ed_wm2 (i := 39) rfl rfl
theorem ed_w2_40 : Cond.fieldLink RX6 21 "EmbargoDesk$StoryText" "topic" "I" ∈ ed_ws := ed_wm2 (i := 40) rfl rfl
theorem ed_w2_41 : Cond.fieldLink RX7 66 "EmbargoDesk$StoryText" "topic" "I" ∈ ed_ws := ed_wm2 (i := 41) rfl rfl
theorem ed_w2_42 : Cond.fieldLink RX6 28 "EmbargoDesk$StoryText" "bylineSize" "I" ∈ ed_ws := ed_wm2 (i := 42) rfl rfl
theorem ed_w2_43 : Cond.fieldLink RX7 69 "EmbargoDesk$StoryText" "bylineSize" "I" ∈ ed_ws := ed_wm2 (i := 43) rfl rfl
theorem ed_w2_44 : Cond.fieldLink RX7 15 "EmbargoDesk$StoryText" "byline" "[I" ∈ ed_ws := ed_wm2 (i := 44) rfl rfl
theorem ed_w2_45 : Cond.fieldLink RX6 32 "EmbargoDesk$StoryText" "byline" "[I" ∈ ed_ws := ed_wm2 (i := 45) rfl rfl
theorem ed_w2_46 : Cond.fieldLink RX6 37 "EmbargoDesk$StoryText" "embargo" "I" ∈ ed_ws := ed_wm2 (i := 46) rfl rfl
theorem ed_w2_47 : Cond.fieldLink RX7 79 "EmbargoDesk$StoryText" "embargo" "I" ∈ ed_ws := ed_wm2 (i := 47) rfl rfl
theorem ed_w2_48 : Cond.fieldLink RX6 41 "EmbargoDesk$StoryText" "slugSize" "I" ∈ ed_ws := ed_wm2 (i := 48) rfl rfl
theorem ed_w2_49 : Cond.fieldLink RX7 82 "EmbargoDesk$StoryText" "slugSize" "I" ∈ ed_ws := ed_wm2 (i := 49) rfl rfl
theorem ed_w2_50 : Cond.fieldLink RX7 18 "EmbargoDesk$StoryText" "slug" "[I" ∈ ed_ws := ed_wm2 (i := 50) rfl rfl
theorem ed_w2_51 : Cond.fieldLink RX6 45 "EmbargoDesk$StoryText" "slug" "[I" ∈ ed_ws := ed_wm2 (i := 51) rfl rfl
theorem ed_w2_52 : Cond.laysFinal "EmbargoDesk$StoryText" "EmbargoDesk$StoryText" "signs" "[I" ∈ ed_ws := ed_wm2 (i := 52) rfl rfl
theorem ed_w2_54 : Cond.lays "EmbargoDesk$StoryText" "EmbargoDesk$StoryText" "length" "I" ∈ ed_ws := ed_wm2 (i := 54) rfl rfl
theorem ed_w2_56 : Cond.lays "EmbargoDesk$StoryText" "EmbargoDesk$StoryText" "at" "I" ∈ ed_ws := ed_wm2 (i := 56) rfl rfl
theorem ed_w2_58 : Cond.lays "EmbargoDesk$StoryText" "EmbargoDesk$StoryText" "topic" "I" ∈ ed_ws := ed_wm2 (i := 58) rfl rfl
theorem ed_w2_60 : Cond.lays "EmbargoDesk$StoryText" "EmbargoDesk$StoryText" "bylineSize" "I" ∈ ed_ws := ed_wm2 (i := 60) rfl rfl
theorem ed_w2_62 : Cond.laysFinal "EmbargoDesk$StoryText" "EmbargoDesk$StoryText" "byline" "[I" ∈ ed_ws := ed_wm2 (i := 62) rfl rfl
theorem ed_w2_64 : Cond.lays "EmbargoDesk$StoryText" "EmbargoDesk$StoryText" "embargo" "I" ∈ ed_ws := ed_wm2 (i := 64) rfl rfl
theorem ed_w2_66 : Cond.lays "EmbargoDesk$StoryText" "EmbargoDesk$StoryText" "slugSize" "I" ∈ ed_ws := ed_wm2 (i := 66) rfl rfl
theorem ed_w2_68 : Cond.laysFinal "EmbargoDesk$StoryText" "EmbargoDesk$StoryText" "slug" "[I" ∈ ed_ws := ed_wm2 (i := 68) rfl rfl
theorem ed_w2_71 : Cond.fieldLink RX8 12 "EmbargoDesk" "state" "LEmbargoDesk$State;" ∈ ed_ws := ed_wm2 (i := 71) rfl rfl
theorem ed_w2_72 : Cond.fieldLink RX8 16 "EmbargoDesk" "imagined" "LEmbargoDesk$State;" ∈ ed_ws := ed_wm2 (i := 72) rfl rfl
theorem ed_w2_73 : Cond.fieldLink RX8 19 "EmbargoDesk" "snapshot" "LEmbargoDesk$State;" ∈ ed_ws := ed_wm2 (i := 73) rfl rfl
theorem ed_w2_74 : Cond.fieldLink RX8 154 "EmbargoDesk" "hasSnapshot" "Z" ∈ ed_ws := ed_wm2 (i := 74) rfl rfl
theorem ed_w2_75 : Cond.fieldLink RX8 25 "EmbargoDesk" "history" "LEmbargoDesk$History;" ∈ ed_ws := ed_wm2 (i := 75) rfl rfl
theorem ed_w2_76 : Cond.fieldLink RX8 32 "EmbargoDesk" "text" "LEmbargoDesk$StoryText;" ∈ ed_ws := ed_wm2 (i := 76) rfl rfl
theorem ed_w2_77 : Cond.laysFinal "EmbargoDesk" "EmbargoDesk" "state" "LEmbargoDesk$State;" ∈ ed_ws := ed_wm2 (i := 77) rfl rfl
theorem ed_w2_79 : Cond.laysFinal "EmbargoDesk" "EmbargoDesk" "imagined" "LEmbargoDesk$State;" ∈ ed_ws := ed_wm2 (i := 79) rfl rfl
theorem ed_w2_81 : Cond.laysFinal "EmbargoDesk" "EmbargoDesk" "snapshot" "LEmbargoDesk$State;" ∈ ed_ws := ed_wm2 (i := 81) rfl rfl
theorem ed_w2_83 : Cond.lays "EmbargoDesk" "EmbargoDesk" "hasSnapshot" "Z" ∈ ed_ws := ed_wm2 (i := 83) rfl rfl
theorem ed_w2_85 : Cond.laysFinal "EmbargoDesk" "EmbargoDesk" "history" "LEmbargoDesk$History;" ∈ ed_ws := ed_wm2 (i := 85) rfl rfl
theorem ed_w2_87 : Cond.laysFinal "EmbargoDesk" "EmbargoDesk" "text" "LEmbargoDesk$StoryText;" ∈ ed_ws := ed_wm2 (i := 87) rfl rfl
theorem ed_w2_90 : Cond.methodLink RL 13 yX8_addClient ∈ ed_ws := ed_wm2 (i := 90) rfl rfl
theorem ed_w2_91 : Cond.instanceMethod yX8_addClient ∈ ed_ws := ed_wm2 (i := 91) rfl rfl
theorem ed_w2_92 : Cond.selects RX8 yX8_addClient yX8_addClient ∈ ed_ws := ed_wm2 (i := 92) rfl rfl
theorem ed_w2_93 : Cond.code yX8_addClient cX8_addClient 8 (some .int) ∈ ed_ws := ed_wm2 (i := 93) rfl rfl
theorem ed_w2_94 : Cond.methodLink RX8 36 yX8_isBetween ∈ ed_ws := ed_wm2 (i := 94) rfl rfl
theorem ed_w2_95 : Cond.static yX8_isBetween ∈ ed_ws := ed_wm2 (i := 95) rfl rfl
theorem ed_w2_96 : Cond.code yX8_isBetween cX8_isBetween 3 (some .boolean) ∈ ed_ws := ed_wm2 (i := 96) rfl rfl
theorem ed_w2_97 : Cond.constant RX8 40 (2000000000) ∈ ed_ws := ed_wm2 (i := 97) rfl rfl
theorem ed_w2_98 : Cond.methodLink RX8 45 yX2_remember ∈ ed_ws := ed_wm2 (i := 98) rfl rfl
theorem ed_w2_99 : Cond.instanceMethod yX2_remember ∈ ed_ws := ed_wm2 (i := 99) rfl rfl
theorem ed_w2_100 : Cond.selects RX2 yX2_remember yX2_remember ∈ ed_ws := ed_wm2 (i := 100) rfl rfl
theorem ed_w2_101 : Cond.code yX2_remember cX2_remember 3 none ∈ ed_ws := ed_wm2 (i := 101) rfl rfl
theorem ed_w2_102 : Cond.methodLink RX2 22 yX2_dropOldest ∈ ed_ws := ed_wm2 (i := 102) rfl rfl
theorem ed_w2_104 : Cond.instanceMethod yX2_dropOldest ∈ ed_ws := ed_wm2 (i := 104) rfl rfl
theorem ed_w2_105 : Cond.code yX2_dropOldest cX2_dropOldest 3 none ∈ ed_ws := ed_wm2 (i := 105) rfl rfl
theorem ed_w2_107 : Cond.static yX8_isPlace ∈ ed_ws := ed_wm2 (i := 107) rfl rfl
theorem ed_w2_108 : Cond.code yX8_isPlace cX8_isPlace 2 (some .boolean) ∈ ed_ws := ed_wm2 (i := 108) rfl rfl
theorem ed_w2_109 : Cond.methodLink RX2 29 yX5_copyFrom ∈ ed_ws := ed_wm2 (i := 109) rfl rfl
theorem ed_w2_110 : Cond.instanceMethod yX5_copyFrom ∈ ed_ws := ed_wm2 (i := 110) rfl rfl
theorem ed_w2_111 : Cond.selects RX5 yX5_copyFrom yX5_copyFrom ∈ ed_ws := ed_wm2 (i := 111) rfl rfl
theorem ed_w2_112 : Cond.code yX5_copyFrom cX5_copyFrom 2 none ∈ ed_ws := ed_wm2 (i := 112) rfl rfl
theorem ed_w2_113 : Cond.methodLink RX5 56 yX3_copyFrom ∈ ed_ws := ed_wm2 (i := 113) rfl rfl
theorem ed_w2_114 : Cond.instanceMethod yX3_copyFrom ∈ ed_ws := ed_wm2 (i := 114) rfl rfl
theorem ed_w2_115 : Cond.selects RX3 yX3_copyFrom yX3_copyFrom ∈ ed_ws := ed_wm2 (i := 115) rfl rfl
theorem ed_w2_116 : Cond.code yX3_copyFrom cX3_copyFrom 2 none ∈ ed_ws := ed_wm2 (i := 116) rfl rfl
theorem ed_w2_118 : Cond.static yX8_copyRow ∈ ed_ws := ed_wm2 (i := 118) rfl rfl
theorem ed_w2_119 : Cond.code yX8_copyRow cX8_copyRow 2 none ∈ ed_ws := ed_wm2 (i := 119) rfl rfl
theorem ed_w2_120 : Cond.methodLink RX8 272 Lib.Math.min.name ∈ ed_ws := ed_wm2 (i := 120) rfl rfl
theorem ed_w2_121 : Cond.static Lib.Math.min.name ∈ ed_ws := ed_wm2 (i := 121) rfl rfl
theorem ed_w2_122 : Cond.code Lib.Math.min.name Lib.Math.min.code 2 (some .int) ∈ ed_ws := ed_wm2 (i := 122) rfl rfl
theorem ed_w2_123 : Cond.methodLink RX8 275 arraycopyName ∈ ed_ws := ed_wm2 (i := 123) rfl rfl
theorem ed_w2_124 : Cond.static arraycopyName ∈ ed_ws := ed_wm2 (i := 124) rfl rfl
theorem ed_w2_125 : Cond.native arraycopyName ∈ ed_ws := ed_wm2 (i := 125) rfl rfl
theorem ed_w2_126 : Cond.methodLink RX5 60 yX5_copyStories ∈ ed_ws := ed_wm2 (i := 126) rfl rfl
theorem ed_w2_128 : Cond.instanceMethod yX5_copyStories ∈ ed_ws := ed_wm2 (i := 128) rfl rfl
theorem ed_w2_129 : Cond.code yX5_copyStories cX5_copyStories 5 none ∈ ed_ws := ed_wm2 (i := 129) rfl rfl
theorem ed_w2_130 : Cond.methodLink RX5 76 yX5_storyAt ∈ ed_ws := ed_wm2 (i := 130) rfl rfl
theorem ed_w2_131 : Cond.instanceMethod yX5_storyAt ∈ ed_ws := ed_wm2 (i := 131) rfl rfl
theorem ed_w2_132 : Cond.selects RX5 yX5_storyAt yX5_storyAt ∈ ed_ws := ed_wm2 (i := 132) rfl rfl
theorem ed_w2_133 : Cond.code yX5_storyAt cX5_storyAt 2 (some (.object "EmbargoDesk$Story")) ∈ ed_ws := ed_wm2 (i := 133) rfl rfl
theorem ed_w2_134 : Cond.methodLink RX5 113 Lib.Math.min.name ∈ ed_ws := ed_wm2 (i := 134) rfl rfl
theorem ed_w2_136 : Cond.methodLink RX5 80 yX6_copyFrom ∈ ed_ws := ed_wm2 (i := 136) rfl rfl
theorem ed_w2_137 : Cond.instanceMethod yX6_copyFrom ∈ ed_ws := ed_wm2 (i := 137) rfl rfl
theorem ed_w2_138 : Cond.selects RX6 yX6_copyFrom yX6_copyFrom ∈ ed_ws := ed_wm2 (i := 138) rfl rfl
theorem ed_w2_139 : Cond.code yX6_copyFrom cX6_copyFrom 2 none ∈ ed_ws := ed_wm2 (i := 139) rfl rfl
theorem ed_w2_141 : Cond.methodLink RX5 64 yX5_copyClients ∈ ed_ws := ed_wm2 (i := 141) rfl rfl
theorem ed_w2_143 : Cond.instanceMethod yX5_copyClients ∈ ed_ws := ed_wm2 (i := 143) rfl rfl
theorem ed_w2_144 : Cond.code yX5_copyClients cX5_copyClients 5 none ∈ ed_ws := ed_wm2 (i := 144) rfl rfl
theorem ed_w2_145 : Cond.methodLink RX5 86 yX5_clientAt ∈ ed_ws := ed_wm2 (i := 145) rfl rfl
theorem ed_w2_146 : Cond.instanceMethod yX5_clientAt ∈ ed_ws := ed_wm2 (i := 146) rfl rfl
theorem ed_w2_147 : Cond.selects RX5 yX5_clientAt yX5_clientAt ∈ ed_ws := ed_wm2 (i := 147) rfl rfl
theorem ed_w2_148 : Cond.code yX5_clientAt cX5_clientAt 2 (some (.object "EmbargoDesk$Client")) ∈ ed_ws := ed_wm2 (i := 148) rfl rfl
theorem ed_w2_149 : Cond.methodLink RX5 90 yX0_copyFrom ∈ ed_ws := ed_wm2 (i := 149) rfl rfl
theorem ed_w2_150 : Cond.instanceMethod yX0_copyFrom ∈ ed_ws := ed_wm2 (i := 150) rfl rfl
theorem ed_w2_151 : Cond.selects RX0 yX0_copyFrom yX0_copyFrom ∈ ed_ws := ed_wm2 (i := 151) rfl rfl
theorem ed_w2_152 : Cond.code yX0_copyFrom cX0_copyFrom 2 none ∈ ed_ws := ed_wm2 (i := 152) rfl rfl
theorem ed_w2_153 : Cond.methodLink RX5 67 yX5_copyCopies ∈ ed_ws := ed_wm2 (i := 153) rfl rfl
theorem ed_w2_155 : Cond.instanceMethod yX5_copyCopies ∈ ed_ws := ed_wm2 (i := 155) rfl rfl
theorem ed_w2_156 : Cond.code yX5_copyCopies cX5_copyCopies 5 none ∈ ed_ws := ed_wm2 (i := 156) rfl rfl
theorem ed_w2_157 : Cond.methodLink RX5 96 yX5_copyMade ∈ ed_ws := ed_wm2 (i := 157) rfl rfl
theorem ed_w2_158 : Cond.instanceMethod yX5_copyMade ∈ ed_ws := ed_wm2 (i := 158) rfl rfl
theorem ed_w2_159 : Cond.selects RX5 yX5_copyMade yX5_copyMade ∈ ed_ws := ed_wm2 (i := 159) rfl rfl
theorem ed_w2_160 : Cond.code yX5_copyMade cX5_copyMade 2 (some (.object "EmbargoDesk$Copy")) ∈ ed_ws := ed_wm2 (i := 160) rfl rfl
theorem ed_w2_161 : Cond.methodLink RX5 100 yX1_copyFrom ∈ ed_ws := ed_wm2 (i := 161) rfl rfl
theorem ed_w2_162 : Cond.instanceMethod yX1_copyFrom ∈ ed_ws := ed_wm2 (i := 162) rfl rfl
theorem ed_w2_163 : Cond.selects RX1 yX1_copyFrom yX1_copyFrom ∈ ed_ws := ed_wm2 (i := 163) rfl rfl
theorem ed_w2_164 : Cond.code yX1_copyFrom cX1_copyFrom 2 none ∈ ed_ws := ed_wm2 (i := 164) rfl rfl
theorem ed_w2_165 : Cond.methodLink RX5 70 yX5_copyPersons ∈ ed_ws := ed_wm2 (i := 165) rfl rfl
theorem ed_w2_167 : Cond.instanceMethod yX5_copyPersons ∈ ed_ws := ed_wm2 (i := 167) rfl rfl
theorem ed_w2_168 : Cond.code yX5_copyPersons cX5_copyPersons 5 none ∈ ed_ws := ed_wm2 (i := 168) rfl rfl
theorem ed_w2_169 : Cond.methodLink RX5 103 yX5_personAt ∈ ed_ws := ed_wm2 (i := 169) rfl rfl
theorem ed_w2_170 : Cond.instanceMethod yX5_personAt ∈ ed_ws := ed_wm2 (i := 170) rfl rfl
theorem ed_w2_171 : Cond.selects RX5 yX5_personAt yX5_personAt ∈ ed_ws := ed_wm2 (i := 171) rfl rfl
theorem ed_w2_172 : Cond.code yX5_personAt cX5_personAt 2 (some (.object "EmbargoDesk$Person")) ∈ ed_ws := ed_wm2 (i := 172) rfl rfl
theorem ed_w2_173 : Cond.methodLink RX8 49 yX5_clientAt ∈ ed_ws := ed_wm2 (i := 173) rfl rfl
theorem ed_w2_174 : Cond.methodLink RX8 53 yX0_begin ∈ ed_ws := ed_wm2 (i := 174) rfl rfl
theorem ed_w2_175 : Cond.instanceMethod yX0_begin ∈ ed_ws := ed_wm2 (i := 175) rfl rfl
theorem ed_w2_176 : Cond.selects RX0 yX0_begin yX0_begin ∈ ed_ws := ed_wm2 (i := 176) rfl rfl
theorem ed_w2_177 : Cond.code yX0_begin cX0_begin 6 none ∈ ed_ws := ed_wm2 (i := 177) rfl rfl
theorem ed_w2_178 : Cond.methodLink RL 18 yX8_setTopics ∈ ed_ws := ed_wm2 (i := 178) rfl rfl
theorem ed_w2_179 : Cond.instanceMethod yX8_setTopics ∈ ed_ws := ed_wm2 (i := 179) rfl rfl
theorem ed_w2_180 : Cond.selects RX8 yX8_setTopics yX8_setTopics ∈ ed_ws := ed_wm2 (i := 180) rfl rfl
theorem ed_w2_181 : Cond.code yX8_setTopics cX8_setTopics 5 (some .int) ∈ ed_ws := ed_wm2 (i := 181) rfl rfl
theorem ed_w2_182 : Cond.methodLink RL 23 yX8_setUp ∈ ed_ws := ed_wm2 (i := 182) rfl rfl
theorem ed_w2_183 : Cond.instanceMethod yX8_setUp ∈ ed_ws := ed_wm2 (i := 183) rfl rfl
theorem ed_w2_184 : Cond.selects RX8 yX8_setUp yX8_setUp ∈ ed_ws := ed_wm2 (i := 184) rfl rfl
theorem ed_w2_185 : Cond.code yX8_setUp cX8_setUp 4 (some .int) ∈ ed_ws := ed_wm2 (i := 185) rfl rfl
theorem ed_w2_186 : Cond.methodLink RX8 66 yX5_copiesOf ∈ ed_ws := ed_wm2 (i := 186) rfl rfl
theorem ed_w2_187 : Cond.instanceMethod yX5_copiesOf ∈ ed_ws := ed_wm2 (i := 187) rfl rfl
theorem ed_w2_188 : Cond.selects RX5 yX5_copiesOf yX5_copiesOf ∈ ed_ws := ed_wm2 (i := 188) rfl rfl
theorem ed_w2_189 : Cond.code yX5_copiesOf cX5_copiesOf 7 (some .int) ∈ ed_ws := ed_wm2 (i := 189) rfl rfl
theorem ed_w2_190 : Cond.methodLink RX5 253 yX5_fits ∈ ed_ws := ed_wm2 (i := 190) rfl rfl
theorem ed_w2_191 : Cond.static yX5_fits ∈ ed_ws := ed_wm2 (i := 191) rfl rfl
theorem ed_w2_192 : Cond.code yX5_fits cX5_fits 2 (some .boolean) ∈ ed_ws := ed_wm2 (i := 192) rfl rfl
theorem ed_w2_193 : Cond.methodLink RL 28 yX8_setUse ∈ ed_ws := ed_wm2 (i := 193) rfl rfl
theorem ed_w2_194 : Cond.instanceMethod yX8_setUse ∈ ed_ws := ed_wm2 (i := 194) rfl rfl
theorem ed_w2_195 : Cond.selects RX8 yX8_setUse yX8_setUse ∈ ed_ws := ed_wm2 (i := 195) rfl rfl
theorem ed_w2_196 : Cond.code yX8_setUse cX8_setUse 3 (some .int) ∈ ed_ws := ed_wm2 (i := 196) rfl rfl
theorem ed_w2_197 : Cond.methodLink RL 33 yX8_pay ∈ ed_ws := ed_wm2 (i := 197) rfl rfl
theorem ed_w2_198 : Cond.instanceMethod yX8_pay ∈ ed_ws := ed_wm2 (i := 198) rfl rfl
theorem ed_w2_199 : Cond.selects RX8 yX8_pay yX8_pay ∈ ed_ws := ed_wm2 (i := 199) rfl rfl
theorem ed_w2_200 : Cond.code yX8_pay cX8_pay 4 (some .int) ∈ ed_ws := ed_wm2 (i := 200) rfl rfl
theorem ed_w2_201 : Cond.methodLink RL 37 yX8_readStory ∈ ed_ws := ed_wm2 (i := 201) rfl rfl
theorem ed_w2_202 : Cond.instanceMethod yX8_readStory ∈ ed_ws := ed_wm2 (i := 202) rfl rfl
theorem ed_w2_203 : Cond.selects RX8 yX8_readStory yX8_readStory ∈ ed_ws := ed_wm2 (i := 203) rfl rfl
theorem ed_w2_204 : Cond.code yX8_readStory cX8_readStory 4 (some .int) ∈ ed_ws := ed_wm2 (i := 204) rfl rfl
theorem ed_w2_205 : Cond.methodLink RX8 76 yX7_parse ∈ ed_ws := ed_wm2 (i := 205) rfl rfl
theorem ed_w2_206 : Cond.instanceMethod yX7_parse ∈ ed_ws := ed_wm2 (i := 206) rfl rfl
theorem ed_w2_207 : Cond.selects RX7 yX7_parse yX7_parse ∈ ed_ws := ed_wm2 (i := 207) rfl rfl
theorem ed_w2_208 : Cond.code yX7_parse cX7_parse 2 (some .int) ∈ ed_ws := ed_wm2 (i := 208) rfl rfl
theorem ed_w2_209 : Cond.methodLink RX7 32 yX7_readTopic ∈ ed_ws := ed_wm2 (i := 209) rfl rfl
theorem ed_w2_211 : Cond.instanceMethod yX7_readTopic ∈ ed_ws := ed_wm2 (i := 211) rfl rfl
theorem ed_w2_212 : Cond.code yX7_readTopic cX7_readTopic 1 (some .boolean) ∈ ed_ws := ed_wm2 (i := 212) rfl rfl
theorem ed_w2_213 : Cond.methodLink RX7 63 yX7_digit ∈ ed_ws := ed_wm2 (i := 213) rfl rfl
theorem ed_w2_215 : Cond.instanceMethod yX7_digit ∈ ed_ws := ed_wm2 (i := 215) rfl rfl
theorem ed_w2_216 : Cond.code yX7_digit cX7_digit 1 (some .int) ∈ ed_ws := ed_wm2 (i := 216) rfl rfl
theorem ed_w2_217 : Cond.methodLink RX7 55 yX7_sign ∈ ed_ws := ed_wm2 (i := 217) rfl rfl
theorem ed_w2_219 : Cond.instanceMethod yX7_sign ∈ ed_ws := ed_wm2 (i := 219) rfl rfl
theorem ed_w2_220 : Cond.code yX7_sign cX7_sign 1 (some .int) ∈ ed_ws := ed_wm2 (i := 220) rfl rfl
theorem ed_w2_221 : Cond.methodLink RX7 49 Lib.Math.min.name ∈ ed_ws := ed_wm2 (i := 221) rfl rfl
theorem ed_w2_224 : Cond.methodLink RX7 36 yX7_readSign ∈ ed_ws := ed_wm2 (i := 224) rfl rfl
theorem ed_w2_226 : Cond.instanceMethod yX7_readSign ∈ ed_ws := ed_wm2 (i := 226) rfl rfl
theorem ed_w2_227 : Cond.code yX7_readSign cX7_readSign 2 (some .boolean) ∈ ed_ws := ed_wm2 (i := 227) rfl rfl
theorem ed_w2_228 : Cond.methodLink RX7 40 yX7_readByline ∈ ed_ws := ed_wm2 (i := 228) rfl rfl
theorem ed_w2_230 : Cond.instanceMethod yX7_readByline ∈ ed_ws := ed_wm2 (i := 230) rfl rfl
theorem ed_w2_231 : Cond.code yX7_readByline cX7_readByline 2 (some .boolean) ∈ ed_ws := ed_wm2 (i := 231) rfl rfl
theorem ed_w2_232 : Cond.methodLink RX7 72 yX7_readPerson ∈ ed_ws := ed_wm2 (i := 232) rfl rfl
theorem ed_w2_234 : Cond.instanceMethod yX7_readPerson ∈ ed_ws := ed_wm2 (i := 234) rfl rfl
theorem ed_w2_235 : Cond.code yX7_readPerson cX7_readPerson 2 (some .boolean) ∈ ed_ws := ed_wm2 (i := 235) rfl rfl
theorem ed_w2_236 : Cond.methodLink RX7 75 yX7_isInByline ∈ ed_ws := ed_wm2 (i := 236) rfl rfl
theorem ed_w2_238 : Cond.instanceMethod yX7_isInByline ∈ ed_ws := ed_wm2 (i := 238) rfl rfl
theorem ed_w2_239 : Cond.code yX7_isInByline cX7_isInByline 3 (some .boolean) ∈ ed_ws := ed_wm2 (i := 239) rfl rfl
theorem ed_w3_0 : Cond.methodLink RX7 43 yX7_readEmbargo ∈ ed_ws := ed_wm3 (i := 0) rfl rfl
theorem ed_w3_2 : Cond.instanceMethod yX7_readEmbargo ∈ ed_ws := ed_wm3 (i := 2) rfl rfl
theorem ed_w3_3 : Cond.code yX7_readEmbargo cX7_readEmbargo 2 (some .boolean) ∈ ed_ws := ed_wm3 (i := 3) rfl rfl
theorem ed_w3_4 : Cond.methodLink RX7 46 yX7_readSlug ∈ ed_ws := ed_wm3 (i := 4) rfl rfl
theorem ed_w3_6 : Cond.instanceMethod yX7_readSlug ∈ ed_ws := ed_wm3 (i := 6) rfl rfl
theorem ed_w3_7 : Cond.code yX7_readSlug cX7_readSlug 2 (some .boolean) ∈ ed_ws := ed_wm3 (i := 7) rfl rfl
theorem ed_w3_8 : Cond.methodLink RX8 83 yX5_storyAt ∈ ed_ws := ed_wm3 (i := 8) rfl rfl
theorem ed_w3_9 : Cond.methodLink RX8 87 yX6_begin ∈ ed_ws := ed_wm3 (i := 9) rfl rfl
theorem ed_w3_10 : Cond.instanceMethod yX6_begin ∈ ed_ws := ed_wm3 (i := 10) rfl rfl
theorem ed_w3_11 : Cond.selects RX6 yX6_begin yX6_begin ∈ ed_ws := ed_wm3 (i := 11) rfl rfl
theorem ed_w3_12 : Cond.code yX6_begin cX6_begin 2 none ∈ ed_ws := ed_wm3 (i := 12) rfl rfl
theorem ed_w3_13 : Cond.methodLink RL 42 yX8_release ∈ ed_ws := ed_wm3 (i := 13) rfl rfl
theorem ed_w3_14 : Cond.instanceMethod yX8_release ∈ ed_ws := ed_wm3 (i := 14) rfl rfl
theorem ed_w3_15 : Cond.selects RX8 yX8_release yX8_release ∈ ed_ws := ed_wm3 (i := 15) rfl rfl
theorem ed_w3_16 : Cond.code yX8_release cX8_release 3 (some .int) ∈ ed_ws := ed_wm3 (i := 16) rfl rfl
theorem ed_w3_17 : Cond.methodLink RX8 97 yX5_clientsFor ∈ ed_ws := ed_wm3 (i := 17) rfl rfl
theorem ed_w3_18 : Cond.instanceMethod yX5_clientsFor ∈ ed_ws := ed_wm3 (i := 18) rfl rfl
theorem ed_w3_19 : Cond.selects RX5 yX5_clientsFor yX5_clientsFor ∈ ed_ws := ed_wm3 (i := 19) rfl rfl
theorem ed_w3_20 : Cond.code yX5_clientsFor cX5_clientsFor 5 (some .int) ∈ ed_ws := ed_wm3 (i := 20) rfl rfl
theorem ed_w3_21 : Cond.methodLink RX5 162 yX0_hasTopic ∈ ed_ws := ed_wm3 (i := 21) rfl rfl
theorem ed_w3_22 : Cond.instanceMethod yX0_hasTopic ∈ ed_ws := ed_wm3 (i := 22) rfl rfl
theorem ed_w3_23 : Cond.selects RX0 yX0_hasTopic yX0_hasTopic ∈ ed_ws := ed_wm3 (i := 23) rfl rfl
theorem ed_w3_24 : Cond.code yX0_hasTopic cX0_hasTopic 2 (some .boolean) ∈ ed_ws := ed_wm3 (i := 24) rfl rfl
theorem ed_w3_25 : Cond.methodLink RL 46 yX8_hold ∈ ed_ws := ed_wm3 (i := 25) rfl rfl
theorem ed_w3_26 : Cond.instanceMethod yX8_hold ∈ ed_ws := ed_wm3 (i := 26) rfl rfl
theorem ed_w3_27 : Cond.selects RX8 yX8_hold yX8_hold ∈ ed_ws := ed_wm3 (i := 27) rfl rfl
theorem ed_w3_28 : Cond.code yX8_hold cX8_hold 3 (some .int) ∈ ed_ws := ed_wm3 (i := 28) rfl rfl
theorem ed_w3_29 : Cond.methodLink RX8 107 Lib.Math.max.name ∈ ed_ws := ed_wm3 (i := 29) rfl rfl
theorem ed_w3_30 : Cond.static Lib.Math.max.name ∈ ed_ws := ed_wm3 (i := 30) rfl rfl
theorem ed_w3_31 : Cond.code Lib.Math.max.name Lib.Math.max.code 2 (some .int) ∈ ed_ws := ed_wm3 (i := 31) rfl rfl
theorem ed_w3_32 : Cond.methodLink RL 50 yX8_setEmbargo ∈ ed_ws := ed_wm3 (i := 32) rfl rfl
theorem ed_w3_33 : Cond.instanceMethod yX8_setEmbargo ∈ ed_ws := ed_wm3 (i := 33) rfl rfl
theorem ed_w3_34 : Cond.selects RX8 yX8_setEmbargo yX8_setEmbargo ∈ ed_ws := ed_wm3 (i := 34) rfl rfl
theorem ed_w3_35 : Cond.code yX8_setEmbargo cX8_setEmbargo 5 (some .int) ∈ ed_ws := ed_wm3 (i := 35) rfl rfl
theorem ed_w3_36 : Cond.methodLink RL 54 yX8_correct ∈ ed_ws := ed_wm3 (i := 36) rfl rfl
theorem ed_w3_37 : Cond.instanceMethod yX8_correct ∈ ed_ws := ed_wm3 (i := 37) rfl rfl
theorem ed_w3_38 : Cond.selects RX8 yX8_correct yX8_correct ∈ ed_ws := ed_wm3 (i := 38) rfl rfl
theorem ed_w3_39 : Cond.code yX8_correct cX8_correct 3 (some .int) ∈ ed_ws := ed_wm3 (i := 39) rfl rfl
theorem ed_w3_40 : Cond.methodLink RX8 116 yX6_addCorrection ∈ ed_ws := ed_wm3 (i := 40) rfl rfl
theorem ed_w3_41 : Cond.instanceMethod yX6_addCorrection ∈ ed_ws := ed_wm3 (i := 41) rfl rfl
theorem ed_w3_42 : Cond.selects RX6 yX6_addCorrection yX6_addCorrection ∈ ed_ws := ed_wm3 (i := 42) rfl rfl
theorem ed_w3_43 : Cond.code yX6_addCorrection cX6_addCorrection 2 none ∈ ed_ws := ed_wm3 (i := 43) rfl rfl
theorem ed_w3_45 : Cond.methodLink RX8 124 yX3_add ∈ ed_ws := ed_wm3 (i := 45) rfl rfl
theorem ed_w3_46 : Cond.instanceMethod yX3_add ∈ ed_ws := ed_wm3 (i := 46) rfl rfl
theorem ed_w3_47 : Cond.selects RX3 yX3_add yX3_add ∈ ed_ws := ed_wm3 (i := 47) rfl rfl
theorem ed_w3_48 : Cond.code yX3_add cX3_add 6 none ∈ ed_ws := ed_wm3 (i := 48) rfl rfl
theorem ed_w3_49 : Cond.methodLink RX3 22 Lib.Math.min.name ∈ ed_ws := ed_wm3 (i := 49) rfl rfl
theorem ed_w3_51 : Cond.methodLink RL 58 yX8_kill ∈ ed_ws := ed_wm3 (i := 51) rfl rfl
theorem ed_w3_52 : Cond.instanceMethod yX8_kill ∈ ed_ws := ed_wm3 (i := 52) rfl rfl
theorem ed_w3_53 : Cond.selects RX8 yX8_kill yX8_kill ∈ ed_ws := ed_wm3 (i := 53) rfl rfl
theorem ed_w3_54 : Cond.code yX8_kill cX8_kill 3 (some .int) ∈ ed_ws := ed_wm3 (i := 54) rfl rfl
theorem ed_w3_55 : Cond.methodLink RL 62 yX8_pass ∈ ed_ws := ed_wm3 (i := 55) rfl rfl
theorem ed_w3_56 : Cond.instanceMethod yX8_pass ∈ ed_ws := ed_wm3 (i := 56) rfl rfl
theorem ed_w3_57 : Cond.selects RX8 yX8_pass yX8_pass ∈ ed_ws := ed_wm3 (i := 57) rfl rfl
theorem ed_w3_58 : Cond.code yX8_pass cX8_pass 4 (some .int) ∈ ed_ws := ed_wm3 (i := 58) rfl rfl
theorem ed_w3_59 : Cond.methodLink RX8 133 yX5_copiesThatCame ∈ ed_ws := ed_wm3 (i := 59) rfl rfl
theorem ed_w3_60 : Cond.instanceMethod yX5_copiesThatCame ∈ ed_ws := ed_wm3 (i := 60) rfl rfl
theorem ed_w3_61 : Cond.selects RX5 yX5_copiesThatCame yX5_copiesThatCame ∈ ed_ws := ed_wm3 (i := 61) rfl rfl
theorem ed_w3_62 : Cond.code yX5_copiesThatCame cX5_copiesThatCame 4 (some .int) ∈ ed_ws := ed_wm3 (i := 62) rfl rfl
theorem ed_w3_63 : Cond.methodLink RX8 136 yX5_passHour ∈ ed_ws := ed_wm3 (i := 63) rfl rfl
theorem ed_w3_64 : Cond.instanceMethod yX5_passHour ∈ ed_ws := ed_wm3 (i := 64) rfl rfl
theorem ed_w3_65 : Cond.selects RX5 yX5_passHour yX5_passHour ∈ ed_ws := ed_wm3 (i := 65) rfl rfl
theorem ed_w3_66 : Cond.code yX5_passHour cX5_passHour 3 none ∈ ed_ws := ed_wm3 (i := 66) rfl rfl
theorem ed_w3_67 : Cond.methodLink RX5 129 yX5_startDay ∈ ed_ws := ed_wm3 (i := 67) rfl rfl
theorem ed_w3_69 : Cond.instanceMethod yX5_startDay ∈ ed_ws := ed_wm3 (i := 69) rfl rfl
theorem ed_w3_70 : Cond.code yX5_startDay cX5_startDay 3 none ∈ ed_ws := ed_wm3 (i := 70) rfl rfl
theorem ed_w3_71 : Cond.methodLink RX5 138 yX5_publish ∈ ed_ws := ed_wm3 (i := 71) rfl rfl
theorem ed_w3_73 : Cond.instanceMethod yX5_publish ∈ ed_ws := ed_wm3 (i := 73) rfl rfl
theorem ed_w3_74 : Cond.code yX5_publish cX5_publish 5 none ∈ ed_ws := ed_wm3 (i := 74) rfl rfl
theorem ed_w3_75 : Cond.methodLink RX5 155 yX3_add ∈ ed_ws := ed_wm3 (i := 75) rfl rfl
theorem ed_w3_76 : Cond.methodLink RX5 169 yX5_planCopy ∈ ed_ws := ed_wm3 (i := 76) rfl rfl
theorem ed_w3_78 : Cond.instanceMethod yX5_planCopy ∈ ed_ws := ed_wm3 (i := 78) rfl rfl
theorem ed_w3_79 : Cond.code yX5_planCopy cX5_planCopy 5 none ∈ ed_ws := ed_wm3 (i := 79) rfl rfl
theorem ed_w3_80 : Cond.methodLink RX5 173 yX1_begin ∈ ed_ws := ed_wm3 (i := 80) rfl rfl
theorem ed_w3_81 : Cond.instanceMethod yX1_begin ∈ ed_ws := ed_wm3 (i := 81) rfl rfl
theorem ed_w3_82 : Cond.selects RX1 yX1_begin yX1_begin ∈ ed_ws := ed_wm3 (i := 82) rfl rfl
theorem ed_w3_83 : Cond.code yX1_begin cX1_begin 4 none ∈ ed_ws := ed_wm3 (i := 83) rfl rfl
theorem ed_w3_84 : Cond.methodLink RX5 142 yX1_isOver ∈ ed_ws := ed_wm3 (i := 84) rfl rfl
theorem ed_w3_85 : Cond.instanceMethod yX1_isOver ∈ ed_ws := ed_wm3 (i := 85) rfl rfl
theorem ed_w3_86 : Cond.selects RX1 yX1_isOver yX1_isOver ∈ ed_ws := ed_wm3 (i := 86) rfl rfl
theorem ed_w3_87 : Cond.code yX1_isOver cX1_isOver 1 (some .boolean) ∈ ed_ws := ed_wm3 (i := 87) rfl rfl
theorem ed_w3_88 : Cond.methodLink RX5 146 yX5_moveOn ∈ ed_ws := ed_wm3 (i := 88) rfl rfl
theorem ed_w3_90 : Cond.instanceMethod yX5_moveOn ∈ ed_ws := ed_wm3 (i := 90) rfl rfl
theorem ed_w3_91 : Cond.code yX5_moveOn cX5_moveOn 4 none ∈ ed_ws := ed_wm3 (i := 91) rfl rfl
theorem ed_w3_92 : Cond.methodLink RX5 180 yX0_canGetCopy ∈ ed_ws := ed_wm3 (i := 92) rfl rfl
theorem ed_w3_93 : Cond.instanceMethod yX0_canGetCopy ∈ ed_ws := ed_wm3 (i := 93) rfl rfl
theorem ed_w3_94 : Cond.selects RX0 yX0_canGetCopy yX0_canGetCopy ∈ ed_ws := ed_wm3 (i := 94) rfl rfl
theorem ed_w3_95 : Cond.code yX0_canGetCopy cX0_canGetCopy 1 (some .boolean) ∈ ed_ws := ed_wm3 (i := 95) rfl rfl
theorem ed_w3_96 : Cond.methodLink RX5 183 yX5_startUse ∈ ed_ws := ed_wm3 (i := 96) rfl rfl
theorem ed_w3_98 : Cond.instanceMethod yX5_startUse ∈ ed_ws := ed_wm3 (i := 98) rfl rfl
theorem ed_w3_99 : Cond.code yX5_startUse cX5_startUse 4 none ∈ ed_ws := ed_wm3 (i := 99) rfl rfl
theorem ed_w3_100 : Cond.methodLink RX5 209 yX5_bill ∈ ed_ws := ed_wm3 (i := 100) rfl rfl
theorem ed_w3_102 : Cond.instanceMethod yX5_bill ∈ ed_ws := ed_wm3 (i := 102) rfl rfl
theorem ed_w3_103 : Cond.code yX5_bill cX5_bill 7 none ∈ ed_ws := ed_wm3 (i := 103) rfl rfl
theorem ed_w3_104 : Cond.constantLong RX5 219 (2147483647) ∈ ed_ws := ed_wm3 (i := 104) rfl rfl
theorem ed_w3_105 : Cond.methodLink RX5 227 yX6_authorAt ∈ ed_ws := ed_wm3 (i := 105) rfl rfl
theorem ed_w3_106 : Cond.instanceMethod yX6_authorAt ∈ ed_ws := ed_wm3 (i := 106) rfl rfl
theorem ed_w3_107 : Cond.selects RX6 yX6_authorAt yX6_authorAt ∈ ed_ws := ed_wm3 (i := 107) rfl rfl
theorem ed_w3_108 : Cond.code yX6_authorAt cX6_authorAt 2 (some .int) ∈ ed_ws := ed_wm3 (i := 108) rfl rfl
theorem ed_w3_109 : Cond.methodLink RX6 62 Lib.Math.min.name ∈ ed_ws := ed_wm3 (i := 109) rfl rfl
theorem ed_w3_110 : Cond.methodLink RX5 231 yX4_addShare ∈ ed_ws := ed_wm3 (i := 110) rfl rfl
theorem ed_w3_111 : Cond.instanceMethod yX4_addShare ∈ ed_ws := ed_wm3 (i := 111) rfl rfl
theorem ed_w3_112 : Cond.selects RX4 yX4_addShare yX4_addShare ∈ ed_ws := ed_wm3 (i := 112) rfl rfl
theorem ed_w3_113 : Cond.code yX4_addShare cX4_addShare 2 none ∈ ed_ws := ed_wm3 (i := 113) rfl rfl
theorem ed_w3_114 : Cond.constantLong RX4 15 (2147483647) ∈ ed_ws := ed_wm3 (i := 114) rfl rfl
theorem ed_w3_115 : Cond.methodLink RX5 187 yX5_useEndsAt ∈ ed_ws := ed_wm3 (i := 115) rfl rfl
theorem ed_w3_116 : Cond.instanceMethod yX5_useEndsAt ∈ ed_ws := ed_wm3 (i := 116) rfl rfl
theorem ed_w3_117 : Cond.selects RX5 yX5_useEndsAt yX5_useEndsAt ∈ ed_ws := ed_wm3 (i := 117) rfl rfl
theorem ed_w3_118 : Cond.code yX5_useEndsAt cX5_useEndsAt 2 (some .int) ∈ ed_ws := ed_wm3 (i := 118) rfl rfl
theorem ed_w3_119 : Cond.methodLink RX5 195 yX5_reach ∈ ed_ws := ed_wm3 (i := 119) rfl rfl
theorem ed_w3_121 : Cond.instanceMethod yX5_reach ∈ ed_ws := ed_wm3 (i := 121) rfl rfl
theorem ed_w3_122 : Cond.code yX5_reach cX5_reach 5 none ∈ ed_ws := ed_wm3 (i := 122) rfl rfl
theorem ed_w3_123 : Cond.methodLink RX5 235 yX5_killNoticeAt ∈ ed_ws := ed_wm3 (i := 123) rfl rfl
theorem ed_w3_124 : Cond.instanceMethod yX5_killNoticeAt ∈ ed_ws := ed_wm3 (i := 124) rfl rfl
theorem ed_w3_125 : Cond.selects RX5 yX5_killNoticeAt yX5_killNoticeAt ∈ ed_ws := ed_wm3 (i := 125) rfl rfl
theorem ed_w3_126 : Cond.code yX5_killNoticeAt cX5_killNoticeAt 4 (some .int) ∈ ed_ws := ed_wm3 (i := 126) rfl rfl
theorem ed_w3_127 : Cond.methodLink RX5 238 yX5_correctionsDue ∈ ed_ws := ed_wm3 (i := 127) rfl rfl
theorem ed_w3_128 : Cond.instanceMethod yX5_correctionsDue ∈ ed_ws := ed_wm3 (i := 128) rfl rfl
theorem ed_w3_129 : Cond.selects RX5 yX5_correctionsDue yX5_correctionsDue ∈ ed_ws := ed_wm3 (i := 129) rfl rfl
theorem ed_w3_130 : Cond.code yX5_correctionsDue cX5_correctionsDue 6 (some .int) ∈ ed_ws := ed_wm3 (i := 130) rfl rfl
theorem ed_w3_131 : Cond.methodLink RX5 241 yX6_correctedAt ∈ ed_ws := ed_wm3 (i := 131) rfl rfl
theorem ed_w3_132 : Cond.instanceMethod yX6_correctedAt ∈ ed_ws := ed_wm3 (i := 132) rfl rfl
theorem ed_w3_133 : Cond.selects RX6 yX6_correctedAt yX6_correctedAt ∈ ed_ws := ed_wm3 (i := 133) rfl rfl
theorem ed_w3_134 : Cond.code yX6_correctedAt cX6_correctedAt 2 (some .int) ∈ ed_ws := ed_wm3 (i := 134) rfl rfl
theorem ed_w3_135 : Cond.methodLink RL 66 yX8_type ∈ ed_ws := ed_wm3 (i := 135) rfl rfl
theorem ed_w3_136 : Cond.instanceMethod yX8_type ∈ ed_ws := ed_wm3 (i := 136) rfl rfl
theorem ed_w3_137 : Cond.selects RX8 yX8_type yX8_type ∈ ed_ws := ed_wm3 (i := 137) rfl rfl
theorem ed_w3_138 : Cond.code yX8_type cX8_type 2 (some .int) ∈ ed_ws := ed_wm3 (i := 138) rfl rfl
theorem ed_w3_139 : Cond.methodLink RX8 142 yX7_add ∈ ed_ws := ed_wm3 (i := 139) rfl rfl
theorem ed_w3_140 : Cond.instanceMethod yX7_add ∈ ed_ws := ed_wm3 (i := 140) rfl rfl
theorem ed_w3_141 : Cond.selects RX7 yX7_add yX7_add ∈ ed_ws := ed_wm3 (i := 141) rfl rfl
theorem ed_w3_142 : Cond.code yX7_add cX7_add 2 none ∈ ed_ws := ed_wm3 (i := 142) rfl rfl
theorem ed_w3_143 : Cond.methodLink RL 71 yX8_clearText ∈ ed_ws := ed_wm3 (i := 143) rfl rfl
theorem ed_w3_144 : Cond.instanceMethod yX8_clearText ∈ ed_ws := ed_wm3 (i := 144) rfl rfl
theorem ed_w3_145 : Cond.selects RX8 yX8_clearText yX8_clearText ∈ ed_ws := ed_wm3 (i := 145) rfl rfl
theorem ed_w3_146 : Cond.code yX8_clearText cX8_clearText 2 (some .int) ∈ ed_ws := ed_wm3 (i := 146) rfl rfl
theorem ed_w3_147 : Cond.methodLink RL 75 yX8_undo ∈ ed_ws := ed_wm3 (i := 147) rfl rfl
theorem ed_w3_148 : Cond.instanceMethod yX8_undo ∈ ed_ws := ed_wm3 (i := 148) rfl rfl
theorem ed_w3_149 : Cond.selects RX8 yX8_undo yX8_undo ∈ ed_ws := ed_wm3 (i := 149) rfl rfl
theorem ed_w3_150 : Cond.code yX8_undo cX8_undo 1 (some .int) ∈ ed_ws := ed_wm3 (i := 150) rfl rfl
theorem ed_w3_151 : Cond.methodLink RX8 148 yX2_takeLatest ∈ ed_ws := ed_wm3 (i := 151) rfl rfl
theorem ed_w3_152 : Cond.instanceMethod yX2_takeLatest ∈ ed_ws := ed_wm3 (i := 152) rfl rfl
theorem ed_w3_153 : Cond.selects RX2 yX2_takeLatest yX2_takeLatest ∈ ed_ws := ed_wm3 (i := 153) rfl rfl
theorem ed_w3_154 : Cond.code yX2_takeLatest cX2_takeLatest 3 none ∈ ed_ws := ed_wm3 (i := 154) rfl rfl
theorem ed_w3_155 : Cond.methodLink RL 79 yX8_keep ∈ ed_ws := ed_wm3 (i := 155) rfl rfl
theorem ed_w3_156 : Cond.instanceMethod yX8_keep ∈ ed_ws := ed_wm3 (i := 156) rfl rfl
theorem ed_w3_157 : Cond.selects RX8 yX8_keep yX8_keep ∈ ed_ws := ed_wm3 (i := 157) rfl rfl
theorem ed_w3_158 : Cond.code yX8_keep cX8_keep 1 (some .int) ∈ ed_ws := ed_wm3 (i := 158) rfl rfl
theorem ed_w3_159 : Cond.methodLink RX8 151 yX5_copyFrom ∈ ed_ws := ed_wm3 (i := 159) rfl rfl
theorem ed_w3_160 : Cond.methodLink RL 83 yX8_restore ∈ ed_ws := ed_wm3 (i := 160) rfl rfl
theorem ed_w3_161 : Cond.instanceMethod yX8_restore ∈ ed_ws := ed_wm3 (i := 161) rfl rfl
theorem ed_w3_162 : Cond.selects RX8 yX8_restore yX8_restore ∈ ed_ws := ed_wm3 (i := 162) rfl rfl
theorem ed_w3_163 : Cond.code yX8_restore cX8_restore 1 (some .int) ∈ ed_ws := ed_wm3 (i := 163) rfl rfl
theorem ed_w3_164 : Cond.methodLink RL 87 yX8_story ∈ ed_ws := ed_wm3 (i := 164) rfl rfl
theorem ed_w3_165 : Cond.instanceMethod yX8_story ∈ ed_ws := ed_wm3 (i := 165) rfl rfl
theorem ed_w3_166 : Cond.selects RX8 yX8_story yX8_story ∈ ed_ws := ed_wm3 (i := 166) rfl rfl
theorem ed_w3_167 : Cond.code yX8_story cX8_story 4 (some .int) ∈ ed_ws := ed_wm3 (i := 167) rfl rfl
theorem ed_w3_168 : Cond.methodLink RX8 166 yX5_upToDateCopies ∈ ed_ws := ed_wm3 (i := 168) rfl rfl
theorem ed_w3_169 : Cond.instanceMethod yX5_upToDateCopies ∈ ed_ws := ed_wm3 (i := 169) rfl rfl
theorem ed_w3_170 : Cond.selects RX5 yX5_upToDateCopies yX5_upToDateCopies ∈ ed_ws := ed_wm3 (i := 170) rfl rfl
theorem ed_w3_171 : Cond.code yX5_upToDateCopies cX5_upToDateCopies 5 (some .int) ∈ ed_ws := ed_wm3 (i := 171) rfl rfl
theorem ed_w3_172 : Cond.methodLink RX5 247 yX5_correctionsMissing ∈ ed_ws := ed_wm3 (i := 172) rfl rfl
theorem ed_w3_173 : Cond.instanceMethod yX5_correctionsMissing ∈ ed_ws := ed_wm3 (i := 173) rfl rfl
theorem ed_w3_174 : Cond.selects RX5 yX5_correctionsMissing yX5_correctionsMissing ∈ ed_ws := ed_wm3 (i := 174) rfl rfl
theorem ed_w3_175 : Cond.code yX5_correctionsMissing cX5_correctionsMissing 3 (some .int) ∈ ed_ws := ed_wm3 (i := 175) rfl rfl
theorem ed_w3_176 : Cond.methodLink RL 91 yX8_byline ∈ ed_ws := ed_wm3 (i := 176) rfl rfl
theorem ed_w3_177 : Cond.instanceMethod yX8_byline ∈ ed_ws := ed_wm3 (i := 177) rfl rfl
theorem ed_w3_178 : Cond.selects RX8 yX8_byline yX8_byline ∈ ed_ws := ed_wm3 (i := 178) rfl rfl
theorem ed_w3_179 : Cond.code yX8_byline cX8_byline 4 (some .int) ∈ ed_ws := ed_wm3 (i := 179) rfl rfl
theorem ed_w3_180 : Cond.methodLink RX8 169 yX6_authorAt ∈ ed_ws := ed_wm3 (i := 180) rfl rfl
theorem ed_w3_181 : Cond.methodLink RL 95 yX8_slugChar ∈ ed_ws := ed_wm3 (i := 181) rfl rfl
theorem ed_w3_182 : Cond.instanceMethod yX8_slugChar ∈ ed_ws := ed_wm3 (i := 182) rfl rfl
theorem ed_w3_183 : Cond.selects RX8 yX8_slugChar yX8_slugChar ∈ ed_ws := ed_wm3 (i := 183) rfl rfl
theorem ed_w3_184 : Cond.code yX8_slugChar cX8_slugChar 4 (some .int) ∈ ed_ws := ed_wm3 (i := 184) rfl rfl
theorem ed_w3_185 : Cond.methodLink RX8 172 yX6_letterAt ∈ ed_ws := ed_wm3 (i := 185) rfl rfl
theorem ed_w3_186 : Cond.instanceMethod yX6_letterAt ∈ ed_ws := ed_wm3 (i := 186) rfl rfl
theorem ed_w3_187 : Cond.selects RX6 yX6_letterAt yX6_letterAt ∈ ed_ws := ed_wm3 (i := 187) rfl rfl
theorem ed_w3_188 : Cond.code yX6_letterAt cX6_letterAt 2 (some .int) ∈ ed_ws := ed_wm3 (i := 188) rfl rfl
theorem ed_w3_189 : Cond.methodLink RL 99 yX8_correction ∈ ed_ws := ed_wm3 (i := 189) rfl rfl
theorem ed_w3_190 : Cond.instanceMethod yX8_correction ∈ ed_ws := ed_wm3 (i := 190) rfl rfl
theorem ed_w3_191 : Cond.selects RX8 yX8_correction yX8_correction ∈ ed_ws := ed_wm3 (i := 191) rfl rfl
theorem ed_w3_192 : Cond.code yX8_correction cX8_correction 4 (some .int) ∈ ed_ws := ed_wm3 (i := 192) rfl rfl
theorem ed_w3_193 : Cond.methodLink RX8 175 yX6_correctedAt ∈ ed_ws := ed_wm3 (i := 193) rfl rfl
theorem ed_w3_194 : Cond.methodLink RL 103 yX8_client ∈ ed_ws := ed_wm3 (i := 194) rfl rfl
theorem ed_w3_195 : Cond.instanceMethod yX8_client ∈ ed_ws := ed_wm3 (i := 195) rfl rfl
theorem ed_w3_196 : Cond.selects RX8 yX8_client yX8_client ∈ ed_ws := ed_wm3 (i := 196) rfl rfl
theorem ed_w3_197 : Cond.code yX8_client cX8_client 4 (some .int) ∈ ed_ws := ed_wm3 (i := 197) rfl rfl
theorem ed_w3_198 : Cond.methodLink RL 107 yX8_person ∈ ed_ws := ed_wm3 (i := 198) rfl rfl
theorem ed_w3_199 : Cond.instanceMethod yX8_person ∈ ed_ws := ed_wm3 (i := 199) rfl rfl
theorem ed_w3_200 : Cond.selects RX8 yX8_person yX8_person ∈ ed_ws := ed_wm3 (i := 200) rfl rfl
theorem ed_w3_201 : Cond.code yX8_person cX8_person 4 (some .int) ∈ ed_ws := ed_wm3 (i := 201) rfl rfl
theorem ed_w3_202 : Cond.methodLink RX8 199 yX5_personAt ∈ ed_ws := ed_wm3 (i := 202) rfl rfl
theorem ed_w3_203 : Cond.methodLink RX8 211 yX5_storiesBy ∈ ed_ws := ed_wm3 (i := 203) rfl rfl
theorem ed_w3_204 : Cond.instanceMethod yX5_storiesBy ∈ ed_ws := ed_wm3 (i := 204) rfl rfl
theorem ed_w3_205 : Cond.selects RX5 yX5_storiesBy yX5_storiesBy ∈ ed_ws := ed_wm3 (i := 205) rfl rfl
theorem ed_w3_206 : Cond.code yX5_storiesBy cX5_storiesBy 5 (some .int) ∈ ed_ws := ed_wm3 (i := 206) rfl rfl
theorem ed_w3_207 : Cond.methodLink RX5 256 yX6_isBy ∈ ed_ws := ed_wm3 (i := 207) rfl rfl
theorem ed_w3_208 : Cond.instanceMethod yX6_isBy ∈ ed_ws := ed_wm3 (i := 208) rfl rfl
theorem ed_w3_209 : Cond.selects RX6 yX6_isBy yX6_isBy ∈ ed_ws := ed_wm3 (i := 209) rfl rfl
theorem ed_w3_210 : Cond.code yX6_isBy cX6_isBy 3 (some .boolean) ∈ ed_ws := ed_wm3 (i := 210) rfl rfl
theorem ed_w3_211 : Cond.methodLink RX6 68 yX6_authorAt ∈ ed_ws := ed_wm3 (i := 211) rfl rfl
theorem ed_w3_212 : Cond.methodLink RX8 214 yX5_copiesInUseBy ∈ ed_ws := ed_wm3 (i := 212) rfl rfl
theorem ed_w3_213 : Cond.instanceMethod yX5_copiesInUseBy ∈ ed_ws := ed_wm3 (i := 213) rfl rfl
theorem ed_w3_214 : Cond.selects RX5 yX5_copiesInUseBy yX5_copiesInUseBy ∈ ed_ws := ed_wm3 (i := 214) rfl rfl
theorem ed_w3_215 : Cond.code yX5_copiesInUseBy cX5_copiesInUseBy 5 (some .int) ∈ ed_ws := ed_wm3 (i := 215) rfl rfl
theorem ed_w3_216 : Cond.methodLink RX5 259 yX5_copiesOf ∈ ed_ws := ed_wm3 (i := 216) rfl rfl
theorem ed_w3_217 : Cond.methodLink RL 111 yX8_copy ∈ ed_ws := ed_wm3 (i := 217) rfl rfl
theorem ed_w3_218 : Cond.instanceMethod yX8_copy ∈ ed_ws := ed_wm3 (i := 218) rfl rfl
theorem ed_w3_219 : Cond.selects RX8 yX8_copy yX8_copy ∈ ed_ws := ed_wm3 (i := 219) rfl rfl
theorem ed_w3_220 : Cond.code yX8_copy cX8_copy 5 (some .int) ∈ ed_ws := ed_wm3 (i := 220) rfl rfl
theorem ed_w3_221 : Cond.methodLink RX8 217 yX5_copyFor ∈ ed_ws := ed_wm3 (i := 221) rfl rfl
theorem ed_w3_222 : Cond.instanceMethod yX5_copyFor ∈ ed_ws := ed_wm3 (i := 222) rfl rfl
theorem ed_w3_223 : Cond.selects RX5 yX5_copyFor yX5_copyFor ∈ ed_ws := ed_wm3 (i := 223) rfl rfl
theorem ed_w3_224 : Cond.code yX5_copyFor cX5_copyFor 5 (some (.object "EmbargoDesk$Copy")) ∈ ed_ws := ed_wm3 (i := 224) rfl rfl
theorem ed_w3_225 : Cond.methodLink RX8 231 yX5_correctionsMissing ∈ ed_ws := ed_wm3 (i := 225) rfl rfl
theorem ed_w3_226 : Cond.methodLink RX8 235 yX5_correctionsDue ∈ ed_ws := ed_wm3 (i := 226) rfl rfl
theorem ed_w3_227 : Cond.methodLink RX8 238 yX5_nextCorrectionAt ∈ ed_ws := ed_wm3 (i := 227) rfl rfl
theorem ed_w3_228 : Cond.instanceMethod yX5_nextCorrectionAt ∈ ed_ws := ed_wm3 (i := 228) rfl rfl
theorem ed_w3_229 : Cond.selects RX5 yX5_nextCorrectionAt yX5_nextCorrectionAt ∈ ed_ws := ed_wm3 (i := 229) rfl rfl
theorem ed_w3_230 : Cond.code yX5_nextCorrectionAt cX5_nextCorrectionAt 4 (some .int) ∈ ed_ws := ed_wm3 (i := 230) rfl rfl
theorem ed_w3_231 : Cond.methodLink RX8 241 yX5_killNoticeAt ∈ ed_ws := ed_wm3 (i := 231) rfl rfl
theorem ed_w3_232 : Cond.methodLink RX8 244 yX5_useEndsAt ∈ ed_ws := ed_wm3 (i := 232) rfl rfl
theorem ed_w3_233 : Cond.methodLink RL 116 yX8_copyAt ∈ ed_ws := ed_wm3 (i := 233) rfl rfl
theorem ed_w3_234 : Cond.instanceMethod yX8_copyAt ∈ ed_ws := ed_wm3 (i := 234) rfl rfl
theorem ed_w3_235 : Cond.selects RX8 yX8_copyAt yX8_copyAt ∈ ed_ws := ed_wm3 (i := 235) rfl rfl
theorem ed_w3_236 : Cond.code yX8_copyAt cX8_copyAt 3 (some .int) ∈ ed_ws := ed_wm3 (i := 236) rfl rfl
theorem ed_w3_237 : Cond.methodLink RX8 247 yX5_copyMade ∈ ed_ws := ed_wm3 (i := 237) rfl rfl
theorem ed_w3_238 : Cond.methodLink RL 120 yX8_carriedIn ∈ ed_ws := ed_wm3 (i := 238) rfl rfl
theorem ed_w3_239 : Cond.instanceMethod yX8_carriedIn ∈ ed_ws := ed_wm3 (i := 239) rfl rfl
theorem ed_w4_0 : Cond.selects RX8 yX8_carriedIn yX8_carriedIn ∈ ed_ws := ed_wm4 (i := 0) rfl rfl
theorem ed_w4_1 : Cond.code yX8_carriedIn cX8_carriedIn 6 (some .int) ∈ ed_ws := ed_wm4 (i := 1) rfl rfl
theorem ed_w4_2 : Cond.methodLink RL 124 yX8_wouldCome ∈ ed_ws := ed_wm4 (i := 2) rfl rfl
theorem ed_w4_3 : Cond.instanceMethod yX8_wouldCome ∈ ed_ws := ed_wm4 (i := 3) rfl rfl
theorem ed_w4_4 : Cond.selects RX8 yX8_wouldCome yX8_wouldCome ∈ ed_ws := ed_wm4 (i := 4) rfl rfl
theorem ed_w4_5 : Cond.code yX8_wouldCome cX8_wouldCome 6 (some .int) ∈ ed_ws := ed_wm4 (i := 5) rfl rfl
theorem ed_w4_6 : Cond.methodLink RL 128 yX8_event ∈ ed_ws := ed_wm4 (i := 6) rfl rfl
theorem ed_w4_7 : Cond.instanceMethod yX8_event ∈ ed_ws := ed_wm4 (i := 7) rfl rfl
theorem ed_w4_8 : Cond.selects RX8 yX8_event yX8_event ∈ ed_ws := ed_wm4 (i := 8) rfl rfl
theorem ed_w4_9 : Cond.code yX8_event cX8_event 3 (some .int) ∈ ed_ws := ed_wm4 (i := 9) rfl rfl
theorem ed_w4_10 : Cond.methodLink RX8 257 yX3_part ∈ ed_ws := ed_wm4 (i := 10) rfl rfl
theorem ed_w4_11 : Cond.instanceMethod yX3_part ∈ ed_ws := ed_wm4 (i := 11) rfl rfl
theorem ed_w4_12 : Cond.selects RX3 yX3_part yX3_part ∈ ed_ws := ed_wm4 (i := 12) rfl rfl
theorem ed_w4_13 : Cond.code yX3_part cX3_part 4 (some .int) ∈ ed_ws := ed_wm4 (i := 13) rfl rfl
theorem ed_w4_14 : Cond.methodLink RL 132 yX8_count ∈ ed_ws := ed_wm4 (i := 14) rfl rfl
theorem ed_w4_15 : Cond.instanceMethod yX8_count ∈ ed_ws := ed_wm4 (i := 15) rfl rfl
theorem ed_w4_16 : Cond.selects RX8 yX8_count yX8_count ∈ ed_ws := ed_wm4 (i := 16) rfl rfl
theorem ed_w4_17 : Cond.code yX8_count cX8_count 2 (some .int) ∈ ed_ws := ed_wm4 (i := 17) rfl rfl
theorem ed_w4_18 : Cond.methodLink RX8 263 yX5_copiesWithCorrectionsDue ∈ ed_ws := ed_wm4 (i := 18) rfl rfl
theorem ed_w4_19 : Cond.instanceMethod yX5_copiesWithCorrectionsDue ∈ ed_ws := ed_wm4 (i := 19) rfl rfl
theorem ed_w4_20 : Cond.selects RX5 yX5_copiesWithCorrectionsDue yX5_copiesWithCorrectionsDue ∈ ed_ws := ed_wm4 (i := 20) rfl rfl
theorem ed_w4_21 : Cond.code yX5_copiesWithCorrectionsDue cX5_copiesWithCorrectionsDue 4 (some .int) ∈ ed_ws := ed_wm4 (i := 21) rfl rfl
theorem ed_w4_22 : Cond.methodLink RX8 269 yX5_authors ∈ ed_ws := ed_wm4 (i := 22) rfl rfl
theorem ed_w4_23 : Cond.instanceMethod yX5_authors ∈ ed_ws := ed_wm4 (i := 23) rfl rfl
theorem ed_w4_24 : Cond.selects RX5 yX5_authors yX5_authors ∈ ed_ws := ed_wm4 (i := 24) rfl rfl
theorem ed_w4_25 : Cond.code yX5_authors cX5_authors 3 (some .int) ∈ ed_ws := ed_wm4 (i := 25) rfl rfl
theorem ed_w4_26 : Cond.methodLink RX5 263 yX5_storiesBy ∈ ed_ws := ed_wm4 (i := 26) rfl rfl
theorem ed_w4_27 : Cond.classLink RL 10 RX9 ∈ ed_ws := ed_wm4 (i := 27) rfl rfl
theorem ed_w4_28 : Cond.instantiable RX9 11 ∈ ed_ws := ed_wm4 (i := 28) rfl rfl
theorem ed_w4_29 : Cond.methodLink RL 12 yX9_init ∈ ed_ws := ed_wm4 (i := 29) rfl rfl
theorem ed_w4_30 : Cond.instanceMethod yX9_init ∈ ed_ws := ed_wm4 (i := 30) rfl rfl
theorem ed_w4_31 : Cond.code yX9_init cX9_init 1 none ∈ ed_ws := ed_wm4 (i := 31) rfl rfl
theorem ed_w4_32 : Cond.methodLink RX9 1 objectInit ∈ ed_ws := ed_wm4 (i := 32) rfl rfl
theorem ed_w4_33 : Cond.fieldLink RX9 7 "EmbargoDeskModel" "v" "[I" ∈ ed_ws := ed_wm4 (i := 33) rfl rfl
theorem ed_w4_34 : Cond.fieldLink RX9 13 "EmbargoDeskModel" "spare" "[I" ∈ ed_ws := ed_wm4 (i := 34) rfl rfl
theorem ed_w4_35 : Cond.fieldLink RX9 16 "EmbargoDeskModel" "history" "[I" ∈ ed_ws := ed_wm4 (i := 35) rfl rfl
theorem ed_w4_36 : Cond.fieldLink RX9 28 "EmbargoDeskModel" "states" "I" ∈ ed_ws := ed_wm4 (i := 36) rfl rfl
theorem ed_w4_37 : Cond.fieldLink RX9 19 "EmbargoDeskModel" "kept" "[I" ∈ ed_ws := ed_wm4 (i := 37) rfl rfl
theorem ed_w4_38 : Cond.fieldLink RX9 138 "EmbargoDeskModel" "isKept" "Z" ∈ ed_ws := ed_wm4 (i := 38) rfl rfl
theorem ed_w4_39 : Cond.fieldLink RX9 22 "EmbargoDeskModel" "text" "[I" ∈ ed_ws := ed_wm4 (i := 39) rfl rfl
theorem ed_w4_40 : Cond.fieldLink RX9 99 "EmbargoDeskModel" "length" "I" ∈ ed_ws := ed_wm4 (i := 40) rfl rfl
theorem ed_w4_41 : Cond.fieldLink RX9 102 "EmbargoDeskModel" "place" "I" ∈ ed_ws := ed_wm4 (i := 41) rfl rfl
theorem ed_w4_42 : Cond.fieldLink RX9 25 "EmbargoDeskModel" "read" "[I" ∈ ed_ws := ed_wm4 (i := 42) rfl rfl
theorem ed_w4_43 : Cond.fieldLink RX9 105 "EmbargoDeskModel" "digit" "I" ∈ ed_ws := ed_wm4 (i := 43) rfl rfl
theorem ed_w4_44 : Cond.laysFinal "EmbargoDeskModel" "EmbargoDeskModel" "v" "[I" ∈ ed_ws := ed_wm4 (i := 44) rfl rfl
theorem ed_w4_46 : Cond.laysFinal "EmbargoDeskModel" "EmbargoDeskModel" "spare" "[I" ∈ ed_ws := ed_wm4 (i := 46) rfl rfl
theorem ed_w4_48 : Cond.laysFinal "EmbargoDeskModel" "EmbargoDeskModel" "history" "[I" ∈ ed_ws := ed_wm4 (i := 48) rfl rfl
theorem ed_w4_50 : Cond.lays "EmbargoDeskModel" "EmbargoDeskModel" "states" "I" ∈ ed_ws := ed_wm4 (i := 50) rfl rfl
theorem ed_w4_52 : Cond.laysFinal "EmbargoDeskModel" "EmbargoDeskModel" "kept" "[I" ∈ ed_ws := ed_wm4 (i := 52) rfl rfl
theorem ed_w4_54 : Cond.lays "EmbargoDeskModel" "EmbargoDeskModel" "isKept" "Z" ∈ ed_ws := ed_wm4 (i := 54) rfl rfl
theorem ed_w4_56 : Cond.laysFinal "EmbargoDeskModel" "EmbargoDeskModel" "text" "[I" ∈ ed_ws := ed_wm4 (i := 56) rfl rfl
theorem ed_w4_58 : Cond.lays "EmbargoDeskModel" "EmbargoDeskModel" "length" "I" ∈ ed_ws := ed_wm4 (i := 58) rfl rfl
theorem ed_w4_60 : Cond.lays "EmbargoDeskModel" "EmbargoDeskModel" "place" "I" ∈ ed_ws := ed_wm4 (i := 60) rfl rfl
theorem ed_w4_62 : Cond.laysFinal "EmbargoDeskModel" "EmbargoDeskModel" "read" "[I" ∈ ed_ws := ed_wm4 (i := 62) rfl rfl
theorem ed_w4_64 : Cond.lays "EmbargoDeskModel" "EmbargoDeskModel" "digit" "I" ∈ ed_ws := ed_wm4 (i := 64) rfl rfl
theorem ed_w4_67 : Cond.methodLink RL 17 yX9_addClient ∈ ed_ws := ed_wm4 (i := 67) rfl rfl
theorem ed_w4_68 : Cond.instanceMethod yX9_addClient ∈ ed_ws := ed_wm4 (i := 68) rfl rfl
theorem ed_w4_69 : Cond.selects RX9 yX9_addClient yX9_addClient ∈ ed_ws := ed_wm4 (i := 69) rfl rfl
theorem ed_w4_70 : Cond.code yX9_addClient cX9_addClient 7 (some .int) ∈ ed_ws := ed_wm4 (i := 70) rfl rfl
theorem ed_w4_71 : Cond.methodLink RX9 32 yX9_in ∈ ed_ws := ed_wm4 (i := 71) rfl rfl
theorem ed_w4_72 : Cond.static yX9_in ∈ ed_ws := ed_wm4 (i := 72) rfl rfl
theorem ed_w4_73 : Cond.code yX9_in cX9_in 3 (some .boolean) ∈ ed_ws := ed_wm4 (i := 73) rfl rfl
theorem ed_w4_74 : Cond.constant RX9 88 (2000000000) ∈ ed_ws := ed_wm4 (i := 74) rfl rfl
theorem ed_w4_75 : Cond.methodLink RX9 89 yX9_record ∈ ed_ws := ed_wm4 (i := 75) rfl rfl
theorem ed_w4_77 : Cond.instanceMethod yX9_record ∈ ed_ws := ed_wm4 (i := 77) rfl rfl
theorem ed_w4_78 : Cond.code yX9_record cX9_record 2 none ∈ ed_ws := ed_wm4 (i := 78) rfl rfl
theorem ed_w4_79 : Cond.methodLink RX9 36 yX9_clientAt ∈ ed_ws := ed_wm4 (i := 79) rfl rfl
theorem ed_w4_80 : Cond.static yX9_clientAt ∈ ed_ws := ed_wm4 (i := 80) rfl rfl
theorem ed_w4_81 : Cond.code yX9_clientAt cX9_clientAt 2 (some .int) ∈ ed_ws := ed_wm4 (i := 81) rfl rfl
theorem ed_w4_82 : Cond.methodLink RL 22 yX9_setTopics ∈ ed_ws := ed_wm4 (i := 82) rfl rfl
theorem ed_w4_83 : Cond.instanceMethod yX9_setTopics ∈ ed_ws := ed_wm4 (i := 83) rfl rfl
theorem ed_w4_84 : Cond.selects RX9 yX9_setTopics yX9_setTopics ∈ ed_ws := ed_wm4 (i := 84) rfl rfl
theorem ed_w4_85 : Cond.code yX9_setTopics cX9_setTopics 3 (some .int) ∈ ed_ws := ed_wm4 (i := 85) rfl rfl
theorem ed_w4_86 : Cond.methodLink RX9 92 yX9_isClient ∈ ed_ws := ed_wm4 (i := 86) rfl rfl
theorem ed_w4_88 : Cond.instanceMethod yX9_isClient ∈ ed_ws := ed_wm4 (i := 88) rfl rfl
theorem ed_w4_89 : Cond.code yX9_isClient cX9_isClient 2 (some .boolean) ∈ ed_ws := ed_wm4 (i := 89) rfl rfl
theorem ed_w4_90 : Cond.methodLink RX9 96 yX9_becomes ∈ ed_ws := ed_wm4 (i := 90) rfl rfl
theorem ed_w4_92 : Cond.instanceMethod yX9_becomes ∈ ed_ws := ed_wm4 (i := 92) rfl rfl
theorem ed_w4_93 : Cond.code yX9_becomes cX9_becomes 4 (some .int) ∈ ed_ws := ed_wm4 (i := 93) rfl rfl
theorem ed_w4_94 : Cond.methodLink RL 27 yX9_setUp ∈ ed_ws := ed_wm4 (i := 94) rfl rfl
theorem ed_w4_95 : Cond.instanceMethod yX9_setUp ∈ ed_ws := ed_wm4 (i := 95) rfl rfl
theorem ed_w4_96 : Cond.selects RX9 yX9_setUp yX9_setUp ∈ ed_ws := ed_wm4 (i := 96) rfl rfl
theorem ed_w4_97 : Cond.code yX9_setUp cX9_setUp 5 (some .int) ∈ ed_ws := ed_wm4 (i := 97) rfl rfl
theorem ed_w4_98 : Cond.methodLink RX9 65 yX9_ofCopy ∈ ed_ws := ed_wm4 (i := 98) rfl rfl
theorem ed_w4_100 : Cond.instanceMethod yX9_ofCopy ∈ ed_ws := ed_wm4 (i := 100) rfl rfl
theorem ed_w4_101 : Cond.code yX9_ofCopy cX9_ofCopy 3 (some .int) ∈ ed_ws := ed_wm4 (i := 101) rfl rfl
theorem ed_w4_102 : Cond.methodLink RX9 43 yX9_atCopy ∈ ed_ws := ed_wm4 (i := 102) rfl rfl
theorem ed_w4_103 : Cond.static yX9_atCopy ∈ ed_ws := ed_wm4 (i := 103) rfl rfl
theorem ed_w4_104 : Cond.code yX9_atCopy cX9_atCopy 2 (some .int) ∈ ed_ws := ed_wm4 (i := 104) rfl rfl
theorem ed_w4_105 : Cond.methodLink RL 32 yX9_setUse ∈ ed_ws := ed_wm4 (i := 105) rfl rfl
theorem ed_w4_106 : Cond.instanceMethod yX9_setUse ∈ ed_ws := ed_wm4 (i := 106) rfl rfl
theorem ed_w4_107 : Cond.selects RX9 yX9_setUse yX9_setUse ∈ ed_ws := ed_wm4 (i := 107) rfl rfl
theorem ed_w4_108 : Cond.code yX9_setUse cX9_setUse 2 (some .int) ∈ ed_ws := ed_wm4 (i := 108) rfl rfl
theorem ed_w4_109 : Cond.methodLink RL 36 yX9_pay ∈ ed_ws := ed_wm4 (i := 109) rfl rfl
theorem ed_w4_110 : Cond.instanceMethod yX9_pay ∈ ed_ws := ed_wm4 (i := 110) rfl rfl
theorem ed_w4_111 : Cond.selects RX9 yX9_pay yX9_pay ∈ ed_ws := ed_wm4 (i := 111) rfl rfl
theorem ed_w4_112 : Cond.code yX9_pay cX9_pay 3 (some .int) ∈ ed_ws := ed_wm4 (i := 112) rfl rfl
theorem ed_w4_113 : Cond.methodLink RX9 46 yX9_ofClient ∈ ed_ws := ed_wm4 (i := 113) rfl rfl
theorem ed_w4_115 : Cond.instanceMethod yX9_ofClient ∈ ed_ws := ed_wm4 (i := 115) rfl rfl
theorem ed_w4_116 : Cond.code yX9_ofClient cX9_ofClient 3 (some .int) ∈ ed_ws := ed_wm4 (i := 116) rfl rfl
theorem ed_w4_117 : Cond.methodLink RL 70 yX9_type ∈ ed_ws := ed_wm4 (i := 117) rfl rfl
theorem ed_w4_118 : Cond.instanceMethod yX9_type ∈ ed_ws := ed_wm4 (i := 118) rfl rfl
theorem ed_w4_119 : Cond.selects RX9 yX9_type yX9_type ∈ ed_ws := ed_wm4 (i := 119) rfl rfl
theorem ed_w4_120 : Cond.code yX9_type cX9_type 2 (some .int) ∈ ed_ws := ed_wm4 (i := 120) rfl rfl
theorem ed_w4_121 : Cond.methodLink RL 74 yX9_clearText ∈ ed_ws := ed_wm4 (i := 121) rfl rfl
theorem ed_w4_122 : Cond.instanceMethod yX9_clearText ∈ ed_ws := ed_wm4 (i := 122) rfl rfl
theorem ed_w4_123 : Cond.selects RX9 yX9_clearText yX9_clearText ∈ ed_ws := ed_wm4 (i := 123) rfl rfl
theorem ed_w4_124 : Cond.code yX9_clearText cX9_clearText 2 (some .int) ∈ ed_ws := ed_wm4 (i := 124) rfl rfl
theorem ed_w4_125 : Cond.methodLink RL 41 yX9_readStory ∈ ed_ws := ed_wm4 (i := 125) rfl rfl
theorem ed_w4_126 : Cond.instanceMethod yX9_readStory ∈ ed_ws := ed_wm4 (i := 126) rfl rfl
theorem ed_w4_127 : Cond.selects RX9 yX9_readStory yX9_readStory ∈ ed_ws := ed_wm4 (i := 127) rfl rfl
theorem ed_w4_128 : Cond.code yX9_readStory cX9_readStory 3 (some .int) ∈ ed_ws := ed_wm4 (i := 128) rfl rfl
theorem ed_w4_129 : Cond.methodLink RX9 124 yX9_readText ∈ ed_ws := ed_wm4 (i := 129) rfl rfl
theorem ed_w4_131 : Cond.instanceMethod yX9_readText ∈ ed_ws := ed_wm4 (i := 131) rfl rfl
theorem ed_w4_132 : Cond.code yX9_readText cX9_readText 2 (some .boolean) ∈ ed_ws := ed_wm4 (i := 132) rfl rfl
theorem ed_w4_133 : Cond.methodLink RX9 108 yX9_digitTo ∈ ed_ws := ed_wm4 (i := 133) rfl rfl
theorem ed_w4_135 : Cond.instanceMethod yX9_digitTo ∈ ed_ws := ed_wm4 (i := 135) rfl rfl
theorem ed_w4_136 : Cond.code yX9_digitTo cX9_digitTo 3 (some .boolean) ∈ ed_ws := ed_wm4 (i := 136) rfl rfl
theorem ed_w4_137 : Cond.methodLink RX9 111 yX9_sign ∈ ed_ws := ed_wm4 (i := 137) rfl rfl
theorem ed_w4_139 : Cond.instanceMethod yX9_sign ∈ ed_ws := ed_wm4 (i := 139) rfl rfl
theorem ed_w4_140 : Cond.code yX9_sign cX9_sign 3 (some .boolean) ∈ ed_ws := ed_wm4 (i := 140) rfl rfl
theorem ed_w4_141 : Cond.methodLink RX9 114 yX9_readPersons ∈ ed_ws := ed_wm4 (i := 141) rfl rfl
theorem ed_w4_143 : Cond.instanceMethod yX9_readPersons ∈ ed_ws := ed_wm4 (i := 143) rfl rfl
theorem ed_w4_144 : Cond.code yX9_readPersons cX9_readPersons 5 (some .boolean) ∈ ed_ws := ed_wm4 (i := 144) rfl rfl
theorem ed_w4_145 : Cond.methodLink RX9 118 yX9_readHour ∈ ed_ws := ed_wm4 (i := 145) rfl rfl
theorem ed_w4_147 : Cond.instanceMethod yX9_readHour ∈ ed_ws := ed_wm4 (i := 147) rfl rfl
theorem ed_w4_148 : Cond.code yX9_readHour cX9_readHour 3 (some .boolean) ∈ ed_ws := ed_wm4 (i := 148) rfl rfl
theorem ed_w4_149 : Cond.methodLink RX9 121 yX9_readSlug ∈ ed_ws := ed_wm4 (i := 149) rfl rfl
theorem ed_w4_151 : Cond.instanceMethod yX9_readSlug ∈ ed_ws := ed_wm4 (i := 151) rfl rfl
theorem ed_w4_152 : Cond.code yX9_readSlug cX9_readSlug 2 (some .boolean) ∈ ed_ws := ed_wm4 (i := 152) rfl rfl
theorem ed_w4_153 : Cond.methodLink RX9 40 yX9_storyAt ∈ ed_ws := ed_wm4 (i := 153) rfl rfl
theorem ed_w4_154 : Cond.static yX9_storyAt ∈ ed_ws := ed_wm4 (i := 154) rfl rfl
theorem ed_w4_155 : Cond.code yX9_storyAt cX9_storyAt 2 (some .int) ∈ ed_ws := ed_wm4 (i := 155) rfl rfl
theorem ed_w4_156 : Cond.methodLink RL 45 yX9_release ∈ ed_ws := ed_wm4 (i := 156) rfl rfl
theorem ed_w4_157 : Cond.instanceMethod yX9_release ∈ ed_ws := ed_wm4 (i := 157) rfl rfl
theorem ed_w4_158 : Cond.selects RX9 yX9_release yX9_release ∈ ed_ws := ed_wm4 (i := 158) rfl rfl
theorem ed_w4_159 : Cond.code yX9_release cX9_release 4 (some .int) ∈ ed_ws := ed_wm4 (i := 159) rfl rfl
theorem ed_w4_160 : Cond.methodLink RX9 127 yX9_isStory ∈ ed_ws := ed_wm4 (i := 160) rfl rfl
theorem ed_w4_162 : Cond.instanceMethod yX9_isStory ∈ ed_ws := ed_wm4 (i := 162) rfl rfl
theorem ed_w4_163 : Cond.code yX9_isStory cX9_isStory 2 (some .boolean) ∈ ed_ws := ed_wm4 (i := 163) rfl rfl
theorem ed_w4_164 : Cond.methodLink RX9 49 yX9_ofStory ∈ ed_ws := ed_wm4 (i := 164) rfl rfl
theorem ed_w4_166 : Cond.instanceMethod yX9_ofStory ∈ ed_ws := ed_wm4 (i := 166) rfl rfl
theorem ed_w4_167 : Cond.code yX9_ofStory cX9_ofStory 3 (some .int) ∈ ed_ws := ed_wm4 (i := 167) rfl rfl
theorem ed_w4_168 : Cond.methodLink RX9 56 yX9_wants ∈ ed_ws := ed_wm4 (i := 168) rfl rfl
theorem ed_w4_170 : Cond.instanceMethod yX9_wants ∈ ed_ws := ed_wm4 (i := 170) rfl rfl
theorem ed_w4_171 : Cond.code yX9_wants cX9_wants 3 (some .boolean) ∈ ed_ws := ed_wm4 (i := 171) rfl rfl
theorem ed_w4_172 : Cond.methodLink RL 49 yX9_hold ∈ ed_ws := ed_wm4 (i := 172) rfl rfl
theorem ed_w4_173 : Cond.instanceMethod yX9_hold ∈ ed_ws := ed_wm4 (i := 173) rfl rfl
theorem ed_w4_174 : Cond.selects RX9 yX9_hold yX9_hold ∈ ed_ws := ed_wm4 (i := 174) rfl rfl
theorem ed_w4_175 : Cond.code yX9_hold cX9_hold 3 (some .int) ∈ ed_ws := ed_wm4 (i := 175) rfl rfl
theorem ed_w4_176 : Cond.methodLink RL 53 yX9_setEmbargo ∈ ed_ws := ed_wm4 (i := 176) rfl rfl
theorem ed_w4_177 : Cond.instanceMethod yX9_setEmbargo ∈ ed_ws := ed_wm4 (i := 177) rfl rfl
theorem ed_w4_178 : Cond.selects RX9 yX9_setEmbargo yX9_setEmbargo ∈ ed_ws := ed_wm4 (i := 178) rfl rfl
theorem ed_w4_179 : Cond.code yX9_setEmbargo cX9_setEmbargo 3 (some .int) ∈ ed_ws := ed_wm4 (i := 179) rfl rfl
theorem ed_w4_180 : Cond.methodLink RL 57 yX9_correct ∈ ed_ws := ed_wm4 (i := 180) rfl rfl
theorem ed_w4_181 : Cond.instanceMethod yX9_correct ∈ ed_ws := ed_wm4 (i := 181) rfl rfl
theorem ed_w4_182 : Cond.selects RX9 yX9_correct yX9_correct ∈ ed_ws := ed_wm4 (i := 182) rfl rfl
theorem ed_w4_183 : Cond.code yX9_correct cX9_correct 2 (some .int) ∈ ed_ws := ed_wm4 (i := 183) rfl rfl
theorem ed_w4_184 : Cond.methodLink RX9 52 yX9_log ∈ ed_ws := ed_wm4 (i := 184) rfl rfl
theorem ed_w4_186 : Cond.instanceMethod yX9_log ∈ ed_ws := ed_wm4 (i := 186) rfl rfl
theorem ed_w4_187 : Cond.code yX9_log cX9_log 5 none ∈ ed_ws := ed_wm4 (i := 187) rfl rfl
theorem ed_w4_188 : Cond.methodLink RL 61 yX9_kill ∈ ed_ws := ed_wm4 (i := 188) rfl rfl
theorem ed_w4_189 : Cond.instanceMethod yX9_kill ∈ ed_ws := ed_wm4 (i := 189) rfl rfl
theorem ed_w4_190 : Cond.selects RX9 yX9_kill yX9_kill ∈ ed_ws := ed_wm4 (i := 190) rfl rfl
theorem ed_w4_191 : Cond.code yX9_kill cX9_kill 2 (some .int) ∈ ed_ws := ed_wm4 (i := 191) rfl rfl
theorem ed_w4_192 : Cond.methodLink RX9 130 yX9_inUse ∈ ed_ws := ed_wm4 (i := 192) rfl rfl
theorem ed_w4_194 : Cond.instanceMethod yX9_inUse ∈ ed_ws := ed_wm4 (i := 194) rfl rfl
theorem ed_w4_195 : Cond.code yX9_inUse cX9_inUse 5 (some .int) ∈ ed_ws := ed_wm4 (i := 195) rfl rfl
theorem ed_w4_196 : Cond.methodLink RL 65 yX9_pass ∈ ed_ws := ed_wm4 (i := 196) rfl rfl
theorem ed_w4_197 : Cond.instanceMethod yX9_pass ∈ ed_ws := ed_wm4 (i := 197) rfl rfl
theorem ed_w4_198 : Cond.selects RX9 yX9_pass yX9_pass ∈ ed_ws := ed_wm4 (i := 198) rfl rfl
theorem ed_w4_199 : Cond.code yX9_pass cX9_pass 4 (some .int) ∈ ed_ws := ed_wm4 (i := 199) rfl rfl
theorem ed_w4_200 : Cond.methodLink RX9 134 yX9_oneHour ∈ ed_ws := ed_wm4 (i := 200) rfl rfl
theorem ed_w4_202 : Cond.instanceMethod yX9_oneHour ∈ ed_ws := ed_wm4 (i := 202) rfl rfl
theorem ed_w4_203 : Cond.code yX9_oneHour cX9_oneHour 3 (some .int) ∈ ed_ws := ed_wm4 (i := 203) rfl rfl
theorem ed_w4_204 : Cond.methodLink RX9 81 yX9_publish ∈ ed_ws := ed_wm4 (i := 204) rfl rfl
theorem ed_w4_206 : Cond.instanceMethod yX9_publish ∈ ed_ws := ed_wm4 (i := 206) rfl rfl
theorem ed_w4_207 : Cond.code yX9_publish cX9_publish 4 none ∈ ed_ws := ed_wm4 (i := 207) rfl rfl
theorem ed_w4_208 : Cond.methodLink RX9 85 yX9_goOn ∈ ed_ws := ed_wm4 (i := 208) rfl rfl
theorem ed_w4_210 : Cond.instanceMethod yX9_goOn ∈ ed_ws := ed_wm4 (i := 210) rfl rfl
theorem ed_w4_211 : Cond.code yX9_goOn cX9_goOn 6 (some .int) ∈ ed_ws := ed_wm4 (i := 211) rfl rfl
theorem ed_w4_212 : Cond.methodLink RX9 68 yX9_bill ∈ ed_ws := ed_wm4 (i := 212) rfl rfl
theorem ed_w4_214 : Cond.instanceMethod yX9_bill ∈ ed_ws := ed_wm4 (i := 214) rfl rfl
theorem ed_w4_215 : Cond.code yX9_bill cX9_bill 6 none ∈ ed_ws := ed_wm4 (i := 215) rfl rfl
theorem ed_w4_216 : Cond.constant RX9 60 (2147483647) ∈ ed_ws := ed_wm4 (i := 216) rfl rfl
theorem ed_w4_217 : Cond.methodLink RX9 61 yX9_share ∈ ed_ws := ed_wm4 (i := 217) rfl rfl
theorem ed_w4_219 : Cond.instanceMethod yX9_share ∈ ed_ws := ed_wm4 (i := 219) rfl rfl
theorem ed_w4_220 : Cond.code yX9_share cX9_share 4 none ∈ ed_ws := ed_wm4 (i := 220) rfl rfl
theorem ed_w4_221 : Cond.methodLink RX9 71 yX9_useEnds ∈ ed_ws := ed_wm4 (i := 221) rfl rfl
theorem ed_w4_223 : Cond.instanceMethod yX9_useEnds ∈ ed_ws := ed_wm4 (i := 223) rfl rfl
theorem ed_w4_224 : Cond.code yX9_useEnds cX9_useEnds 2 (some .int) ∈ ed_ws := ed_wm4 (i := 224) rfl rfl
theorem ed_w4_225 : Cond.methodLink RX9 75 yX9_killDue ∈ ed_ws := ed_wm4 (i := 225) rfl rfl
theorem ed_w4_227 : Cond.instanceMethod yX9_killDue ∈ ed_ws := ed_wm4 (i := 227) rfl rfl
theorem ed_w4_228 : Cond.code yX9_killDue cX9_killDue 2 (some .int) ∈ ed_ws := ed_wm4 (i := 228) rfl rfl
theorem ed_w4_229 : Cond.methodLink RX9 78 yX9_correctionDue ∈ ed_ws := ed_wm4 (i := 229) rfl rfl
theorem ed_w4_231 : Cond.instanceMethod yX9_correctionDue ∈ ed_ws := ed_wm4 (i := 231) rfl rfl
theorem ed_w4_232 : Cond.code yX9_correctionDue cX9_correctionDue 3 (some .int) ∈ ed_ws := ed_wm4 (i := 232) rfl rfl
theorem ed_w4_233 : Cond.methodLink RL 78 yX9_undo ∈ ed_ws := ed_wm4 (i := 233) rfl rfl
theorem ed_w4_234 : Cond.instanceMethod yX9_undo ∈ ed_ws := ed_wm4 (i := 234) rfl rfl
theorem ed_w4_235 : Cond.selects RX9 yX9_undo yX9_undo ∈ ed_ws := ed_wm4 (i := 235) rfl rfl
theorem ed_w4_236 : Cond.code yX9_undo cX9_undo 2 (some .int) ∈ ed_ws := ed_wm4 (i := 236) rfl rfl
theorem ed_w4_237 : Cond.methodLink RL 82 yX9_keep ∈ ed_ws := ed_wm4 (i := 237) rfl rfl
theorem ed_w4_238 : Cond.instanceMethod yX9_keep ∈ ed_ws := ed_wm4 (i := 238) rfl rfl
theorem ed_w4_239 : Cond.selects RX9 yX9_keep yX9_keep ∈ ed_ws := ed_wm4 (i := 239) rfl rfl
theorem ed_w5_0 : Cond.code yX9_keep cX9_keep 2 (some .int) ∈ ed_ws := ed_wm5 (i := 0) rfl rfl
theorem ed_w5_1 : Cond.methodLink RL 86 yX9_restore ∈ ed_ws := ed_wm5 (i := 1) rfl rfl
theorem ed_w5_2 : Cond.instanceMethod yX9_restore ∈ ed_ws := ed_wm5 (i := 2) rfl rfl
theorem ed_w5_3 : Cond.selects RX9 yX9_restore yX9_restore ∈ ed_ws := ed_wm5 (i := 3) rfl rfl
theorem ed_w5_4 : Cond.code yX9_restore cX9_restore 2 (some .int) ∈ ed_ws := ed_wm5 (i := 4) rfl rfl
theorem ed_w5_5 : Cond.methodLink RL 90 yX9_story ∈ ed_ws := ed_wm5 (i := 5) rfl rfl
theorem ed_w5_6 : Cond.instanceMethod yX9_story ∈ ed_ws := ed_wm5 (i := 6) rfl rfl
theorem ed_w5_7 : Cond.selects RX9 yX9_story yX9_story ∈ ed_ws := ed_wm5 (i := 7) rfl rfl
theorem ed_w5_8 : Cond.code yX9_story cX9_story 5 (some .int) ∈ ed_ws := ed_wm5 (i := 8) rfl rfl
theorem ed_w5_9 : Cond.methodLink RL 94 yX9_byline ∈ ed_ws := ed_wm5 (i := 9) rfl rfl
theorem ed_w5_10 : Cond.instanceMethod yX9_byline ∈ ed_ws := ed_wm5 (i := 10) rfl rfl
theorem ed_w5_11 : Cond.selects RX9 yX9_byline yX9_byline ∈ ed_ws := ed_wm5 (i := 11) rfl rfl
theorem ed_w5_12 : Cond.code yX9_byline cX9_byline 3 (some .int) ∈ ed_ws := ed_wm5 (i := 12) rfl rfl
theorem ed_w5_13 : Cond.methodLink RX9 142 yX9_rowOf ∈ ed_ws := ed_wm5 (i := 13) rfl rfl
theorem ed_w5_15 : Cond.instanceMethod yX9_rowOf ∈ ed_ws := ed_wm5 (i := 15) rfl rfl
theorem ed_w5_16 : Cond.code yX9_rowOf cX9_rowOf 5 (some .int) ∈ ed_ws := ed_wm5 (i := 16) rfl rfl
theorem ed_w5_17 : Cond.methodLink RL 98 yX9_slugChar ∈ ed_ws := ed_wm5 (i := 17) rfl rfl
theorem ed_w5_18 : Cond.instanceMethod yX9_slugChar ∈ ed_ws := ed_wm5 (i := 18) rfl rfl
theorem ed_w5_19 : Cond.selects RX9 yX9_slugChar yX9_slugChar ∈ ed_ws := ed_wm5 (i := 19) rfl rfl
theorem ed_w5_20 : Cond.code yX9_slugChar cX9_slugChar 3 (some .int) ∈ ed_ws := ed_wm5 (i := 20) rfl rfl
theorem ed_w5_21 : Cond.methodLink RL 102 yX9_correction ∈ ed_ws := ed_wm5 (i := 21) rfl rfl
theorem ed_w5_22 : Cond.instanceMethod yX9_correction ∈ ed_ws := ed_wm5 (i := 22) rfl rfl
theorem ed_w5_23 : Cond.selects RX9 yX9_correction yX9_correction ∈ ed_ws := ed_wm5 (i := 23) rfl rfl
theorem ed_w5_24 : Cond.code yX9_correction cX9_correction 3 (some .int) ∈ ed_ws := ed_wm5 (i := 24) rfl rfl
theorem ed_w5_25 : Cond.methodLink RL 106 yX9_client ∈ ed_ws := ed_wm5 (i := 25) rfl rfl
theorem ed_w5_26 : Cond.instanceMethod yX9_client ∈ ed_ws := ed_wm5 (i := 26) rfl rfl
theorem ed_w5_27 : Cond.selects RX9 yX9_client yX9_client ∈ ed_ws := ed_wm5 (i := 27) rfl rfl
theorem ed_w5_28 : Cond.code yX9_client cX9_client 3 (some .int) ∈ ed_ws := ed_wm5 (i := 28) rfl rfl
theorem ed_w5_29 : Cond.methodLink RX9 146 yX9_inUseFor ∈ ed_ws := ed_wm5 (i := 29) rfl rfl
theorem ed_w5_31 : Cond.instanceMethod yX9_inUseFor ∈ ed_ws := ed_wm5 (i := 31) rfl rfl
theorem ed_w5_32 : Cond.code yX9_inUseFor cX9_inUseFor 4 (some .int) ∈ ed_ws := ed_wm5 (i := 32) rfl rfl
theorem ed_w5_33 : Cond.methodLink RL 110 yX9_person ∈ ed_ws := ed_wm5 (i := 33) rfl rfl
theorem ed_w5_34 : Cond.instanceMethod yX9_person ∈ ed_ws := ed_wm5 (i := 34) rfl rfl
theorem ed_w5_35 : Cond.selects RX9 yX9_person yX9_person ∈ ed_ws := ed_wm5 (i := 35) rfl rfl
theorem ed_w5_36 : Cond.code yX9_person cX9_person 6 (some .int) ∈ ed_ws := ed_wm5 (i := 36) rfl rfl
theorem ed_w5_37 : Cond.methodLink RX9 149 yX9_wrote ∈ ed_ws := ed_wm5 (i := 37) rfl rfl
theorem ed_w5_39 : Cond.instanceMethod yX9_wrote ∈ ed_ws := ed_wm5 (i := 39) rfl rfl
theorem ed_w5_40 : Cond.code yX9_wrote cX9_wrote 5 (some .boolean) ∈ ed_ws := ed_wm5 (i := 40) rfl rfl
theorem ed_w5_41 : Cond.methodLink RL 115 yX9_copy ∈ ed_ws := ed_wm5 (i := 41) rfl rfl
theorem ed_w5_42 : Cond.instanceMethod yX9_copy ∈ ed_ws := ed_wm5 (i := 42) rfl rfl
theorem ed_w5_43 : Cond.selects RX9 yX9_copy yX9_copy ∈ ed_ws := ed_wm5 (i := 43) rfl rfl
theorem ed_w5_44 : Cond.code yX9_copy cX9_copy 7 (some .int) ∈ ed_ws := ed_wm5 (i := 44) rfl rfl
theorem ed_w5_45 : Cond.methodLink RX9 152 yX9_copyOf ∈ ed_ws := ed_wm5 (i := 45) rfl rfl
theorem ed_w5_47 : Cond.instanceMethod yX9_copyOf ∈ ed_ws := ed_wm5 (i := 47) rfl rfl
theorem ed_w5_48 : Cond.code yX9_copyOf cX9_copyOf 5 (some .int) ∈ ed_ws := ed_wm5 (i := 48) rfl rfl
theorem ed_w5_49 : Cond.methodLink RX9 155 yX9_dueNow ∈ ed_ws := ed_wm5 (i := 49) rfl rfl
theorem ed_w5_51 : Cond.instanceMethod yX9_dueNow ∈ ed_ws := ed_wm5 (i := 51) rfl rfl
theorem ed_w5_52 : Cond.code yX9_dueNow cX9_dueNow 4 (some .int) ∈ ed_ws := ed_wm5 (i := 52) rfl rfl
theorem ed_w5_53 : Cond.methodLink RL 119 yX9_copyAt ∈ ed_ws := ed_wm5 (i := 53) rfl rfl
theorem ed_w5_54 : Cond.instanceMethod yX9_copyAt ∈ ed_ws := ed_wm5 (i := 54) rfl rfl
theorem ed_w5_55 : Cond.selects RX9 yX9_copyAt yX9_copyAt ∈ ed_ws := ed_wm5 (i := 55) rfl rfl
theorem ed_w5_56 : Cond.code yX9_copyAt cX9_copyAt 2 (some .int) ∈ ed_ws := ed_wm5 (i := 56) rfl rfl
theorem ed_w5_57 : Cond.methodLink RL 123 yX9_carriedIn ∈ ed_ws := ed_wm5 (i := 57) rfl rfl
theorem ed_w5_58 : Cond.instanceMethod yX9_carriedIn ∈ ed_ws := ed_wm5 (i := 58) rfl rfl
theorem ed_w5_59 : Cond.selects RX9 yX9_carriedIn yX9_carriedIn ∈ ed_ws := ed_wm5 (i := 59) rfl rfl
theorem ed_w5_60 : Cond.code yX9_carriedIn cX9_carriedIn 5 (some .int) ∈ ed_ws := ed_wm5 (i := 60) rfl rfl
theorem ed_w5_61 : Cond.methodLink RX9 158 yX9_setAside ∈ ed_ws := ed_wm5 (i := 61) rfl rfl
theorem ed_w5_63 : Cond.instanceMethod yX9_setAside ∈ ed_ws := ed_wm5 (i := 63) rfl rfl
theorem ed_w5_64 : Cond.code yX9_setAside cX9_setAside 2 none ∈ ed_ws := ed_wm5 (i := 64) rfl rfl
theorem ed_w5_65 : Cond.methodLink RX9 161 yX9_bringBack ∈ ed_ws := ed_wm5 (i := 65) rfl rfl
theorem ed_w5_67 : Cond.instanceMethod yX9_bringBack ∈ ed_ws := ed_wm5 (i := 67) rfl rfl
theorem ed_w5_68 : Cond.code yX9_bringBack cX9_bringBack 2 none ∈ ed_ws := ed_wm5 (i := 68) rfl rfl
theorem ed_w5_69 : Cond.methodLink RL 127 yX9_wouldCome ∈ ed_ws := ed_wm5 (i := 69) rfl rfl
theorem ed_w5_70 : Cond.instanceMethod yX9_wouldCome ∈ ed_ws := ed_wm5 (i := 70) rfl rfl
theorem ed_w5_71 : Cond.selects RX9 yX9_wouldCome yX9_wouldCome ∈ ed_ws := ed_wm5 (i := 71) rfl rfl
theorem ed_w5_72 : Cond.code yX9_wouldCome cX9_wouldCome 4 (some .int) ∈ ed_ws := ed_wm5 (i := 72) rfl rfl
theorem ed_w5_73 : Cond.methodLink RL 131 yX9_event ∈ ed_ws := ed_wm5 (i := 73) rfl rfl
theorem ed_w5_74 : Cond.instanceMethod yX9_event ∈ ed_ws := ed_wm5 (i := 74) rfl rfl
theorem ed_w5_75 : Cond.selects RX9 yX9_event yX9_event ∈ ed_ws := ed_wm5 (i := 75) rfl rfl
theorem ed_w5_76 : Cond.code yX9_event cX9_event 5 (some .int) ∈ ed_ws := ed_wm5 (i := 76) rfl rfl
theorem ed_w5_77 : Cond.methodLink RL 135 yX9_count ∈ ed_ws := ed_wm5 (i := 77) rfl rfl
theorem ed_w5_78 : Cond.instanceMethod yX9_count ∈ ed_ws := ed_wm5 (i := 78) rfl rfl
theorem ed_w5_79 : Cond.selects RX9 yX9_count yX9_count ∈ ed_ws := ed_wm5 (i := 79) rfl rfl
theorem ed_w5_80 : Cond.code yX9_count cX9_count 5 (some .int) ∈ ed_ws := ed_wm5 (i := 80) rfl rfl
theorem ed_w5_81 : Cond.methodLink RX9 164 yX9_personsOfAll ∈ ed_ws := ed_wm5 (i := 81) rfl rfl
theorem ed_w5_83 : Cond.instanceMethod yX9_personsOfAll ∈ ed_ws := ed_wm5 (i := 83) rfl rfl
theorem ed_w5_84 : Cond.code yX9_personsOfAll cX9_personsOfAll 5 (some .int) ∈ ed_ws := ed_wm5 (i := 84) rfl rfl
theorem ed_wp_0 : Cond.selects RX2 yX2_dropOldest yX2_dropOldest ∈ ed_ws := ed_wp1 (i := 0) rfl rfl rfl
theorem ed_wp_1 : Cond.selects RX5 yX5_copyStories yX5_copyStories ∈ ed_ws := ed_wp1 (i := 1) rfl rfl rfl
theorem ed_wp_2 : Cond.selects RX5 yX5_copyClients yX5_copyClients ∈ ed_ws := ed_wp1 (i := 2) rfl rfl rfl
theorem ed_wp_3 : Cond.selects RX5 yX5_copyCopies yX5_copyCopies ∈ ed_ws := ed_wp1 (i := 3) rfl rfl rfl
theorem ed_wp_4 : Cond.selects RX5 yX5_copyPersons yX5_copyPersons ∈ ed_ws := ed_wp1 (i := 4) rfl rfl rfl
theorem ed_wp_5 : Cond.selects RX7 yX7_readTopic yX7_readTopic ∈ ed_ws := ed_wp1 (i := 5) rfl rfl rfl
theorem ed_wp_6 : Cond.selects RX7 yX7_digit yX7_digit ∈ ed_ws := ed_wp1 (i := 6) rfl rfl rfl
theorem ed_wp_7 : Cond.selects RX7 yX7_sign yX7_sign ∈ ed_ws := ed_wp1 (i := 7) rfl rfl rfl
theorem ed_wp_8 : Cond.selects RX7 yX7_readSign yX7_readSign ∈ ed_ws := ed_wp1 (i := 8) rfl rfl rfl
theorem ed_wp_9 : Cond.selects RX7 yX7_readByline yX7_readByline ∈ ed_ws := ed_wp1 (i := 9) rfl rfl rfl
theorem ed_wp_10 : Cond.selects RX7 yX7_readPerson yX7_readPerson ∈ ed_ws := ed_wp1 (i := 10) rfl rfl rfl
theorem ed_wp_11 : Cond.selects RX7 yX7_isInByline yX7_isInByline ∈ ed_ws := ed_wp1 (i := 11) rfl rfl rfl
theorem ed_wp_12 : Cond.selects RX7 yX7_readEmbargo yX7_readEmbargo ∈ ed_ws := ed_wp1 (i := 12) rfl rfl rfl
theorem ed_wp_13 : Cond.selects RX7 yX7_readSlug yX7_readSlug ∈ ed_ws := ed_wp1 (i := 13) rfl rfl rfl
theorem ed_wp_14 : Cond.selects RX5 yX5_startDay yX5_startDay ∈ ed_ws := ed_wp1 (i := 14) rfl rfl rfl
theorem ed_wp_15 : Cond.selects RX5 yX5_publish yX5_publish ∈ ed_ws := ed_wp1 (i := 15) rfl rfl rfl
theorem ed_wp_16 : Cond.selects RX5 yX5_planCopy yX5_planCopy ∈ ed_ws := ed_wp2 (i := 0) rfl rfl rfl
theorem ed_wp_17 : Cond.selects RX5 yX5_moveOn yX5_moveOn ∈ ed_ws := ed_wp2 (i := 1) rfl rfl rfl
theorem ed_wp_18 : Cond.selects RX5 yX5_startUse yX5_startUse ∈ ed_ws := ed_wp2 (i := 2) rfl rfl rfl
theorem ed_wp_19 : Cond.selects RX5 yX5_bill yX5_bill ∈ ed_ws := ed_wp2 (i := 3) rfl rfl rfl
theorem ed_wp_20 : Cond.selects RX5 yX5_reach yX5_reach ∈ ed_ws := ed_wp2 (i := 4) rfl rfl rfl
theorem ed_wp_21 : Cond.selects RX9 yX9_record yX9_record ∈ ed_ws := ed_wp2 (i := 5) rfl rfl rfl
theorem ed_wp_22 : Cond.selects RX9 yX9_isClient yX9_isClient ∈ ed_ws := ed_wp2 (i := 6) rfl rfl rfl
theorem ed_wp_23 : Cond.selects RX9 yX9_becomes yX9_becomes ∈ ed_ws := ed_wp2 (i := 7) rfl rfl rfl
theorem ed_wp_24 : Cond.selects RX9 yX9_ofCopy yX9_ofCopy ∈ ed_ws := ed_wp2 (i := 8) rfl rfl rfl
theorem ed_wp_25 : Cond.selects RX9 yX9_ofClient yX9_ofClient ∈ ed_ws := ed_wp2 (i := 9) rfl rfl rfl
theorem ed_wp_26 : Cond.selects RX9 yX9_readText yX9_readText ∈ ed_ws := ed_wp2 (i := 10) rfl rfl rfl
theorem ed_wp_27 : Cond.selects RX9 yX9_digitTo yX9_digitTo ∈ ed_ws := ed_wp2 (i := 11) rfl rfl rfl
theorem ed_wp_28 : Cond.selects RX9 yX9_sign yX9_sign ∈ ed_ws := ed_wp2 (i := 12) rfl rfl rfl
theorem ed_wp_29 : Cond.selects RX9 yX9_readPersons yX9_readPersons ∈ ed_ws := ed_wp2 (i := 13) rfl rfl rfl
theorem ed_wp_30 : Cond.selects RX9 yX9_readHour yX9_readHour ∈ ed_ws := ed_wp2 (i := 14) rfl rfl rfl
theorem ed_wp_31 : Cond.selects RX9 yX9_readSlug yX9_readSlug ∈ ed_ws := ed_wp2 (i := 15) rfl rfl rfl
theorem ed_wp_32 : Cond.selects RX9 yX9_isStory yX9_isStory ∈ ed_ws := ed_wp3 (i := 0) rfl rfl rfl
theorem ed_wp_33 : Cond.selects RX9 yX9_ofStory yX9_ofStory ∈ ed_ws := ed_wp3 (i := 1) rfl rfl rfl
theorem ed_wp_34 : Cond.selects RX9 yX9_wants yX9_wants ∈ ed_ws := ed_wp3 (i := 2) rfl rfl rfl
theorem ed_wp_35 : Cond.selects RX9 yX9_log yX9_log ∈ ed_ws := ed_wp3 (i := 3) rfl rfl rfl
theorem ed_wp_36 : Cond.selects RX9 yX9_inUse yX9_inUse ∈ ed_ws := ed_wp3 (i := 4) rfl rfl rfl
theorem ed_wp_37 : Cond.selects RX9 yX9_oneHour yX9_oneHour ∈ ed_ws := ed_wp3 (i := 5) rfl rfl rfl
theorem ed_wp_38 : Cond.selects RX9 yX9_publish yX9_publish ∈ ed_ws := ed_wp3 (i := 6) rfl rfl rfl
theorem ed_wp_39 : Cond.selects RX9 yX9_goOn yX9_goOn ∈ ed_ws := ed_wp3 (i := 7) rfl rfl rfl
theorem ed_wp_40 : Cond.selects RX9 yX9_bill yX9_bill ∈ ed_ws := ed_wp3 (i := 8) rfl rfl rfl
theorem ed_wp_41 : Cond.selects RX9 yX9_share yX9_share ∈ ed_ws := ed_wp3 (i := 9) rfl rfl rfl
theorem ed_wp_42 : Cond.selects RX9 yX9_useEnds yX9_useEnds ∈ ed_ws := ed_wp3 (i := 10) rfl rfl rfl
theorem ed_wp_43 : Cond.selects RX9 yX9_killDue yX9_killDue ∈ ed_ws := ed_wp3 (i := 11) rfl rfl rfl
theorem ed_wp_44 : Cond.selects RX9 yX9_correctionDue yX9_correctionDue ∈ ed_ws := ed_wp3 (i := 12) rfl rfl rfl
theorem ed_wp_45 : Cond.selects RX9 yX9_rowOf yX9_rowOf ∈ ed_ws := ed_wp3 (i := 13) rfl rfl rfl
theorem ed_wp_46 : Cond.selects RX9 yX9_inUseFor yX9_inUseFor ∈ ed_ws := ed_wp3 (i := 14) rfl rfl rfl
theorem ed_wp_47 : Cond.selects RX9 yX9_wrote yX9_wrote ∈ ed_ws := ed_wp3 (i := 15) rfl rfl rfl
theorem ed_wp_48 : Cond.selects RX9 yX9_copyOf yX9_copyOf ∈ ed_ws := ed_wp4 (i := 0) rfl rfl rfl
theorem ed_wp_49 : Cond.selects RX9 yX9_dueNow yX9_dueNow ∈ ed_ws := ed_wp4 (i := 1) rfl rfl rfl
theorem ed_wp_50 : Cond.selects RX9 yX9_setAside yX9_setAside ∈ ed_ws := ed_wp4 (i := 2) rfl rfl rfl
theorem ed_wp_51 : Cond.selects RX9 yX9_bringBack yX9_bringBack ∈ ed_ws := ed_wp4 (i := 3) rfl rfl rfl
theorem ed_wp_52 : Cond.selects RX9 yX9_personsOfAll yX9_personsOfAll ∈ ed_ws := ed_wp4 (i := 4) rfl rfl rfl
theorem ed_uX0 : ∀ w ∈ u_ws RX0 TX0 10, w ∈ ed_ws := List.forall_mem_cons.mpr ⟨ed_w1_139, List.forall_mem_cons.mpr ⟨ed_w1_141, List.forall_mem_cons.mpr ⟨ed_w1_143, List.forall_mem_cons.mpr ⟨ed_w1_145, List.forall_mem_cons.mpr ⟨ed_w1_147, List.forall_mem_cons.mpr ⟨ed_w1_149, List.forall_mem_cons.mpr ⟨ed_w1_151, List.forall_mem_cons.mpr ⟨ed_w1_153, List.forall_mem_cons.mpr ⟨ed_w1_155, List.forall_mem_cons.mpr ⟨ed_w1_157, fun _ h => absurd h List.not_mem_nil⟩⟩⟩⟩⟩⟩⟩⟩⟩⟩
theorem ed_uX1 : ∀ w ∈ u_ws RX1 TX1 6, w ∈ ed_ws := List.forall_mem_cons.mpr ⟨ed_w1_183, List.forall_mem_cons.mpr ⟨ed_w1_185, List.forall_mem_cons.mpr ⟨ed_w1_187, List.forall_mem_cons.mpr ⟨ed_w1_189, List.forall_mem_cons.mpr ⟨ed_w1_191, List.forall_mem_cons.mpr ⟨ed_w1_193, fun _ h => absurd h List.not_mem_nil⟩⟩⟩⟩⟩⟩
theorem ed_uX2 : ∀ w ∈ u_ws RX2 TX2 2, w ∈ ed_ws := List.forall_mem_cons.mpr ⟨ed_w2_25, List.forall_mem_cons.mpr ⟨ed_w2_27, fun _ h => absurd h List.not_mem_nil⟩⟩
theorem ed_uX3 : ∀ w ∈ u_ws RX3 TX3 3, w ∈ ed_ws := List.forall_mem_cons.mpr ⟨ed_w1_36, List.forall_mem_cons.mpr ⟨ed_w1_38, List.forall_mem_cons.mpr ⟨ed_w1_40, fun _ h => absurd h List.not_mem_nil⟩⟩⟩
theorem ed_uX4 : ∀ w ∈ u_ws RX4 TX4 2, w ∈ ed_ws := List.forall_mem_cons.mpr ⟨ed_w1_207, List.forall_mem_cons.mpr ⟨ed_w1_209, fun _ h => absurd h List.not_mem_nil⟩⟩
theorem ed_uX5 : ∀ w ∈ u_ws RX5 TX5 11, w ∈ ed_ws := List.forall_mem_cons.mpr ⟨ed_w1_230, List.forall_mem_cons.mpr ⟨ed_w1_232, List.forall_mem_cons.mpr ⟨ed_w1_234, List.forall_mem_cons.mpr ⟨ed_w1_236, List.forall_mem_cons.mpr ⟨ed_w1_238, List.forall_mem_cons.mpr ⟨ed_w2_0, List.forall_mem_cons.mpr ⟨ed_w2_2, List.forall_mem_cons.mpr ⟨ed_w2_4, List.forall_mem_cons.mpr ⟨ed_w2_6, List.forall_mem_cons.mpr ⟨ed_w2_8, List.forall_mem_cons.mpr ⟨ed_w2_10, fun _ h => absurd h List.not_mem_nil⟩⟩⟩⟩⟩⟩⟩⟩⟩⟩⟩
theorem ed_uX6 : ∀ w ∈ u_ws RX6 TX6 11, w ∈ ed_ws := List.forall_mem_cons.mpr ⟨ed_w1_83, List.forall_mem_cons.mpr ⟨ed_w1_85, List.forall_mem_cons.mpr ⟨ed_w1_87, List.forall_mem_cons.mpr ⟨ed_w1_89, List.forall_mem_cons.mpr ⟨ed_w1_91, List.forall_mem_cons.mpr ⟨ed_w1_93, List.forall_mem_cons.mpr ⟨ed_w1_95, List.forall_mem_cons.mpr ⟨ed_w1_97, List.forall_mem_cons.mpr ⟨ed_w1_99, List.forall_mem_cons.mpr ⟨ed_w1_101, List.forall_mem_cons.mpr ⟨ed_w1_103, fun _ h => absurd h List.not_mem_nil⟩⟩⟩⟩⟩⟩⟩⟩⟩⟩⟩
theorem ed_uX7 : ∀ w ∈ u_ws RX7 TX7 9, w ∈ ed_ws := List.forall_mem_cons.mpr ⟨ed_w2_52, List.forall_mem_cons.mpr ⟨ed_w2_54, List.forall_mem_cons.mpr ⟨ed_w2_56, List.forall_mem_cons.mpr ⟨ed_w2_58, List.forall_mem_cons.mpr ⟨ed_w2_60, List.forall_mem_cons.mpr ⟨ed_w2_62, List.forall_mem_cons.mpr ⟨ed_w2_64, List.forall_mem_cons.mpr ⟨ed_w2_66, List.forall_mem_cons.mpr ⟨ed_w2_68, fun _ h => absurd h List.not_mem_nil⟩⟩⟩⟩⟩⟩⟩⟩⟩
theorem ed_uX8 : ∀ w ∈ u_ws RX8 TX8 6, w ∈ ed_ws := List.forall_mem_cons.mpr ⟨ed_w2_77, List.forall_mem_cons.mpr ⟨ed_w2_79, List.forall_mem_cons.mpr ⟨ed_w2_81, List.forall_mem_cons.mpr ⟨ed_w2_83, List.forall_mem_cons.mpr ⟨ed_w2_85, List.forall_mem_cons.mpr ⟨ed_w2_87, fun _ h => absurd h List.not_mem_nil⟩⟩⟩⟩⟩⟩
theorem ed_uX9 : ∀ w ∈ u_ws RX9 TX9 11, w ∈ ed_ws := List.forall_mem_cons.mpr ⟨ed_w4_44, List.forall_mem_cons.mpr ⟨ed_w4_46, List.forall_mem_cons.mpr ⟨ed_w4_48, List.forall_mem_cons.mpr ⟨ed_w4_50, List.forall_mem_cons.mpr ⟨ed_w4_52, List.forall_mem_cons.mpr ⟨ed_w4_54, List.forall_mem_cons.mpr ⟨ed_w4_56, List.forall_mem_cons.mpr ⟨ed_w4_58, List.forall_mem_cons.mpr ⟨ed_w4_60, List.forall_mem_cons.mpr ⟨ed_w4_62, List.forall_mem_cons.mpr ⟨ed_w4_64, fun _ h => absurd h List.not_mem_nil⟩⟩⟩⟩⟩⟩⟩⟩⟩⟩⟩
def wsX0_init : List Cond := Cond.code yX0_init cX0_init 1 none :: ed_ws
theorem hn_X0_init : yX0_init.cls ≠ "java/lang/invoke/MethodHandle" ∧ yX0_init.cls ≠ "java/lang/invoke/VarHandle" ∧ (parseMethodDescriptor yX0_init.desc).map (fun d => d.parameters.length) = some 0 := by decide +kernel
theorem hd_X0_init : yX0_init.cls = RX0 ∧ yX0_init.cls ≠ "java/lang/invoke/MethodHandle" ∧ yX0_init.cls ≠ "java/lang/invoke/VarHandle" ∧ (parseMethodDescriptor yX0_init.desc).map (fun d => d.parameters.length) = some 0 := by decide +kernel
def wsX0_begin : List Cond := Cond.code yX0_begin cX0_begin 6 none :: ed_ws
theorem hd_X0_begin : yX0_begin.cls = RX0 ∧ yX0_begin.cls ≠ "java/lang/invoke/MethodHandle" ∧ yX0_begin.cls ≠ "java/lang/invoke/VarHandle" ∧ (parseMethodDescriptor yX0_begin.desc).map (fun d => d.parameters.length) = some 5 := by decide +kernel
def wsX0_copyFrom : List Cond := Cond.code yX0_copyFrom cX0_copyFrom 2 none :: ed_ws
theorem hd_X0_copyFrom : yX0_copyFrom.cls = RX0 ∧ yX0_copyFrom.cls ≠ "java/lang/invoke/MethodHandle" ∧ yX0_copyFrom.cls ≠ "java/lang/invoke/VarHandle" ∧ (parseMethodDescriptor yX0_copyFrom.desc).map (fun d => d.parameters.length) = some 1 := by decide +kernel
def wsX0_hasTopic : List Cond := Cond.code yX0_hasTopic cX0_hasTopic 2 (some .boolean) :: ed_ws
theorem hd_X0_hasTopic : yX0_hasTopic.cls = RX0 ∧ yX0_hasTopic.cls ≠ "java/lang/invoke/MethodHandle" ∧ yX0_hasTopic.cls ≠ "java/lang/invoke/VarHandle" ∧ (parseMethodDescriptor yX0_hasTopic.desc).map (fun d => d.parameters.length) = some 1 := by decide +kernel
def wsX0_canGetCopy : List Cond := Cond.code yX0_canGetCopy cX0_canGetCopy 1 (some .boolean) :: ed_ws
theorem hd_X0_canGetCopy : yX0_canGetCopy.cls = RX0 ∧ yX0_canGetCopy.cls ≠ "java/lang/invoke/MethodHandle" ∧ yX0_canGetCopy.cls ≠ "java/lang/invoke/VarHandle" ∧ (parseMethodDescriptor yX0_canGetCopy.desc).map (fun d => d.parameters.length) = some 0 := by decide +kernel
def wsX1_init : List Cond := Cond.code yX1_init cX1_init 1 none :: ed_ws
theorem hn_X1_init : yX1_init.cls ≠ "java/lang/invoke/MethodHandle" ∧ yX1_init.cls ≠ "java/lang/invoke/VarHandle" ∧ (parseMethodDescriptor yX1_init.desc).map (fun d => d.parameters.length) = some 0 := by decide +kernel
theorem hd_X1_init : yX1_init.cls = RX1 ∧ yX1_init.cls ≠ "java/lang/invoke/MethodHandle" ∧ yX1_init.cls ≠ "java/lang/invoke/VarHandle" ∧ (parseMethodDescriptor yX1_init.desc).map (fun d => d.parameters.length) = some 0 := by decide +kernel
def wsX1_begin : List Cond := Cond.code yX1_begin cX1_begin 4 none :: ed_ws
theorem hd_X1_begin : yX1_begin.cls = RX1 ∧ yX1_begin.cls ≠ "java/lang/invoke/MethodHandle" ∧ yX1_begin.cls ≠ "java/lang/invoke/VarHandle" ∧ (parseMethodDescriptor yX1_begin.desc).map (fun d => d.parameters.length) = some 3 := by decide +kernel
def wsX1_isOver : List Cond := Cond.code yX1_isOver cX1_isOver 1 (some .boolean) :: ed_ws
theorem hd_X1_isOver : yX1_isOver.cls = RX1 ∧ yX1_isOver.cls ≠ "java/lang/invoke/MethodHandle" ∧ yX1_isOver.cls ≠ "java/lang/invoke/VarHandle" ∧ (parseMethodDescriptor yX1_isOver.desc).map (fun d => d.parameters.length) = some 0 := by decide +kernel
def wsX1_copyFrom : List Cond := Cond.code yX1_copyFrom cX1_copyFrom 2 none :: ed_ws
theorem hd_X1_copyFrom : yX1_copyFrom.cls = RX1 ∧ yX1_copyFrom.cls ≠ "java/lang/invoke/MethodHandle" ∧ yX1_copyFrom.cls ≠ "java/lang/invoke/VarHandle" ∧ (parseMethodDescriptor yX1_copyFrom.desc).map (fun d => d.parameters.length) = some 1 := by decide +kernel
def wsX2_init : List Cond := Cond.code yX2_init cX2_init 2 none :: ed_ws
theorem hn_X2_init : yX2_init.cls ≠ "java/lang/invoke/MethodHandle" ∧ yX2_init.cls ≠ "java/lang/invoke/VarHandle" ∧ (parseMethodDescriptor yX2_init.desc).map (fun d => d.parameters.length) = some 0 := by decide +kernel
theorem hd_X2_init : yX2_init.cls = RX2 ∧ yX2_init.cls ≠ "java/lang/invoke/MethodHandle" ∧ yX2_init.cls ≠ "java/lang/invoke/VarHandle" ∧ (parseMethodDescriptor yX2_init.desc).map (fun d => d.parameters.length) = some 0 := by decide +kernel
def wsX2_remember : List Cond := Cond.code yX2_remember cX2_remember 3 none :: ed_ws
theorem hd_X2_remember : yX2_remember.cls = RX2 ∧ yX2_remember.cls ≠ "java/lang/invoke/MethodHandle" ∧ yX2_remember.cls ≠ "java/lang/invoke/VarHandle" ∧ (parseMethodDescriptor yX2_remember.desc).map (fun d => d.parameters.length) = some 1 := by decide +kernel
def wsX2_dropOldest : List Cond := Cond.code yX2_dropOldest cX2_dropOldest 3 none :: ed_ws
theorem hd_X2_dropOldest : yX2_dropOldest.cls = RX2 ∧ yX2_dropOldest.cls ≠ "java/lang/invoke/MethodHandle" ∧ yX2_dropOldest.cls ≠ "java/lang/invoke/VarHandle" ∧ (parseMethodDescriptor yX2_dropOldest.desc).map (fun d => d.parameters.length) = some 0 := by decide +kernel
def wsX2_takeLatest : List Cond := Cond.code yX2_takeLatest cX2_takeLatest 3 none :: ed_ws
theorem hd_X2_takeLatest : yX2_takeLatest.cls = RX2 ∧ yX2_takeLatest.cls ≠ "java/lang/invoke/MethodHandle" ∧ yX2_takeLatest.cls ≠ "java/lang/invoke/VarHandle" ∧ (parseMethodDescriptor yX2_takeLatest.desc).map (fun d => d.parameters.length) = some 1 := by decide +kernel
def wsX3_init : List Cond := Cond.code yX3_init cX3_init 1 none :: ed_ws
theorem hn_X3_init : yX3_init.cls ≠ "java/lang/invoke/MethodHandle" ∧ yX3_init.cls ≠ "java/lang/invoke/VarHandle" ∧ (parseMethodDescriptor yX3_init.desc).map (fun d => d.parameters.length) = some 0 := by decide +kernel
theorem hd_X3_init : yX3_init.cls = RX3 ∧ yX3_init.cls ≠ "java/lang/invoke/MethodHandle" ∧ yX3_init.cls ≠ "java/lang/invoke/VarHandle" ∧ (parseMethodDescriptor yX3_init.desc).map (fun d => d.parameters.length) = some 0 := by decide +kernel
def wsX3_add : List Cond := Cond.code yX3_add cX3_add 6 none :: ed_ws
theorem hd_X3_add : yX3_add.cls = RX3 ∧ yX3_add.cls ≠ "java/lang/invoke/MethodHandle" ∧ yX3_add.cls ≠ "java/lang/invoke/VarHandle" ∧ (parseMethodDescriptor yX3_add.desc).map (fun d => d.parameters.length) = some 4 := by decide +kernel
def wsX3_part : List Cond := Cond.code yX3_part cX3_part 4 (some .int) :: ed_ws
theorem hd_X3_part : yX3_part.cls = RX3 ∧ yX3_part.cls ≠ "java/lang/invoke/MethodHandle" ∧ yX3_part.cls ≠ "java/lang/invoke/VarHandle" ∧ (parseMethodDescriptor yX3_part.desc).map (fun d => d.parameters.length) = some 2 := by decide +kernel
def wsX3_copyFrom : List Cond := Cond.code yX3_copyFrom cX3_copyFrom 2 none :: ed_ws
theorem hd_X3_copyFrom : yX3_copyFrom.cls = RX3 ∧ yX3_copyFrom.cls ≠ "java/lang/invoke/MethodHandle" ∧ yX3_copyFrom.cls ≠ "java/lang/invoke/VarHandle" ∧ (parseMethodDescriptor yX3_copyFrom.desc).map (fun d => d.parameters.length) = some 1 := by decide +kernel
def wsX4_init : List Cond := Cond.code yX4_init cX4_init 1 none :: ed_ws
theorem hn_X4_init : yX4_init.cls ≠ "java/lang/invoke/MethodHandle" ∧ yX4_init.cls ≠ "java/lang/invoke/VarHandle" ∧ (parseMethodDescriptor yX4_init.desc).map (fun d => d.parameters.length) = some 0 := by decide +kernel
theorem hd_X4_init : yX4_init.cls = RX4 ∧ yX4_init.cls ≠ "java/lang/invoke/MethodHandle" ∧ yX4_init.cls ≠ "java/lang/invoke/VarHandle" ∧ (parseMethodDescriptor yX4_init.desc).map (fun d => d.parameters.length) = some 0 := by decide +kernel
def wsX4_addShare : List Cond := Cond.code yX4_addShare cX4_addShare 2 none :: ed_ws
theorem hd_X4_addShare : yX4_addShare.cls = RX4 ∧ yX4_addShare.cls ≠ "java/lang/invoke/MethodHandle" ∧ yX4_addShare.cls ≠ "java/lang/invoke/VarHandle" ∧ (parseMethodDescriptor yX4_addShare.desc).map (fun d => d.parameters.length) = some 1 := by decide +kernel
def wsX5_init : List Cond := Cond.code yX5_init cX5_init 2 none :: ed_ws
theorem hn_X5_init : yX5_init.cls ≠ "java/lang/invoke/MethodHandle" ∧ yX5_init.cls ≠ "java/lang/invoke/VarHandle" ∧ (parseMethodDescriptor yX5_init.desc).map (fun d => d.parameters.length) = some 0 := by decide +kernel
theorem hd_X5_init : yX5_init.cls = RX5 ∧ yX5_init.cls ≠ "java/lang/invoke/MethodHandle" ∧ yX5_init.cls ≠ "java/lang/invoke/VarHandle" ∧ (parseMethodDescriptor yX5_init.desc).map (fun d => d.parameters.length) = some 0 := by decide +kernel
def wsX5_copyFrom : List Cond := Cond.code yX5_copyFrom cX5_copyFrom 2 none :: ed_ws
theorem hd_X5_copyFrom : yX5_copyFrom.cls = RX5 ∧ yX5_copyFrom.cls ≠ "java/lang/invoke/MethodHandle" ∧ yX5_copyFrom.cls ≠ "java/lang/invoke/VarHandle" ∧ (parseMethodDescriptor yX5_copyFrom.desc).map (fun d => d.parameters.length) = some 1 := by decide +kernel
def wsX5_copyStories : List Cond := Cond.code yX5_copyStories cX5_copyStories 5 none :: ed_ws
theorem hd_X5_copyStories : yX5_copyStories.cls = RX5 ∧ yX5_copyStories.cls ≠ "java/lang/invoke/MethodHandle" ∧ yX5_copyStories.cls ≠ "java/lang/invoke/VarHandle" ∧ (parseMethodDescriptor yX5_copyStories.desc).map (fun d => d.parameters.length) = some 1 := by decide +kernel
def wsX5_copyClients : List Cond := Cond.code yX5_copyClients cX5_copyClients 5 none :: ed_ws
theorem hd_X5_copyClients : yX5_copyClients.cls = RX5 ∧ yX5_copyClients.cls ≠ "java/lang/invoke/MethodHandle" ∧ yX5_copyClients.cls ≠ "java/lang/invoke/VarHandle" ∧ (parseMethodDescriptor yX5_copyClients.desc).map (fun d => d.parameters.length) = some 1 := by decide +kernel
def wsX5_copyCopies : List Cond := Cond.code yX5_copyCopies cX5_copyCopies 5 none :: ed_ws
theorem hd_X5_copyCopies : yX5_copyCopies.cls = RX5 ∧ yX5_copyCopies.cls ≠ "java/lang/invoke/MethodHandle" ∧ yX5_copyCopies.cls ≠ "java/lang/invoke/VarHandle" ∧ (parseMethodDescriptor yX5_copyCopies.desc).map (fun d => d.parameters.length) = some 1 := by decide +kernel
def wsX5_copyPersons : List Cond := Cond.code yX5_copyPersons cX5_copyPersons 5 none :: ed_ws
theorem hd_X5_copyPersons : yX5_copyPersons.cls = RX5 ∧ yX5_copyPersons.cls ≠ "java/lang/invoke/MethodHandle" ∧ yX5_copyPersons.cls ≠ "java/lang/invoke/VarHandle" ∧ (parseMethodDescriptor yX5_copyPersons.desc).map (fun d => d.parameters.length) = some 1 := by decide +kernel
def wsX5_storyAt : List Cond := Cond.code yX5_storyAt cX5_storyAt 2 (some (.object "EmbargoDesk$Story")) :: ed_ws
theorem hd_X5_storyAt : yX5_storyAt.cls = RX5 ∧ yX5_storyAt.cls ≠ "java/lang/invoke/MethodHandle" ∧ yX5_storyAt.cls ≠ "java/lang/invoke/VarHandle" ∧ (parseMethodDescriptor yX5_storyAt.desc).map (fun d => d.parameters.length) = some 1 := by decide +kernel
def wsX5_clientAt : List Cond := Cond.code yX5_clientAt cX5_clientAt 2 (some (.object "EmbargoDesk$Client")) :: ed_ws
theorem hd_X5_clientAt : yX5_clientAt.cls = RX5 ∧ yX5_clientAt.cls ≠ "java/lang/invoke/MethodHandle" ∧ yX5_clientAt.cls ≠ "java/lang/invoke/VarHandle" ∧ (parseMethodDescriptor yX5_clientAt.desc).map (fun d => d.parameters.length) = some 1 := by decide +kernel
def wsX5_copyMade : List Cond := Cond.code yX5_copyMade cX5_copyMade 2 (some (.object "EmbargoDesk$Copy")) :: ed_ws
theorem hd_X5_copyMade : yX5_copyMade.cls = RX5 ∧ yX5_copyMade.cls ≠ "java/lang/invoke/MethodHandle" ∧ yX5_copyMade.cls ≠ "java/lang/invoke/VarHandle" ∧ (parseMethodDescriptor yX5_copyMade.desc).map (fun d => d.parameters.length) = some 1 := by decide +kernel
def wsX5_personAt : List Cond := Cond.code yX5_personAt cX5_personAt 2 (some (.object "EmbargoDesk$Person")) :: ed_ws
theorem hd_X5_personAt : yX5_personAt.cls = RX5 ∧ yX5_personAt.cls ≠ "java/lang/invoke/MethodHandle" ∧ yX5_personAt.cls ≠ "java/lang/invoke/VarHandle" ∧ (parseMethodDescriptor yX5_personAt.desc).map (fun d => d.parameters.length) = some 1 := by decide +kernel
def wsX5_copyFor : List Cond := Cond.code yX5_copyFor cX5_copyFor 5 (some (.object "EmbargoDesk$Copy")) :: ed_ws
theorem hd_X5_copyFor : yX5_copyFor.cls = RX5 ∧ yX5_copyFor.cls ≠ "java/lang/invoke/MethodHandle" ∧ yX5_copyFor.cls ≠ "java/lang/invoke/VarHandle" ∧ (parseMethodDescriptor yX5_copyFor.desc).map (fun d => d.parameters.length) = some 2 := by decide +kernel
def wsX5_passHour : List Cond := Cond.code yX5_passHour cX5_passHour 3 none :: ed_ws
theorem hd_X5_passHour : yX5_passHour.cls = RX5 ∧ yX5_passHour.cls ≠ "java/lang/invoke/MethodHandle" ∧ yX5_passHour.cls ≠ "java/lang/invoke/VarHandle" ∧ (parseMethodDescriptor yX5_passHour.desc).map (fun d => d.parameters.length) = some 0 := by decide +kernel
def wsX5_startDay : List Cond := Cond.code yX5_startDay cX5_startDay 3 none :: ed_ws
theorem hd_X5_startDay : yX5_startDay.cls = RX5 ∧ yX5_startDay.cls ≠ "java/lang/invoke/MethodHandle" ∧ yX5_startDay.cls ≠ "java/lang/invoke/VarHandle" ∧ (parseMethodDescriptor yX5_startDay.desc).map (fun d => d.parameters.length) = some 0 := by decide +kernel
def wsX5_publish : List Cond := Cond.code yX5_publish cX5_publish 5 none :: ed_ws
theorem hd_X5_publish : yX5_publish.cls = RX5 ∧ yX5_publish.cls ≠ "java/lang/invoke/MethodHandle" ∧ yX5_publish.cls ≠ "java/lang/invoke/VarHandle" ∧ (parseMethodDescriptor yX5_publish.desc).map (fun d => d.parameters.length) = some 2 := by decide +kernel
def wsX5_planCopy : List Cond := Cond.code yX5_planCopy cX5_planCopy 5 none :: ed_ws
theorem hd_X5_planCopy : yX5_planCopy.cls = RX5 ∧ yX5_planCopy.cls ≠ "java/lang/invoke/MethodHandle" ∧ yX5_planCopy.cls ≠ "java/lang/invoke/VarHandle" ∧ (parseMethodDescriptor yX5_planCopy.desc).map (fun d => d.parameters.length) = some 3 := by decide +kernel
def wsX5_moveOn : List Cond := Cond.code yX5_moveOn cX5_moveOn 4 none :: ed_ws
theorem hd_X5_moveOn : yX5_moveOn.cls = RX5 ∧ yX5_moveOn.cls ≠ "java/lang/invoke/MethodHandle" ∧ yX5_moveOn.cls ≠ "java/lang/invoke/VarHandle" ∧ (parseMethodDescriptor yX5_moveOn.desc).map (fun d => d.parameters.length) = some 1 := by decide +kernel
def wsX5_startUse : List Cond := Cond.code yX5_startUse cX5_startUse 4 none :: ed_ws
theorem hd_X5_startUse : yX5_startUse.cls = RX5 ∧ yX5_startUse.cls ≠ "java/lang/invoke/MethodHandle" ∧ yX5_startUse.cls ≠ "java/lang/invoke/VarHandle" ∧ (parseMethodDescriptor yX5_startUse.desc).map (fun d => d.parameters.length) = some 3 := by decide +kernel
def wsX5_bill : List Cond := Cond.code yX5_bill cX5_bill 7 none :: ed_ws
theorem hd_X5_bill : yX5_bill.cls = RX5 ∧ yX5_bill.cls ≠ "java/lang/invoke/MethodHandle" ∧ yX5_bill.cls ≠ "java/lang/invoke/VarHandle" ∧ (parseMethodDescriptor yX5_bill.desc).map (fun d => d.parameters.length) = some 2 := by decide +kernel
def wsX5_reach : List Cond := Cond.code yX5_reach cX5_reach 5 none :: ed_ws
theorem hd_X5_reach : yX5_reach.cls = RX5 ∧ yX5_reach.cls ≠ "java/lang/invoke/MethodHandle" ∧ yX5_reach.cls ≠ "java/lang/invoke/VarHandle" ∧ (parseMethodDescriptor yX5_reach.desc).map (fun d => d.parameters.length) = some 2 := by decide +kernel
def wsX5_correctionsMissing : List Cond := Cond.code yX5_correctionsMissing cX5_correctionsMissing 3 (some .int) :: ed_ws
theorem hd_X5_correctionsMissing : yX5_correctionsMissing.cls = RX5 ∧ yX5_correctionsMissing.cls ≠ "java/lang/invoke/MethodHandle" ∧ yX5_correctionsMissing.cls ≠ "java/lang/invoke/VarHandle" ∧ (parseMethodDescriptor yX5_correctionsMissing.desc).map (fun d => d.parameters.length) = some 1 := by decide +kernel
def wsX5_correctionsDue : List Cond := Cond.code yX5_correctionsDue cX5_correctionsDue 6 (some .int) :: ed_ws
theorem hd_X5_correctionsDue : yX5_correctionsDue.cls = RX5 ∧ yX5_correctionsDue.cls ≠ "java/lang/invoke/MethodHandle" ∧ yX5_correctionsDue.cls ≠ "java/lang/invoke/VarHandle" ∧ (parseMethodDescriptor yX5_correctionsDue.desc).map (fun d => d.parameters.length) = some 1 := by decide +kernel
def wsX5_nextCorrectionAt : List Cond := Cond.code yX5_nextCorrectionAt cX5_nextCorrectionAt 4 (some .int) :: ed_ws
theorem hd_X5_nextCorrectionAt : yX5_nextCorrectionAt.cls = RX5 ∧ yX5_nextCorrectionAt.cls ≠ "java/lang/invoke/MethodHandle" ∧ yX5_nextCorrectionAt.cls ≠ "java/lang/invoke/VarHandle" ∧ (parseMethodDescriptor yX5_nextCorrectionAt.desc).map (fun d => d.parameters.length) = some 1 := by decide +kernel
def wsX5_killNoticeAt : List Cond := Cond.code yX5_killNoticeAt cX5_killNoticeAt 4 (some .int) :: ed_ws
theorem hd_X5_killNoticeAt : yX5_killNoticeAt.cls = RX5 ∧ yX5_killNoticeAt.cls ≠ "java/lang/invoke/MethodHandle" ∧ yX5_killNoticeAt.cls ≠ "java/lang/invoke/VarHandle" ∧ (parseMethodDescriptor yX5_killNoticeAt.desc).map (fun d => d.parameters.length) = some 1 := by decide +kernel
def wsX5_useEndsAt : List Cond := Cond.code yX5_useEndsAt cX5_useEndsAt 2 (some .int) :: ed_ws
theorem hd_X5_useEndsAt : yX5_useEndsAt.cls = RX5 ∧ yX5_useEndsAt.cls ≠ "java/lang/invoke/MethodHandle" ∧ yX5_useEndsAt.cls ≠ "java/lang/invoke/VarHandle" ∧ (parseMethodDescriptor yX5_useEndsAt.desc).map (fun d => d.parameters.length) = some 1 := by decide +kernel
def wsX5_clientsFor : List Cond := Cond.code yX5_clientsFor cX5_clientsFor 5 (some .int) :: ed_ws
theorem hd_X5_clientsFor : yX5_clientsFor.cls = RX5 ∧ yX5_clientsFor.cls ≠ "java/lang/invoke/MethodHandle" ∧ yX5_clientsFor.cls ≠ "java/lang/invoke/VarHandle" ∧ (parseMethodDescriptor yX5_clientsFor.desc).map (fun d => d.parameters.length) = some 1 := by decide +kernel
def wsX5_copiesThatCame : List Cond := Cond.code yX5_copiesThatCame cX5_copiesThatCame 4 (some .int) :: ed_ws
theorem hd_X5_copiesThatCame : yX5_copiesThatCame.cls = RX5 ∧ yX5_copiesThatCame.cls ≠ "java/lang/invoke/MethodHandle" ∧ yX5_copiesThatCame.cls ≠ "java/lang/invoke/VarHandle" ∧ (parseMethodDescriptor yX5_copiesThatCame.desc).map (fun d => d.parameters.length) = some 0 := by decide +kernel
def wsX5_copiesOf : List Cond := Cond.code yX5_copiesOf cX5_copiesOf 7 (some .int) :: ed_ws
theorem hd_X5_copiesOf : yX5_copiesOf.cls = RX5 ∧ yX5_copiesOf.cls ≠ "java/lang/invoke/MethodHandle" ∧ yX5_copiesOf.cls ≠ "java/lang/invoke/VarHandle" ∧ (parseMethodDescriptor yX5_copiesOf.desc).map (fun d => d.parameters.length) = some 3 := by decide +kernel
def wsX5_fits : List Cond := Cond.code yX5_fits cX5_fits 2 (some .boolean) :: ed_ws
theorem hd_X5_fits : yX5_fits.cls = RX5 ∧ yX5_fits.cls ≠ "java/lang/invoke/MethodHandle" ∧ yX5_fits.cls ≠ "java/lang/invoke/VarHandle" ∧ (parseMethodDescriptor yX5_fits.desc).map (fun d => d.parameters.length) = some 2 := by decide +kernel
def wsX5_upToDateCopies : List Cond := Cond.code yX5_upToDateCopies cX5_upToDateCopies 5 (some .int) :: ed_ws
theorem hd_X5_upToDateCopies : yX5_upToDateCopies.cls = RX5 ∧ yX5_upToDateCopies.cls ≠ "java/lang/invoke/MethodHandle" ∧ yX5_upToDateCopies.cls ≠ "java/lang/invoke/VarHandle" ∧ (parseMethodDescriptor yX5_upToDateCopies.desc).map (fun d => d.parameters.length) = some 1 := by decide +kernel
def wsX5_copiesWithCorrectionsDue : List Cond := Cond.code yX5_copiesWithCorrectionsDue cX5_copiesWithCorrectionsDue 4 (some .int) :: ed_ws
theorem hd_X5_copiesWithCorrectionsDue : yX5_copiesWithCorrectionsDue.cls = RX5 ∧ yX5_copiesWithCorrectionsDue.cls ≠ "java/lang/invoke/MethodHandle" ∧ yX5_copiesWithCorrectionsDue.cls ≠ "java/lang/invoke/VarHandle" ∧ (parseMethodDescriptor yX5_copiesWithCorrectionsDue.desc).map (fun d => d.parameters.length) = some 0 := by decide +kernel
def wsX5_storiesBy : List Cond := Cond.code yX5_storiesBy cX5_storiesBy 5 (some .int) :: ed_ws
theorem hd_X5_storiesBy : yX5_storiesBy.cls = RX5 ∧ yX5_storiesBy.cls ≠ "java/lang/invoke/MethodHandle" ∧ yX5_storiesBy.cls ≠ "java/lang/invoke/VarHandle" ∧ (parseMethodDescriptor yX5_storiesBy.desc).map (fun d => d.parameters.length) = some 1 := by decide +kernel
def wsX5_copiesInUseBy : List Cond := Cond.code yX5_copiesInUseBy cX5_copiesInUseBy 5 (some .int) :: ed_ws
theorem hd_X5_copiesInUseBy : yX5_copiesInUseBy.cls = RX5 ∧ yX5_copiesInUseBy.cls ≠ "java/lang/invoke/MethodHandle" ∧ yX5_copiesInUseBy.cls ≠ "java/lang/invoke/VarHandle" ∧ (parseMethodDescriptor yX5_copiesInUseBy.desc).map (fun d => d.parameters.length) = some 1 := by decide +kernel
def wsX5_authors : List Cond := Cond.code yX5_authors cX5_authors 3 (some .int) :: ed_ws
theorem hd_X5_authors : yX5_authors.cls = RX5 ∧ yX5_authors.cls ≠ "java/lang/invoke/MethodHandle" ∧ yX5_authors.cls ≠ "java/lang/invoke/VarHandle" ∧ (parseMethodDescriptor yX5_authors.desc).map (fun d => d.parameters.length) = some 0 := by decide +kernel
def wsX6_init : List Cond := Cond.code yX6_init cX6_init 1 none :: ed_ws
theorem hn_X6_init : yX6_init.cls ≠ "java/lang/invoke/MethodHandle" ∧ yX6_init.cls ≠ "java/lang/invoke/VarHandle" ∧ (parseMethodDescriptor yX6_init.desc).map (fun d => d.parameters.length) = some 0 := by decide +kernel
theorem hd_X6_init : yX6_init.cls = RX6 ∧ yX6_init.cls ≠ "java/lang/invoke/MethodHandle" ∧ yX6_init.cls ≠ "java/lang/invoke/VarHandle" ∧ (parseMethodDescriptor yX6_init.desc).map (fun d => d.parameters.length) = some 0 := by decide +kernel
def wsX6_begin : List Cond := Cond.code yX6_begin cX6_begin 2 none :: ed_ws
theorem hd_X6_begin : yX6_begin.cls = RX6 ∧ yX6_begin.cls ≠ "java/lang/invoke/MethodHandle" ∧ yX6_begin.cls ≠ "java/lang/invoke/VarHandle" ∧ (parseMethodDescriptor yX6_begin.desc).map (fun d => d.parameters.length) = some 1 := by decide +kernel
def wsX6_copyFrom : List Cond := Cond.code yX6_copyFrom cX6_copyFrom 2 none :: ed_ws
theorem hd_X6_copyFrom : yX6_copyFrom.cls = RX6 ∧ yX6_copyFrom.cls ≠ "java/lang/invoke/MethodHandle" ∧ yX6_copyFrom.cls ≠ "java/lang/invoke/VarHandle" ∧ (parseMethodDescriptor yX6_copyFrom.desc).map (fun d => d.parameters.length) = some 1 := by decide +kernel
def wsX6_addCorrection : List Cond := Cond.code yX6_addCorrection cX6_addCorrection 2 none :: ed_ws
theorem hd_X6_addCorrection : yX6_addCorrection.cls = RX6 ∧ yX6_addCorrection.cls ≠ "java/lang/invoke/MethodHandle" ∧ yX6_addCorrection.cls ≠ "java/lang/invoke/VarHandle" ∧ (parseMethodDescriptor yX6_addCorrection.desc).map (fun d => d.parameters.length) = some 1 := by decide +kernel
def wsX6_authorAt : List Cond := Cond.code yX6_authorAt cX6_authorAt 2 (some .int) :: ed_ws
theorem hd_X6_authorAt : yX6_authorAt.cls = RX6 ∧ yX6_authorAt.cls ≠ "java/lang/invoke/MethodHandle" ∧ yX6_authorAt.cls ≠ "java/lang/invoke/VarHandle" ∧ (parseMethodDescriptor yX6_authorAt.desc).map (fun d => d.parameters.length) = some 1 := by decide +kernel
def wsX6_letterAt : List Cond := Cond.code yX6_letterAt cX6_letterAt 2 (some .int) :: ed_ws
theorem hd_X6_letterAt : yX6_letterAt.cls = RX6 ∧ yX6_letterAt.cls ≠ "java/lang/invoke/MethodHandle" ∧ yX6_letterAt.cls ≠ "java/lang/invoke/VarHandle" ∧ (parseMethodDescriptor yX6_letterAt.desc).map (fun d => d.parameters.length) = some 1 := by decide +kernel
def wsX6_correctedAt : List Cond := Cond.code yX6_correctedAt cX6_correctedAt 2 (some .int) :: ed_ws
theorem hd_X6_correctedAt : yX6_correctedAt.cls = RX6 ∧ yX6_correctedAt.cls ≠ "java/lang/invoke/MethodHandle" ∧ yX6_correctedAt.cls ≠ "java/lang/invoke/VarHandle" ∧ (parseMethodDescriptor yX6_correctedAt.desc).map (fun d => d.parameters.length) = some 1 := by decide +kernel
def wsX6_isBy : List Cond := Cond.code yX6_isBy cX6_isBy 3 (some .boolean) :: ed_ws
theorem hd_X6_isBy : yX6_isBy.cls = RX6 ∧ yX6_isBy.cls ≠ "java/lang/invoke/MethodHandle" ∧ yX6_isBy.cls ≠ "java/lang/invoke/VarHandle" ∧ (parseMethodDescriptor yX6_isBy.desc).map (fun d => d.parameters.length) = some 1 := by decide +kernel
def wsX7_init : List Cond := Cond.code yX7_init cX7_init 1 none :: ed_ws
theorem hn_X7_init : yX7_init.cls ≠ "java/lang/invoke/MethodHandle" ∧ yX7_init.cls ≠ "java/lang/invoke/VarHandle" ∧ (parseMethodDescriptor yX7_init.desc).map (fun d => d.parameters.length) = some 0 := by decide +kernel
theorem hd_X7_init : yX7_init.cls = RX7 ∧ yX7_init.cls ≠ "java/lang/invoke/MethodHandle" ∧ yX7_init.cls ≠ "java/lang/invoke/VarHandle" ∧ (parseMethodDescriptor yX7_init.desc).map (fun d => d.parameters.length) = some 0 := by decide +kernel
def wsX7_add : List Cond := Cond.code yX7_add cX7_add 2 none :: ed_ws
theorem hd_X7_add : yX7_add.cls = RX7 ∧ yX7_add.cls ≠ "java/lang/invoke/MethodHandle" ∧ yX7_add.cls ≠ "java/lang/invoke/VarHandle" ∧ (parseMethodDescriptor yX7_add.desc).map (fun d => d.parameters.length) = some 1 := by decide +kernel
def wsX7_parse : List Cond := Cond.code yX7_parse cX7_parse 2 (some .int) :: ed_ws
theorem hd_X7_parse : yX7_parse.cls = RX7 ∧ yX7_parse.cls ≠ "java/lang/invoke/MethodHandle" ∧ yX7_parse.cls ≠ "java/lang/invoke/VarHandle" ∧ (parseMethodDescriptor yX7_parse.desc).map (fun d => d.parameters.length) = some 0 := by decide +kernel
def wsX7_sign : List Cond := Cond.code yX7_sign cX7_sign 1 (some .int) :: ed_ws
theorem hd_X7_sign : yX7_sign.cls = RX7 ∧ yX7_sign.cls ≠ "java/lang/invoke/MethodHandle" ∧ yX7_sign.cls ≠ "java/lang/invoke/VarHandle" ∧ (parseMethodDescriptor yX7_sign.desc).map (fun d => d.parameters.length) = some 0 := by decide +kernel
def wsX7_digit : List Cond := Cond.code yX7_digit cX7_digit 1 (some .int) :: ed_ws
theorem hd_X7_digit : yX7_digit.cls = RX7 ∧ yX7_digit.cls ≠ "java/lang/invoke/MethodHandle" ∧ yX7_digit.cls ≠ "java/lang/invoke/VarHandle" ∧ (parseMethodDescriptor yX7_digit.desc).map (fun d => d.parameters.length) = some 0 := by decide +kernel
def wsX7_readSign : List Cond := Cond.code yX7_readSign cX7_readSign 2 (some .boolean) :: ed_ws
theorem hd_X7_readSign : yX7_readSign.cls = RX7 ∧ yX7_readSign.cls ≠ "java/lang/invoke/MethodHandle" ∧ yX7_readSign.cls ≠ "java/lang/invoke/VarHandle" ∧ (parseMethodDescriptor yX7_readSign.desc).map (fun d => d.parameters.length) = some 1 := by decide +kernel
def wsX7_readTopic : List Cond := Cond.code yX7_readTopic cX7_readTopic 1 (some .boolean) :: ed_ws
theorem hd_X7_readTopic : yX7_readTopic.cls = RX7 ∧ yX7_readTopic.cls ≠ "java/lang/invoke/MethodHandle" ∧ yX7_readTopic.cls ≠ "java/lang/invoke/VarHandle" ∧ (parseMethodDescriptor yX7_readTopic.desc).map (fun d => d.parameters.length) = some 0 := by decide +kernel
def wsX7_readByline : List Cond := Cond.code yX7_readByline cX7_readByline 2 (some .boolean) :: ed_ws
theorem hd_X7_readByline : yX7_readByline.cls = RX7 ∧ yX7_readByline.cls ≠ "java/lang/invoke/MethodHandle" ∧ yX7_readByline.cls ≠ "java/lang/invoke/VarHandle" ∧ (parseMethodDescriptor yX7_readByline.desc).map (fun d => d.parameters.length) = some 0 := by decide +kernel
def wsX7_readPerson : List Cond := Cond.code yX7_readPerson cX7_readPerson 2 (some .boolean) :: ed_ws
theorem hd_X7_readPerson : yX7_readPerson.cls = RX7 ∧ yX7_readPerson.cls ≠ "java/lang/invoke/MethodHandle" ∧ yX7_readPerson.cls ≠ "java/lang/invoke/VarHandle" ∧ (parseMethodDescriptor yX7_readPerson.desc).map (fun d => d.parameters.length) = some 0 := by decide +kernel
def wsX7_isInByline : List Cond := Cond.code yX7_isInByline cX7_isInByline 3 (some .boolean) :: ed_ws
theorem hd_X7_isInByline : yX7_isInByline.cls = RX7 ∧ yX7_isInByline.cls ≠ "java/lang/invoke/MethodHandle" ∧ yX7_isInByline.cls ≠ "java/lang/invoke/VarHandle" ∧ (parseMethodDescriptor yX7_isInByline.desc).map (fun d => d.parameters.length) = some 1 := by decide +kernel
def wsX7_readEmbargo : List Cond := Cond.code yX7_readEmbargo cX7_readEmbargo 2 (some .boolean) :: ed_ws
theorem hd_X7_readEmbargo : yX7_readEmbargo.cls = RX7 ∧ yX7_readEmbargo.cls ≠ "java/lang/invoke/MethodHandle" ∧ yX7_readEmbargo.cls ≠ "java/lang/invoke/VarHandle" ∧ (parseMethodDescriptor yX7_readEmbargo.desc).map (fun d => d.parameters.length) = some 0 := by decide +kernel
def wsX7_readSlug : List Cond := Cond.code yX7_readSlug cX7_readSlug 2 (some .boolean) :: ed_ws
theorem hd_X7_readSlug : yX7_readSlug.cls = RX7 ∧ yX7_readSlug.cls ≠ "java/lang/invoke/MethodHandle" ∧ yX7_readSlug.cls ≠ "java/lang/invoke/VarHandle" ∧ (parseMethodDescriptor yX7_readSlug.desc).map (fun d => d.parameters.length) = some 0 := by decide +kernel
def wsX8_init : List Cond := Cond.code yX8_init cX8_init 1 none :: ed_ws
theorem hn_X8_init : yX8_init.cls ≠ "java/lang/invoke/MethodHandle" ∧ yX8_init.cls ≠ "java/lang/invoke/VarHandle" ∧ (parseMethodDescriptor yX8_init.desc).map (fun d => d.parameters.length) = some 0 := by decide +kernel
theorem hd_X8_init : yX8_init.cls = RX8 ∧ yX8_init.cls ≠ "java/lang/invoke/MethodHandle" ∧ yX8_init.cls ≠ "java/lang/invoke/VarHandle" ∧ (parseMethodDescriptor yX8_init.desc).map (fun d => d.parameters.length) = some 0 := by decide +kernel
def wsX8_addClient : List Cond := Cond.code yX8_addClient cX8_addClient 8 (some .int) :: ed_ws
theorem hd_X8_addClient : yX8_addClient.cls = RX8 ∧ yX8_addClient.cls ≠ "java/lang/invoke/MethodHandle" ∧ yX8_addClient.cls ≠ "java/lang/invoke/VarHandle" ∧ (parseMethodDescriptor yX8_addClient.desc).map (fun d => d.parameters.length) = some 5 := by decide +kernel
def wsX8_setTopics : List Cond := Cond.code yX8_setTopics cX8_setTopics 5 (some .int) :: ed_ws
theorem hd_X8_setTopics : yX8_setTopics.cls = RX8 ∧ yX8_setTopics.cls ≠ "java/lang/invoke/MethodHandle" ∧ yX8_setTopics.cls ≠ "java/lang/invoke/VarHandle" ∧ (parseMethodDescriptor yX8_setTopics.desc).map (fun d => d.parameters.length) = some 2 := by decide +kernel
def wsX8_setUp : List Cond := Cond.code yX8_setUp cX8_setUp 4 (some .int) :: ed_ws
theorem hd_X8_setUp : yX8_setUp.cls = RX8 ∧ yX8_setUp.cls ≠ "java/lang/invoke/MethodHandle" ∧ yX8_setUp.cls ≠ "java/lang/invoke/VarHandle" ∧ (parseMethodDescriptor yX8_setUp.desc).map (fun d => d.parameters.length) = some 2 := by decide +kernel
def wsX8_setUse : List Cond := Cond.code yX8_setUse cX8_setUse 3 (some .int) :: ed_ws
theorem hd_X8_setUse : yX8_setUse.cls = RX8 ∧ yX8_setUse.cls ≠ "java/lang/invoke/MethodHandle" ∧ yX8_setUse.cls ≠ "java/lang/invoke/VarHandle" ∧ (parseMethodDescriptor yX8_setUse.desc).map (fun d => d.parameters.length) = some 1 := by decide +kernel
def wsX8_pay : List Cond := Cond.code yX8_pay cX8_pay 4 (some .int) :: ed_ws
theorem hd_X8_pay : yX8_pay.cls = RX8 ∧ yX8_pay.cls ≠ "java/lang/invoke/MethodHandle" ∧ yX8_pay.cls ≠ "java/lang/invoke/VarHandle" ∧ (parseMethodDescriptor yX8_pay.desc).map (fun d => d.parameters.length) = some 2 := by decide +kernel
def wsX8_readStory : List Cond := Cond.code yX8_readStory cX8_readStory 4 (some .int) :: ed_ws
theorem hd_X8_readStory : yX8_readStory.cls = RX8 ∧ yX8_readStory.cls ≠ "java/lang/invoke/MethodHandle" ∧ yX8_readStory.cls ≠ "java/lang/invoke/VarHandle" ∧ (parseMethodDescriptor yX8_readStory.desc).map (fun d => d.parameters.length) = some 0 := by decide +kernel
def wsX8_release : List Cond := Cond.code yX8_release cX8_release 3 (some .int) :: ed_ws
theorem hd_X8_release : yX8_release.cls = RX8 ∧ yX8_release.cls ≠ "java/lang/invoke/MethodHandle" ∧ yX8_release.cls ≠ "java/lang/invoke/VarHandle" ∧ (parseMethodDescriptor yX8_release.desc).map (fun d => d.parameters.length) = some 1 := by decide +kernel
def wsX8_hold : List Cond := Cond.code yX8_hold cX8_hold 3 (some .int) :: ed_ws
theorem hd_X8_hold : yX8_hold.cls = RX8 ∧ yX8_hold.cls ≠ "java/lang/invoke/MethodHandle" ∧ yX8_hold.cls ≠ "java/lang/invoke/VarHandle" ∧ (parseMethodDescriptor yX8_hold.desc).map (fun d => d.parameters.length) = some 1 := by decide +kernel
def wsX8_setEmbargo : List Cond := Cond.code yX8_setEmbargo cX8_setEmbargo 5 (some .int) :: ed_ws
theorem hd_X8_setEmbargo : yX8_setEmbargo.cls = RX8 ∧ yX8_setEmbargo.cls ≠ "java/lang/invoke/MethodHandle" ∧ yX8_setEmbargo.cls ≠ "java/lang/invoke/VarHandle" ∧ (parseMethodDescriptor yX8_setEmbargo.desc).map (fun d => d.parameters.length) = some 2 := by decide +kernel
def wsX8_correct : List Cond := Cond.code yX8_correct cX8_correct 3 (some .int) :: ed_ws
theorem hd_X8_correct : yX8_correct.cls = RX8 ∧ yX8_correct.cls ≠ "java/lang/invoke/MethodHandle" ∧ yX8_correct.cls ≠ "java/lang/invoke/VarHandle" ∧ (parseMethodDescriptor yX8_correct.desc).map (fun d => d.parameters.length) = some 1 := by decide +kernel
def wsX8_kill : List Cond := Cond.code yX8_kill cX8_kill 3 (some .int) :: ed_ws
theorem hd_X8_kill : yX8_kill.cls = RX8 ∧ yX8_kill.cls ≠ "java/lang/invoke/MethodHandle" ∧ yX8_kill.cls ≠ "java/lang/invoke/VarHandle" ∧ (parseMethodDescriptor yX8_kill.desc).map (fun d => d.parameters.length) = some 1 := by decide +kernel
def wsX8_pass : List Cond := Cond.code yX8_pass cX8_pass 4 (some .int) :: ed_ws
theorem hd_X8_pass : yX8_pass.cls = RX8 ∧ yX8_pass.cls ≠ "java/lang/invoke/MethodHandle" ∧ yX8_pass.cls ≠ "java/lang/invoke/VarHandle" ∧ (parseMethodDescriptor yX8_pass.desc).map (fun d => d.parameters.length) = some 1 := by decide +kernel
def wsX8_type : List Cond := Cond.code yX8_type cX8_type 2 (some .int) :: ed_ws
theorem hd_X8_type : yX8_type.cls = RX8 ∧ yX8_type.cls ≠ "java/lang/invoke/MethodHandle" ∧ yX8_type.cls ≠ "java/lang/invoke/VarHandle" ∧ (parseMethodDescriptor yX8_type.desc).map (fun d => d.parameters.length) = some 1 := by decide +kernel
def wsX8_clearText : List Cond := Cond.code yX8_clearText cX8_clearText 2 (some .int) :: ed_ws
theorem hd_X8_clearText : yX8_clearText.cls = RX8 ∧ yX8_clearText.cls ≠ "java/lang/invoke/MethodHandle" ∧ yX8_clearText.cls ≠ "java/lang/invoke/VarHandle" ∧ (parseMethodDescriptor yX8_clearText.desc).map (fun d => d.parameters.length) = some 0 := by decide +kernel
def wsX8_undo : List Cond := Cond.code yX8_undo cX8_undo 1 (some .int) :: ed_ws
theorem hd_X8_undo : yX8_undo.cls = RX8 ∧ yX8_undo.cls ≠ "java/lang/invoke/MethodHandle" ∧ yX8_undo.cls ≠ "java/lang/invoke/VarHandle" ∧ (parseMethodDescriptor yX8_undo.desc).map (fun d => d.parameters.length) = some 0 := by decide +kernel
def wsX8_keep : List Cond := Cond.code yX8_keep cX8_keep 1 (some .int) :: ed_ws
theorem hd_X8_keep : yX8_keep.cls = RX8 ∧ yX8_keep.cls ≠ "java/lang/invoke/MethodHandle" ∧ yX8_keep.cls ≠ "java/lang/invoke/VarHandle" ∧ (parseMethodDescriptor yX8_keep.desc).map (fun d => d.parameters.length) = some 0 := by decide +kernel
def wsX8_restore : List Cond := Cond.code yX8_restore cX8_restore 1 (some .int) :: ed_ws
theorem hd_X8_restore : yX8_restore.cls = RX8 ∧ yX8_restore.cls ≠ "java/lang/invoke/MethodHandle" ∧ yX8_restore.cls ≠ "java/lang/invoke/VarHandle" ∧ (parseMethodDescriptor yX8_restore.desc).map (fun d => d.parameters.length) = some 0 := by decide +kernel
def wsX8_story : List Cond := Cond.code yX8_story cX8_story 4 (some .int) :: ed_ws
theorem hd_X8_story : yX8_story.cls = RX8 ∧ yX8_story.cls ≠ "java/lang/invoke/MethodHandle" ∧ yX8_story.cls ≠ "java/lang/invoke/VarHandle" ∧ (parseMethodDescriptor yX8_story.desc).map (fun d => d.parameters.length) = some 2 := by decide +kernel
def wsX8_byline : List Cond := Cond.code yX8_byline cX8_byline 4 (some .int) :: ed_ws
theorem hd_X8_byline : yX8_byline.cls = RX8 ∧ yX8_byline.cls ≠ "java/lang/invoke/MethodHandle" ∧ yX8_byline.cls ≠ "java/lang/invoke/VarHandle" ∧ (parseMethodDescriptor yX8_byline.desc).map (fun d => d.parameters.length) = some 2 := by decide +kernel
def wsX8_slugChar : List Cond := Cond.code yX8_slugChar cX8_slugChar 4 (some .int) :: ed_ws
theorem hd_X8_slugChar : yX8_slugChar.cls = RX8 ∧ yX8_slugChar.cls ≠ "java/lang/invoke/MethodHandle" ∧ yX8_slugChar.cls ≠ "java/lang/invoke/VarHandle" ∧ (parseMethodDescriptor yX8_slugChar.desc).map (fun d => d.parameters.length) = some 2 := by decide +kernel
def wsX8_correction : List Cond := Cond.code yX8_correction cX8_correction 4 (some .int) :: ed_ws
theorem hd_X8_correction : yX8_correction.cls = RX8 ∧ yX8_correction.cls ≠ "java/lang/invoke/MethodHandle" ∧ yX8_correction.cls ≠ "java/lang/invoke/VarHandle" ∧ (parseMethodDescriptor yX8_correction.desc).map (fun d => d.parameters.length) = some 2 := by decide +kernel
def wsX8_client : List Cond := Cond.code yX8_client cX8_client 4 (some .int) :: ed_ws
theorem hd_X8_client : yX8_client.cls = RX8 ∧ yX8_client.cls ≠ "java/lang/invoke/MethodHandle" ∧ yX8_client.cls ≠ "java/lang/invoke/VarHandle" ∧ (parseMethodDescriptor yX8_client.desc).map (fun d => d.parameters.length) = some 2 := by decide +kernel
def wsX8_person : List Cond := Cond.code yX8_person cX8_person 4 (some .int) :: ed_ws
theorem hd_X8_person : yX8_person.cls = RX8 ∧ yX8_person.cls ≠ "java/lang/invoke/MethodHandle" ∧ yX8_person.cls ≠ "java/lang/invoke/VarHandle" ∧ (parseMethodDescriptor yX8_person.desc).map (fun d => d.parameters.length) = some 2 := by decide +kernel
def wsX8_copy : List Cond := Cond.code yX8_copy cX8_copy 5 (some .int) :: ed_ws
theorem hd_X8_copy : yX8_copy.cls = RX8 ∧ yX8_copy.cls ≠ "java/lang/invoke/MethodHandle" ∧ yX8_copy.cls ≠ "java/lang/invoke/VarHandle" ∧ (parseMethodDescriptor yX8_copy.desc).map (fun d => d.parameters.length) = some 3 := by decide +kernel
def wsX8_copyAt : List Cond := Cond.code yX8_copyAt cX8_copyAt 3 (some .int) :: ed_ws
theorem hd_X8_copyAt : yX8_copyAt.cls = RX8 ∧ yX8_copyAt.cls ≠ "java/lang/invoke/MethodHandle" ∧ yX8_copyAt.cls ≠ "java/lang/invoke/VarHandle" ∧ (parseMethodDescriptor yX8_copyAt.desc).map (fun d => d.parameters.length) = some 1 := by decide +kernel
def wsX8_carriedIn : List Cond := Cond.code yX8_carriedIn cX8_carriedIn 6 (some .int) :: ed_ws
theorem hd_X8_carriedIn : yX8_carriedIn.cls = RX8 ∧ yX8_carriedIn.cls ≠ "java/lang/invoke/MethodHandle" ∧ yX8_carriedIn.cls ≠ "java/lang/invoke/VarHandle" ∧ (parseMethodDescriptor yX8_carriedIn.desc).map (fun d => d.parameters.length) = some 2 := by decide +kernel
def wsX8_wouldCome : List Cond := Cond.code yX8_wouldCome cX8_wouldCome 6 (some .int) :: ed_ws
theorem hd_X8_wouldCome : yX8_wouldCome.cls = RX8 ∧ yX8_wouldCome.cls ≠ "java/lang/invoke/MethodHandle" ∧ yX8_wouldCome.cls ≠ "java/lang/invoke/VarHandle" ∧ (parseMethodDescriptor yX8_wouldCome.desc).map (fun d => d.parameters.length) = some 2 := by decide +kernel
def wsX8_event : List Cond := Cond.code yX8_event cX8_event 3 (some .int) :: ed_ws
theorem hd_X8_event : yX8_event.cls = RX8 ∧ yX8_event.cls ≠ "java/lang/invoke/MethodHandle" ∧ yX8_event.cls ≠ "java/lang/invoke/VarHandle" ∧ (parseMethodDescriptor yX8_event.desc).map (fun d => d.parameters.length) = some 2 := by decide +kernel
def wsX8_count : List Cond := Cond.code yX8_count cX8_count 2 (some .int) :: ed_ws
theorem hd_X8_count : yX8_count.cls = RX8 ∧ yX8_count.cls ≠ "java/lang/invoke/MethodHandle" ∧ yX8_count.cls ≠ "java/lang/invoke/VarHandle" ∧ (parseMethodDescriptor yX8_count.desc).map (fun d => d.parameters.length) = some 1 := by decide +kernel
def wsX8_isBetween : List Cond := Cond.code yX8_isBetween cX8_isBetween 3 (some .boolean) :: ed_ws
theorem hn_X8_isBetween : yX8_isBetween.cls ≠ "java/lang/invoke/MethodHandle" ∧ yX8_isBetween.cls ≠ "java/lang/invoke/VarHandle" ∧ (parseMethodDescriptor yX8_isBetween.desc).map (fun d => d.parameters.length) = some 3 := by decide +kernel
theorem hd_X8_isBetween : yX8_isBetween.cls = RX8 ∧ yX8_isBetween.cls ≠ "java/lang/invoke/MethodHandle" ∧ yX8_isBetween.cls ≠ "java/lang/invoke/VarHandle" ∧ (parseMethodDescriptor yX8_isBetween.desc).map (fun d => d.parameters.length) = some 3 := by decide +kernel
def wsX8_isPlace : List Cond := Cond.code yX8_isPlace cX8_isPlace 2 (some .boolean) :: ed_ws
theorem hn_X8_isPlace : yX8_isPlace.cls ≠ "java/lang/invoke/MethodHandle" ∧ yX8_isPlace.cls ≠ "java/lang/invoke/VarHandle" ∧ (parseMethodDescriptor yX8_isPlace.desc).map (fun d => d.parameters.length) = some 2 := by decide +kernel
theorem hd_X8_isPlace : yX8_isPlace.cls = RX8 ∧ yX8_isPlace.cls ≠ "java/lang/invoke/MethodHandle" ∧ yX8_isPlace.cls ≠ "java/lang/invoke/VarHandle" ∧ (parseMethodDescriptor yX8_isPlace.desc).map (fun d => d.parameters.length) = some 2 := by decide +kernel
def wsX8_copyRow : List Cond := Cond.code yX8_copyRow cX8_copyRow 2 none :: ed_ws
theorem hn_X8_copyRow : yX8_copyRow.cls ≠ "java/lang/invoke/MethodHandle" ∧ yX8_copyRow.cls ≠ "java/lang/invoke/VarHandle" ∧ (parseMethodDescriptor yX8_copyRow.desc).map (fun d => d.parameters.length) = some 2 := by decide +kernel
theorem hd_X8_copyRow : yX8_copyRow.cls = RX8 ∧ yX8_copyRow.cls ≠ "java/lang/invoke/MethodHandle" ∧ yX8_copyRow.cls ≠ "java/lang/invoke/VarHandle" ∧ (parseMethodDescriptor yX8_copyRow.desc).map (fun d => d.parameters.length) = some 2 := by decide +kernel
def wsX9_init : List Cond := Cond.code yX9_init cX9_init 1 none :: ed_ws
theorem hn_X9_init : yX9_init.cls ≠ "java/lang/invoke/MethodHandle" ∧ yX9_init.cls ≠ "java/lang/invoke/VarHandle" ∧ (parseMethodDescriptor yX9_init.desc).map (fun d => d.parameters.length) = some 0 := by decide +kernel
theorem hd_X9_init : yX9_init.cls = RX9 ∧ yX9_init.cls ≠ "java/lang/invoke/MethodHandle" ∧ yX9_init.cls ≠ "java/lang/invoke/VarHandle" ∧ (parseMethodDescriptor yX9_init.desc).map (fun d => d.parameters.length) = some 0 := by decide +kernel
def wsX9_in : List Cond := Cond.code yX9_in cX9_in 3 (some .boolean) :: ed_ws
theorem hd_X9_in : yX9_in.cls = RX9 ∧ yX9_in.cls ≠ "java/lang/invoke/MethodHandle" ∧ yX9_in.cls ≠ "java/lang/invoke/VarHandle" ∧ (parseMethodDescriptor yX9_in.desc).map (fun d => d.parameters.length) = some 3 := by decide +kernel
def wsX9_record : List Cond := Cond.code yX9_record cX9_record 2 none :: ed_ws
theorem hd_X9_record : yX9_record.cls = RX9 ∧ yX9_record.cls ≠ "java/lang/invoke/MethodHandle" ∧ yX9_record.cls ≠ "java/lang/invoke/VarHandle" ∧ (parseMethodDescriptor yX9_record.desc).map (fun d => d.parameters.length) = some 0 := by decide +kernel
def wsX9_isClient : List Cond := Cond.code yX9_isClient cX9_isClient 2 (some .boolean) :: ed_ws
theorem hd_X9_isClient : yX9_isClient.cls = RX9 ∧ yX9_isClient.cls ≠ "java/lang/invoke/MethodHandle" ∧ yX9_isClient.cls ≠ "java/lang/invoke/VarHandle" ∧ (parseMethodDescriptor yX9_isClient.desc).map (fun d => d.parameters.length) = some 1 := by decide +kernel
def wsX9_isStory : List Cond := Cond.code yX9_isStory cX9_isStory 2 (some .boolean) :: ed_ws
theorem hd_X9_isStory : yX9_isStory.cls = RX9 ∧ yX9_isStory.cls ≠ "java/lang/invoke/MethodHandle" ∧ yX9_isStory.cls ≠ "java/lang/invoke/VarHandle" ∧ (parseMethodDescriptor yX9_isStory.desc).map (fun d => d.parameters.length) = some 1 := by decide +kernel
def wsX9_clientAt : List Cond := Cond.code yX9_clientAt cX9_clientAt 2 (some .int) :: ed_ws
theorem hd_X9_clientAt : yX9_clientAt.cls = RX9 ∧ yX9_clientAt.cls ≠ "java/lang/invoke/MethodHandle" ∧ yX9_clientAt.cls ≠ "java/lang/invoke/VarHandle" ∧ (parseMethodDescriptor yX9_clientAt.desc).map (fun d => d.parameters.length) = some 2 := by decide +kernel
def wsX9_storyAt : List Cond := Cond.code yX9_storyAt cX9_storyAt 2 (some .int) :: ed_ws
theorem hd_X9_storyAt : yX9_storyAt.cls = RX9 ∧ yX9_storyAt.cls ≠ "java/lang/invoke/MethodHandle" ∧ yX9_storyAt.cls ≠ "java/lang/invoke/VarHandle" ∧ (parseMethodDescriptor yX9_storyAt.desc).map (fun d => d.parameters.length) = some 2 := by decide +kernel
def wsX9_atCopy : List Cond := Cond.code yX9_atCopy cX9_atCopy 2 (some .int) :: ed_ws
theorem hd_X9_atCopy : yX9_atCopy.cls = RX9 ∧ yX9_atCopy.cls ≠ "java/lang/invoke/MethodHandle" ∧ yX9_atCopy.cls ≠ "java/lang/invoke/VarHandle" ∧ (parseMethodDescriptor yX9_atCopy.desc).map (fun d => d.parameters.length) = some 2 := by decide +kernel
def wsX9_ofClient : List Cond := Cond.code yX9_ofClient cX9_ofClient 3 (some .int) :: ed_ws
theorem hd_X9_ofClient : yX9_ofClient.cls = RX9 ∧ yX9_ofClient.cls ≠ "java/lang/invoke/MethodHandle" ∧ yX9_ofClient.cls ≠ "java/lang/invoke/VarHandle" ∧ (parseMethodDescriptor yX9_ofClient.desc).map (fun d => d.parameters.length) = some 2 := by decide +kernel
def wsX9_ofStory : List Cond := Cond.code yX9_ofStory cX9_ofStory 3 (some .int) :: ed_ws
theorem hd_X9_ofStory : yX9_ofStory.cls = RX9 ∧ yX9_ofStory.cls ≠ "java/lang/invoke/MethodHandle" ∧ yX9_ofStory.cls ≠ "java/lang/invoke/VarHandle" ∧ (parseMethodDescriptor yX9_ofStory.desc).map (fun d => d.parameters.length) = some 2 := by decide +kernel
def wsX9_ofCopy : List Cond := Cond.code yX9_ofCopy cX9_ofCopy 3 (some .int) :: ed_ws
theorem hd_X9_ofCopy : yX9_ofCopy.cls = RX9 ∧ yX9_ofCopy.cls ≠ "java/lang/invoke/MethodHandle" ∧ yX9_ofCopy.cls ≠ "java/lang/invoke/VarHandle" ∧ (parseMethodDescriptor yX9_ofCopy.desc).map (fun d => d.parameters.length) = some 2 := by decide +kernel
def wsX9_log : List Cond := Cond.code yX9_log cX9_log 5 none :: ed_ws
theorem hd_X9_log : yX9_log.cls = RX9 ∧ yX9_log.cls ≠ "java/lang/invoke/MethodHandle" ∧ yX9_log.cls ≠ "java/lang/invoke/VarHandle" ∧ (parseMethodDescriptor yX9_log.desc).map (fun d => d.parameters.length) = some 3 := by decide +kernel
def wsX9_wants : List Cond := Cond.code yX9_wants cX9_wants 3 (some .boolean) :: ed_ws
theorem hd_X9_wants : yX9_wants.cls = RX9 ∧ yX9_wants.cls ≠ "java/lang/invoke/MethodHandle" ∧ yX9_wants.cls ≠ "java/lang/invoke/VarHandle" ∧ (parseMethodDescriptor yX9_wants.desc).map (fun d => d.parameters.length) = some 2 := by decide +kernel
def wsX9_publish : List Cond := Cond.code yX9_publish cX9_publish 4 none :: ed_ws
theorem hd_X9_publish : yX9_publish.cls = RX9 ∧ yX9_publish.cls ≠ "java/lang/invoke/MethodHandle" ∧ yX9_publish.cls ≠ "java/lang/invoke/VarHandle" ∧ (parseMethodDescriptor yX9_publish.desc).map (fun d => d.parameters.length) = some 1 := by decide +kernel
def wsX9_share : List Cond := Cond.code yX9_share cX9_share 4 none :: ed_ws
theorem hd_X9_share : yX9_share.cls = RX9 ∧ yX9_share.cls ≠ "java/lang/invoke/MethodHandle" ∧ yX9_share.cls ≠ "java/lang/invoke/VarHandle" ∧ (parseMethodDescriptor yX9_share.desc).map (fun d => d.parameters.length) = some 2 := by decide +kernel
def wsX9_bill : List Cond := Cond.code yX9_bill cX9_bill 6 none :: ed_ws
theorem hd_X9_bill : yX9_bill.cls = RX9 ∧ yX9_bill.cls ≠ "java/lang/invoke/MethodHandle" ∧ yX9_bill.cls ≠ "java/lang/invoke/VarHandle" ∧ (parseMethodDescriptor yX9_bill.desc).map (fun d => d.parameters.length) = some 2 := by decide +kernel
def wsX9_useEnds : List Cond := Cond.code yX9_useEnds cX9_useEnds 2 (some .int) :: ed_ws
theorem hd_X9_useEnds : yX9_useEnds.cls = RX9 ∧ yX9_useEnds.cls ≠ "java/lang/invoke/MethodHandle" ∧ yX9_useEnds.cls ≠ "java/lang/invoke/VarHandle" ∧ (parseMethodDescriptor yX9_useEnds.desc).map (fun d => d.parameters.length) = some 1 := by decide +kernel
def wsX9_killDue : List Cond := Cond.code yX9_killDue cX9_killDue 2 (some .int) :: ed_ws
theorem hd_X9_killDue : yX9_killDue.cls = RX9 ∧ yX9_killDue.cls ≠ "java/lang/invoke/MethodHandle" ∧ yX9_killDue.cls ≠ "java/lang/invoke/VarHandle" ∧ (parseMethodDescriptor yX9_killDue.desc).map (fun d => d.parameters.length) = some 1 := by decide +kernel
def wsX9_correctionDue : List Cond := Cond.code yX9_correctionDue cX9_correctionDue 3 (some .int) :: ed_ws
theorem hd_X9_correctionDue : yX9_correctionDue.cls = RX9 ∧ yX9_correctionDue.cls ≠ "java/lang/invoke/MethodHandle" ∧ yX9_correctionDue.cls ≠ "java/lang/invoke/VarHandle" ∧ (parseMethodDescriptor yX9_correctionDue.desc).map (fun d => d.parameters.length) = some 2 := by decide +kernel
def wsX9_goOn : List Cond := Cond.code yX9_goOn cX9_goOn 6 (some .int) :: ed_ws
theorem hd_X9_goOn : yX9_goOn.cls = RX9 ∧ yX9_goOn.cls ≠ "java/lang/invoke/MethodHandle" ∧ yX9_goOn.cls ≠ "java/lang/invoke/VarHandle" ∧ (parseMethodDescriptor yX9_goOn.desc).map (fun d => d.parameters.length) = some 1 := by decide +kernel
def wsX9_oneHour : List Cond := Cond.code yX9_oneHour cX9_oneHour 3 (some .int) :: ed_ws
theorem hd_X9_oneHour : yX9_oneHour.cls = RX9 ∧ yX9_oneHour.cls ≠ "java/lang/invoke/MethodHandle" ∧ yX9_oneHour.cls ≠ "java/lang/invoke/VarHandle" ∧ (parseMethodDescriptor yX9_oneHour.desc).map (fun d => d.parameters.length) = some 0 := by decide +kernel
def wsX9_addClient : List Cond := Cond.code yX9_addClient cX9_addClient 7 (some .int) :: ed_ws
theorem hd_X9_addClient : yX9_addClient.cls = RX9 ∧ yX9_addClient.cls ≠ "java/lang/invoke/MethodHandle" ∧ yX9_addClient.cls ≠ "java/lang/invoke/VarHandle" ∧ (parseMethodDescriptor yX9_addClient.desc).map (fun d => d.parameters.length) = some 5 := by decide +kernel
def wsX9_becomes : List Cond := Cond.code yX9_becomes cX9_becomes 4 (some .int) :: ed_ws
theorem hd_X9_becomes : yX9_becomes.cls = RX9 ∧ yX9_becomes.cls ≠ "java/lang/invoke/MethodHandle" ∧ yX9_becomes.cls ≠ "java/lang/invoke/VarHandle" ∧ (parseMethodDescriptor yX9_becomes.desc).map (fun d => d.parameters.length) = some 2 := by decide +kernel
def wsX9_setTopics : List Cond := Cond.code yX9_setTopics cX9_setTopics 3 (some .int) :: ed_ws
theorem hd_X9_setTopics : yX9_setTopics.cls = RX9 ∧ yX9_setTopics.cls ≠ "java/lang/invoke/MethodHandle" ∧ yX9_setTopics.cls ≠ "java/lang/invoke/VarHandle" ∧ (parseMethodDescriptor yX9_setTopics.desc).map (fun d => d.parameters.length) = some 2 := by decide +kernel
def wsX9_setUp : List Cond := Cond.code yX9_setUp cX9_setUp 5 (some .int) :: ed_ws
theorem hd_X9_setUp : yX9_setUp.cls = RX9 ∧ yX9_setUp.cls ≠ "java/lang/invoke/MethodHandle" ∧ yX9_setUp.cls ≠ "java/lang/invoke/VarHandle" ∧ (parseMethodDescriptor yX9_setUp.desc).map (fun d => d.parameters.length) = some 2 := by decide +kernel
def wsX9_setUse : List Cond := Cond.code yX9_setUse cX9_setUse 2 (some .int) :: ed_ws
theorem hd_X9_setUse : yX9_setUse.cls = RX9 ∧ yX9_setUse.cls ≠ "java/lang/invoke/MethodHandle" ∧ yX9_setUse.cls ≠ "java/lang/invoke/VarHandle" ∧ (parseMethodDescriptor yX9_setUse.desc).map (fun d => d.parameters.length) = some 1 := by decide +kernel
def wsX9_pay : List Cond := Cond.code yX9_pay cX9_pay 3 (some .int) :: ed_ws
theorem hd_X9_pay : yX9_pay.cls = RX9 ∧ yX9_pay.cls ≠ "java/lang/invoke/MethodHandle" ∧ yX9_pay.cls ≠ "java/lang/invoke/VarHandle" ∧ (parseMethodDescriptor yX9_pay.desc).map (fun d => d.parameters.length) = some 2 := by decide +kernel
def wsX9_type : List Cond := Cond.code yX9_type cX9_type 2 (some .int) :: ed_ws
theorem hd_X9_type : yX9_type.cls = RX9 ∧ yX9_type.cls ≠ "java/lang/invoke/MethodHandle" ∧ yX9_type.cls ≠ "java/lang/invoke/VarHandle" ∧ (parseMethodDescriptor yX9_type.desc).map (fun d => d.parameters.length) = some 1 := by decide +kernel
def wsX9_clearText : List Cond := Cond.code yX9_clearText cX9_clearText 2 (some .int) :: ed_ws
theorem hd_X9_clearText : yX9_clearText.cls = RX9 ∧ yX9_clearText.cls ≠ "java/lang/invoke/MethodHandle" ∧ yX9_clearText.cls ≠ "java/lang/invoke/VarHandle" ∧ (parseMethodDescriptor yX9_clearText.desc).map (fun d => d.parameters.length) = some 0 := by decide +kernel
def wsX9_sign : List Cond := Cond.code yX9_sign cX9_sign 3 (some .boolean) :: ed_ws
theorem hd_X9_sign : yX9_sign.cls = RX9 ∧ yX9_sign.cls ≠ "java/lang/invoke/MethodHandle" ∧ yX9_sign.cls ≠ "java/lang/invoke/VarHandle" ∧ (parseMethodDescriptor yX9_sign.desc).map (fun d => d.parameters.length) = some 1 := by decide +kernel
def wsX9_digitTo : List Cond := Cond.code yX9_digitTo cX9_digitTo 3 (some .boolean) :: ed_ws
theorem hd_X9_digitTo : yX9_digitTo.cls = RX9 ∧ yX9_digitTo.cls ≠ "java/lang/invoke/MethodHandle" ∧ yX9_digitTo.cls ≠ "java/lang/invoke/VarHandle" ∧ (parseMethodDescriptor yX9_digitTo.desc).map (fun d => d.parameters.length) = some 1 := by decide +kernel
def wsX9_readPersons : List Cond := Cond.code yX9_readPersons cX9_readPersons 5 (some .boolean) :: ed_ws
theorem hd_X9_readPersons : yX9_readPersons.cls = RX9 ∧ yX9_readPersons.cls ≠ "java/lang/invoke/MethodHandle" ∧ yX9_readPersons.cls ≠ "java/lang/invoke/VarHandle" ∧ (parseMethodDescriptor yX9_readPersons.desc).map (fun d => d.parameters.length) = some 0 := by decide +kernel
def wsX9_readHour : List Cond := Cond.code yX9_readHour cX9_readHour 3 (some .boolean) :: ed_ws
theorem hd_X9_readHour : yX9_readHour.cls = RX9 ∧ yX9_readHour.cls ≠ "java/lang/invoke/MethodHandle" ∧ yX9_readHour.cls ≠ "java/lang/invoke/VarHandle" ∧ (parseMethodDescriptor yX9_readHour.desc).map (fun d => d.parameters.length) = some 0 := by decide +kernel
def wsX9_readSlug : List Cond := Cond.code yX9_readSlug cX9_readSlug 2 (some .boolean) :: ed_ws
theorem hd_X9_readSlug : yX9_readSlug.cls = RX9 ∧ yX9_readSlug.cls ≠ "java/lang/invoke/MethodHandle" ∧ yX9_readSlug.cls ≠ "java/lang/invoke/VarHandle" ∧ (parseMethodDescriptor yX9_readSlug.desc).map (fun d => d.parameters.length) = some 0 := by decide +kernel
def wsX9_readText : List Cond := Cond.code yX9_readText cX9_readText 2 (some .boolean) :: ed_ws
theorem hd_X9_readText : yX9_readText.cls = RX9 ∧ yX9_readText.cls ≠ "java/lang/invoke/MethodHandle" ∧ yX9_readText.cls ≠ "java/lang/invoke/VarHandle" ∧ (parseMethodDescriptor yX9_readText.desc).map (fun d => d.parameters.length) = some 0 := by decide +kernel
def wsX9_readStory : List Cond := Cond.code yX9_readStory cX9_readStory 3 (some .int) :: ed_ws
theorem hd_X9_readStory : yX9_readStory.cls = RX9 ∧ yX9_readStory.cls ≠ "java/lang/invoke/MethodHandle" ∧ yX9_readStory.cls ≠ "java/lang/invoke/VarHandle" ∧ (parseMethodDescriptor yX9_readStory.desc).map (fun d => d.parameters.length) = some 0 := by decide +kernel
def wsX9_release : List Cond := Cond.code yX9_release cX9_release 4 (some .int) :: ed_ws
theorem hd_X9_release : yX9_release.cls = RX9 ∧ yX9_release.cls ≠ "java/lang/invoke/MethodHandle" ∧ yX9_release.cls ≠ "java/lang/invoke/VarHandle" ∧ (parseMethodDescriptor yX9_release.desc).map (fun d => d.parameters.length) = some 1 := by decide +kernel
def wsX9_hold : List Cond := Cond.code yX9_hold cX9_hold 3 (some .int) :: ed_ws
theorem hd_X9_hold : yX9_hold.cls = RX9 ∧ yX9_hold.cls ≠ "java/lang/invoke/MethodHandle" ∧ yX9_hold.cls ≠ "java/lang/invoke/VarHandle" ∧ (parseMethodDescriptor yX9_hold.desc).map (fun d => d.parameters.length) = some 1 := by decide +kernel
def wsX9_setEmbargo : List Cond := Cond.code yX9_setEmbargo cX9_setEmbargo 3 (some .int) :: ed_ws
theorem hd_X9_setEmbargo : yX9_setEmbargo.cls = RX9 ∧ yX9_setEmbargo.cls ≠ "java/lang/invoke/MethodHandle" ∧ yX9_setEmbargo.cls ≠ "java/lang/invoke/VarHandle" ∧ (parseMethodDescriptor yX9_setEmbargo.desc).map (fun d => d.parameters.length) = some 2 := by decide +kernel
def wsX9_correct : List Cond := Cond.code yX9_correct cX9_correct 2 (some .int) :: ed_ws
theorem hd_X9_correct : yX9_correct.cls = RX9 ∧ yX9_correct.cls ≠ "java/lang/invoke/MethodHandle" ∧ yX9_correct.cls ≠ "java/lang/invoke/VarHandle" ∧ (parseMethodDescriptor yX9_correct.desc).map (fun d => d.parameters.length) = some 1 := by decide +kernel
def wsX9_inUse : List Cond := Cond.code yX9_inUse cX9_inUse 5 (some .int) :: ed_ws
theorem hd_X9_inUse : yX9_inUse.cls = RX9 ∧ yX9_inUse.cls ≠ "java/lang/invoke/MethodHandle" ∧ yX9_inUse.cls ≠ "java/lang/invoke/VarHandle" ∧ (parseMethodDescriptor yX9_inUse.desc).map (fun d => d.parameters.length) = some 2 := by decide +kernel
def wsX9_kill : List Cond := Cond.code yX9_kill cX9_kill 2 (some .int) :: ed_ws
theorem hd_X9_kill : yX9_kill.cls = RX9 ∧ yX9_kill.cls ≠ "java/lang/invoke/MethodHandle" ∧ yX9_kill.cls ≠ "java/lang/invoke/VarHandle" ∧ (parseMethodDescriptor yX9_kill.desc).map (fun d => d.parameters.length) = some 1 := by decide +kernel
def wsX9_pass : List Cond := Cond.code yX9_pass cX9_pass 4 (some .int) :: ed_ws
theorem hd_X9_pass : yX9_pass.cls = RX9 ∧ yX9_pass.cls ≠ "java/lang/invoke/MethodHandle" ∧ yX9_pass.cls ≠ "java/lang/invoke/VarHandle" ∧ (parseMethodDescriptor yX9_pass.desc).map (fun d => d.parameters.length) = some 1 := by decide +kernel
def wsX9_undo : List Cond := Cond.code yX9_undo cX9_undo 2 (some .int) :: ed_ws
theorem hd_X9_undo : yX9_undo.cls = RX9 ∧ yX9_undo.cls ≠ "java/lang/invoke/MethodHandle" ∧ yX9_undo.cls ≠ "java/lang/invoke/VarHandle" ∧ (parseMethodDescriptor yX9_undo.desc).map (fun d => d.parameters.length) = some 0 := by decide +kernel
def wsX9_keep : List Cond := Cond.code yX9_keep cX9_keep 2 (some .int) :: ed_ws
theorem hd_X9_keep : yX9_keep.cls = RX9 ∧ yX9_keep.cls ≠ "java/lang/invoke/MethodHandle" ∧ yX9_keep.cls ≠ "java/lang/invoke/VarHandle" ∧ (parseMethodDescriptor yX9_keep.desc).map (fun d => d.parameters.length) = some 0 := by decide +kernel
def wsX9_restore : List Cond := Cond.code yX9_restore cX9_restore 2 (some .int) :: ed_ws
theorem hd_X9_restore : yX9_restore.cls = RX9 ∧ yX9_restore.cls ≠ "java/lang/invoke/MethodHandle" ∧ yX9_restore.cls ≠ "java/lang/invoke/VarHandle" ∧ (parseMethodDescriptor yX9_restore.desc).map (fun d => d.parameters.length) = some 0 := by decide +kernel
def wsX9_story : List Cond := Cond.code yX9_story cX9_story 5 (some .int) :: ed_ws
theorem hd_X9_story : yX9_story.cls = RX9 ∧ yX9_story.cls ≠ "java/lang/invoke/MethodHandle" ∧ yX9_story.cls ≠ "java/lang/invoke/VarHandle" ∧ (parseMethodDescriptor yX9_story.desc).map (fun d => d.parameters.length) = some 2 := by decide +kernel
def wsX9_rowOf : List Cond := Cond.code yX9_rowOf cX9_rowOf 5 (some .int) :: ed_ws
theorem hd_X9_rowOf : yX9_rowOf.cls = RX9 ∧ yX9_rowOf.cls ≠ "java/lang/invoke/MethodHandle" ∧ yX9_rowOf.cls ≠ "java/lang/invoke/VarHandle" ∧ (parseMethodDescriptor yX9_rowOf.desc).map (fun d => d.parameters.length) = some 4 := by decide +kernel
def wsX9_byline : List Cond := Cond.code yX9_byline cX9_byline 3 (some .int) :: ed_ws
theorem hd_X9_byline : yX9_byline.cls = RX9 ∧ yX9_byline.cls ≠ "java/lang/invoke/MethodHandle" ∧ yX9_byline.cls ≠ "java/lang/invoke/VarHandle" ∧ (parseMethodDescriptor yX9_byline.desc).map (fun d => d.parameters.length) = some 2 := by decide +kernel
def wsX9_slugChar : List Cond := Cond.code yX9_slugChar cX9_slugChar 3 (some .int) :: ed_ws
theorem hd_X9_slugChar : yX9_slugChar.cls = RX9 ∧ yX9_slugChar.cls ≠ "java/lang/invoke/MethodHandle" ∧ yX9_slugChar.cls ≠ "java/lang/invoke/VarHandle" ∧ (parseMethodDescriptor yX9_slugChar.desc).map (fun d => d.parameters.length) = some 2 := by decide +kernel
def wsX9_correction : List Cond := Cond.code yX9_correction cX9_correction 3 (some .int) :: ed_ws
theorem hd_X9_correction : yX9_correction.cls = RX9 ∧ yX9_correction.cls ≠ "java/lang/invoke/MethodHandle" ∧ yX9_correction.cls ≠ "java/lang/invoke/VarHandle" ∧ (parseMethodDescriptor yX9_correction.desc).map (fun d => d.parameters.length) = some 2 := by decide +kernel
def wsX9_inUseFor : List Cond := Cond.code yX9_inUseFor cX9_inUseFor 4 (some .int) :: ed_ws
theorem hd_X9_inUseFor : yX9_inUseFor.cls = RX9 ∧ yX9_inUseFor.cls ≠ "java/lang/invoke/MethodHandle" ∧ yX9_inUseFor.cls ≠ "java/lang/invoke/VarHandle" ∧ (parseMethodDescriptor yX9_inUseFor.desc).map (fun d => d.parameters.length) = some 1 := by decide +kernel
def wsX9_client : List Cond := Cond.code yX9_client cX9_client 3 (some .int) :: ed_ws
theorem hd_X9_client : yX9_client.cls = RX9 ∧ yX9_client.cls ≠ "java/lang/invoke/MethodHandle" ∧ yX9_client.cls ≠ "java/lang/invoke/VarHandle" ∧ (parseMethodDescriptor yX9_client.desc).map (fun d => d.parameters.length) = some 2 := by decide +kernel
def wsX9_wrote : List Cond := Cond.code yX9_wrote cX9_wrote 5 (some .boolean) :: ed_ws
theorem hd_X9_wrote : yX9_wrote.cls = RX9 ∧ yX9_wrote.cls ≠ "java/lang/invoke/MethodHandle" ∧ yX9_wrote.cls ≠ "java/lang/invoke/VarHandle" ∧ (parseMethodDescriptor yX9_wrote.desc).map (fun d => d.parameters.length) = some 2 := by decide +kernel
def wsX9_person : List Cond := Cond.code yX9_person cX9_person 6 (some .int) :: ed_ws
theorem hd_X9_person : yX9_person.cls = RX9 ∧ yX9_person.cls ≠ "java/lang/invoke/MethodHandle" ∧ yX9_person.cls ≠ "java/lang/invoke/VarHandle" ∧ (parseMethodDescriptor yX9_person.desc).map (fun d => d.parameters.length) = some 2 := by decide +kernel
def wsX9_copyOf : List Cond := Cond.code yX9_copyOf cX9_copyOf 5 (some .int) :: ed_ws
theorem hd_X9_copyOf : yX9_copyOf.cls = RX9 ∧ yX9_copyOf.cls ≠ "java/lang/invoke/MethodHandle" ∧ yX9_copyOf.cls ≠ "java/lang/invoke/VarHandle" ∧ (parseMethodDescriptor yX9_copyOf.desc).map (fun d => d.parameters.length) = some 2 := by decide +kernel
def wsX9_dueNow : List Cond := Cond.code yX9_dueNow cX9_dueNow 4 (some .int) :: ed_ws
theorem hd_X9_dueNow : yX9_dueNow.cls = RX9 ∧ yX9_dueNow.cls ≠ "java/lang/invoke/MethodHandle" ∧ yX9_dueNow.cls ≠ "java/lang/invoke/VarHandle" ∧ (parseMethodDescriptor yX9_dueNow.desc).map (fun d => d.parameters.length) = some 1 := by decide +kernel
def wsX9_copy : List Cond := Cond.code yX9_copy cX9_copy 7 (some .int) :: ed_ws
theorem hd_X9_copy : yX9_copy.cls = RX9 ∧ yX9_copy.cls ≠ "java/lang/invoke/MethodHandle" ∧ yX9_copy.cls ≠ "java/lang/invoke/VarHandle" ∧ (parseMethodDescriptor yX9_copy.desc).map (fun d => d.parameters.length) = some 3 := by decide +kernel
def wsX9_copyAt : List Cond := Cond.code yX9_copyAt cX9_copyAt 2 (some .int) :: ed_ws
theorem hd_X9_copyAt : yX9_copyAt.cls = RX9 ∧ yX9_copyAt.cls ≠ "java/lang/invoke/MethodHandle" ∧ yX9_copyAt.cls ≠ "java/lang/invoke/VarHandle" ∧ (parseMethodDescriptor yX9_copyAt.desc).map (fun d => d.parameters.length) = some 1 := by decide +kernel
def wsX9_bringBack : List Cond := Cond.code yX9_bringBack cX9_bringBack 2 none :: ed_ws
theorem hd_X9_bringBack : yX9_bringBack.cls = RX9 ∧ yX9_bringBack.cls ≠ "java/lang/invoke/MethodHandle" ∧ yX9_bringBack.cls ≠ "java/lang/invoke/VarHandle" ∧ (parseMethodDescriptor yX9_bringBack.desc).map (fun d => d.parameters.length) = some 0 := by decide +kernel
def wsX9_setAside : List Cond := Cond.code yX9_setAside cX9_setAside 2 none :: ed_ws
theorem hd_X9_setAside : yX9_setAside.cls = RX9 ∧ yX9_setAside.cls ≠ "java/lang/invoke/MethodHandle" ∧ yX9_setAside.cls ≠ "java/lang/invoke/VarHandle" ∧ (parseMethodDescriptor yX9_setAside.desc).map (fun d => d.parameters.length) = some 0 := by decide +kernel
def wsX9_carriedIn : List Cond := Cond.code yX9_carriedIn cX9_carriedIn 5 (some .int) :: ed_ws
theorem hd_X9_carriedIn : yX9_carriedIn.cls = RX9 ∧ yX9_carriedIn.cls ≠ "java/lang/invoke/MethodHandle" ∧ yX9_carriedIn.cls ≠ "java/lang/invoke/VarHandle" ∧ (parseMethodDescriptor yX9_carriedIn.desc).map (fun d => d.parameters.length) = some 2 := by decide +kernel
def wsX9_wouldCome : List Cond := Cond.code yX9_wouldCome cX9_wouldCome 4 (some .int) :: ed_ws
theorem hd_X9_wouldCome : yX9_wouldCome.cls = RX9 ∧ yX9_wouldCome.cls ≠ "java/lang/invoke/MethodHandle" ∧ yX9_wouldCome.cls ≠ "java/lang/invoke/VarHandle" ∧ (parseMethodDescriptor yX9_wouldCome.desc).map (fun d => d.parameters.length) = some 2 := by decide +kernel
def wsX9_event : List Cond := Cond.code yX9_event cX9_event 5 (some .int) :: ed_ws
theorem hd_X9_event : yX9_event.cls = RX9 ∧ yX9_event.cls ≠ "java/lang/invoke/MethodHandle" ∧ yX9_event.cls ≠ "java/lang/invoke/VarHandle" ∧ (parseMethodDescriptor yX9_event.desc).map (fun d => d.parameters.length) = some 2 := by decide +kernel
def wsX9_personsOfAll : List Cond := Cond.code yX9_personsOfAll cX9_personsOfAll 5 (some .int) :: ed_ws
theorem hd_X9_personsOfAll : yX9_personsOfAll.cls = RX9 ∧ yX9_personsOfAll.cls ≠ "java/lang/invoke/MethodHandle" ∧ yX9_personsOfAll.cls ≠ "java/lang/invoke/VarHandle" ∧ (parseMethodDescriptor yX9_personsOfAll.desc).map (fun d => d.parameters.length) = some 0 := by decide +kernel
def wsX9_count : List Cond := Cond.code yX9_count cX9_count 5 (some .int) :: ed_ws
theorem hd_X9_count : yX9_count.cls = RX9 ∧ yX9_count.cls ≠ "java/lang/invoke/MethodHandle" ∧ yX9_count.cls ≠ "java/lang/invoke/VarHandle" ∧ (parseMethodDescriptor yX9_count.desc).map (fun d => d.parameters.length) = some 1 := by decide +kernel
