theorem ed_w1_0 : Cond.initialized RL ∈ ed_ws := ed_wm1 (i := 0) rfl rfl
theorem ed_w1_1 : Cond.initialized RX8 ∈ ed_ws := ed_wm1 (i := 1) rfl rfl
theorem ed_w1_2 : Cond.initialized RX5 ∈ ed_ws := ed_wm1 (i := 2) rfl rfl
theorem ed_w1_3 : Cond.initialized RX3 ∈ ed_ws := ed_wm1 (i := 3) rfl rfl
theorem ed_w1_4 : Cond.initialized RX6 ∈ ed_ws := ed_wm1 (i := 4) rfl rfl
theorem ed_w1_5 : Cond.initialized RX0 ∈ ed_ws := ed_wm1 (i := 5) rfl rfl
theorem ed_w1_6 : Cond.initialized RX1 ∈ ed_ws := ed_wm1 (i := 6) rfl rfl
theorem ed_w1_7 : Cond.initialized RX4 ∈ ed_ws := ed_wm1 (i := 7) rfl rfl
theorem ed_w1_8 : Cond.initialized RX2 ∈ ed_ws := ed_wm1 (i := 8) rfl rfl
theorem ed_w1_9 : Cond.initialized RX7 ∈ ed_ws := ed_wm1 (i := 9) rfl rfl
theorem ed_w1_10 : Cond.initialized "java/lang/Math" ∈ ed_ws := ed_wm1 (i := 10) rfl rfl
theorem ed_w1_11 : Cond.initialized "java/lang/System" ∈ ed_ws := ed_wm1 (i := 11) rfl rfl
theorem ed_w1_12 : Cond.classLink RL 10 RX8 ∈ ed_ws := ed_wm1 (i := 12) rfl rfl
theorem ed_w1_13 : Cond.instantiable RX8 6 ∈ ed_ws := ed_wm1 (i := 13) rfl rfl
theorem ed_w1_14 : Cond.methodLink RL 83 yX8_init ∈ ed_ws := ed_wm1 (i := 14) rfl rfl
theorem ed_w1_15 : Cond.instanceMethod yX8_init ∈ ed_ws := ed_wm1 (i := 15) rfl rfl
theorem ed_w1_16 : Cond.code yX8_init cX8_init 1 none ∈ ed_ws := ed_wm1 (i := 16) rfl rfl
theorem ed_w1_17 : Cond.methodLink RX8 3 objectInit ∈ ed_ws := ed_wm1 (i := 17) rfl rfl
theorem ed_w1_18 : Cond.instanceMethod objectInit ∈ ed_ws := ed_wm1 (i := 18) rfl rfl
theorem ed_w1_19 : Cond.code objectInit ⟨#[0xb1]⟩ 1 none ∈ ed_ws := ed_wm1 (i := 19) rfl rfl
theorem ed_w1_20 : Cond.classLink RX8 9 RX5 ∈ ed_ws := ed_wm1 (i := 20) rfl rfl
theorem ed_w1_21 : Cond.instantiable RX5 11 ∈ ed_ws := ed_wm1 (i := 21) rfl rfl
theorem ed_w1_22 : Cond.methodLink RX8 11 yX5_init ∈ ed_ws := ed_wm1 (i := 22) rfl rfl
theorem ed_w1_23 : Cond.instanceMethod yX5_init ∈ ed_ws := ed_wm1 (i := 23) rfl rfl
theorem ed_w1_24 : Cond.code yX5_init cX5_init 2 none ∈ ed_ws := ed_wm1 (i := 24) rfl rfl
theorem ed_w1_25 : Cond.methodLink RX5 3 objectInit ∈ ed_ws := ed_wm1 (i := 25) rfl rfl
theorem ed_w1_26 : Cond.classLink RX5 15 RX3 ∈ ed_ws := ed_wm1 (i := 26) rfl rfl
theorem ed_w1_27 : Cond.instantiable RX3 3 ∈ ed_ws := ed_wm1 (i := 27) rfl rfl
theorem ed_w1_29 : Cond.instanceMethod yX3_init ∈ ed_ws := ed_wm1 (i := 29) rfl rfl
theorem ed_w1_30 : Cond.code yX3_init cX3_init 1 none ∈ ed_ws := ed_wm1 (i := 30) rfl rfl
theorem ed_w1_31 : Cond.methodLink RX3 3 objectInit ∈ ed_ws := ed_wm1 (i := 31) rfl rfl
theorem ed_w1_32 : Cond.fieldLink RX3 11 "EmbargoDesk$Log" "cells" "[I" ∈ ed_ws := ed_wm1 (i := 32) rfl rfl
theorem ed_w1_33 : Cond.fieldLink RX3 15 "EmbargoDesk$Log" "newest" "I" ∈ ed_ws := ed_wm1 (i := 33) rfl rfl
theorem ed_w1_34 : Cond.fieldLink RX3 19 "EmbargoDesk$Log" "size" "I" ∈ ed_ws := ed_wm1 (i := 34) rfl rfl
theorem ed_w1_35 : Cond.laysFinal "EmbargoDesk$Log" "EmbargoDesk$Log" "cells" "[I" ∈ ed_ws := ed_wm1 (i := 35) rfl rfl
theorem ed_w1_37 : Cond.lays "EmbargoDesk$Log" "EmbargoDesk$Log" "newest" "I" ∈ ed_ws := ed_wm1 (i := 37) rfl rfl
theorem ed_w1_39 : Cond.lays "EmbargoDesk$Log" "EmbargoDesk$Log" "size" "I" ∈ ed_ws := ed_wm1 (i := 39) rfl rfl
theorem ed_w1_42 : Cond.arrayClass .int ∈ ed_ws := ed_wm1 (i := 42) rfl rfl
theorem ed_w1_43 : Cond.classLink RX5 22 RX6 ∈ ed_ws := ed_wm1 (i := 43) rfl rfl
theorem ed_w1_45 : Cond.classLink RX5 28 RX0 ∈ ed_ws := ed_wm1 (i := 45) rfl rfl
theorem ed_w1_47 : Cond.classLink RX5 34 RX1 ∈ ed_ws := ed_wm1 (i := 47) rfl rfl
theorem ed_w1_49 : Cond.classLink RX5 40 RX4 ∈ ed_ws := ed_wm1 (i := 49) rfl rfl
theorem ed_w1_51 : Cond.instantiable RX6 11 ∈ ed_ws := ed_wm1 (i := 51) rfl rfl
theorem ed_w1_53 : Cond.instanceMethod yX6_init ∈ ed_ws := ed_wm1 (i := 53) rfl rfl
theorem ed_w1_54 : Cond.code yX6_init cX6_init 1 none ∈ ed_ws := ed_wm1 (i := 54) rfl rfl
theorem ed_w1_55 : Cond.methodLink RX6 3 objectInit ∈ ed_ws := ed_wm1 (i := 55) rfl rfl
theorem ed_w1_56 : Cond.fieldLink RX6 27 "EmbargoDesk$Story" "topic" "I" ∈ ed_ws := ed_wm1 (i := 56) rfl rfl
theorem ed_w1_57 : Cond.fieldLink RX8 94 "EmbargoDesk$Story" "topic" "I" ∈ ed_ws := ed_wm1 (i := 57) rfl rfl
theorem ed_w1_58 : Cond.fieldLink RX5 159 "EmbargoDesk$Story" "topic" "I" ∈ ed_ws := ed_wm1 (i := 58) rfl rfl
theorem ed_w1_59 : Cond.fieldLink RX6 31 "EmbargoDesk$Story" "bylineSize" "I" ∈ ed_ws := ed_wm1 (i := 59) rfl rfl
theorem ed_w1_60 : Cond.fieldLink RX5 224 "EmbargoDesk$Story" "bylineSize" "I" ∈ ed_ws := ed_wm1 (i := 60) rfl rfl
theorem ed_w1_61 : Cond.fieldLink RX8 157 "EmbargoDesk$Story" "bylineSize" "I" ∈ ed_ws := ed_wm1 (i := 61) rfl rfl
theorem ed_w1_62 : Cond.fieldLink RX6 9 "EmbargoDesk$Story" "byline" "[I" ∈ ed_ws := ed_wm1 (i := 62) rfl rfl
theorem ed_w1_63 : Cond.fieldLink RX6 40 "EmbargoDesk$Story" "embargo" "I" ∈ ed_ws := ed_wm1 (i := 63) rfl rfl
theorem ed_w1_64 : Cond.fieldLink RX8 101 "EmbargoDesk$Story" "embargo" "I" ∈ ed_ws := ed_wm1 (i := 64) rfl rfl
theorem ed_w1_65 : Cond.fieldLink RX5 135 "EmbargoDesk$Story" "embargo" "I" ∈ ed_ws := ed_wm1 (i := 65) rfl rfl
theorem ed_w1_66 : Cond.fieldLink RX6 44 "EmbargoDesk$Story" "slugSize" "I" ∈ ed_ws := ed_wm1 (i := 66) rfl rfl
theorem ed_w1_67 : Cond.fieldLink RX8 163 "EmbargoDesk$Story" "slugSize" "I" ∈ ed_ws := ed_wm1 (i := 67) rfl rfl
theorem ed_w1_68 : Cond.fieldLink RX6 15 "EmbargoDesk$Story" "slug" "[I" ∈ ed_ws := ed_wm1 (i := 68) rfl rfl
theorem ed_w1_69 : Cond.fieldLink RX6 46 "EmbargoDesk$Story" "state" "I" ∈ ed_ws := ed_wm1 (i := 69) rfl rfl
theorem ed_w1_70 : Cond.fieldLink RX8 92 "EmbargoDesk$Story" "state" "I" ∈ ed_ws := ed_wm1 (i := 70) rfl rfl
theorem ed_w1_71 : Cond.fieldLink RX5 132 "EmbargoDesk$Story" "state" "I" ∈ ed_ws := ed_wm1 (i := 71) rfl rfl
theorem ed_w1_72 : Cond.fieldLink RX6 49 "EmbargoDesk$Story" "version" "I" ∈ ed_ws := ed_wm1 (i := 72) rfl rfl
theorem ed_w1_73 : Cond.fieldLink RX8 113 "EmbargoDesk$Story" "version" "I" ∈ ed_ws := ed_wm1 (i := 73) rfl rfl
theorem ed_w1_74 : Cond.fieldLink RX5 202 "EmbargoDesk$Story" "version" "I" ∈ ed_ws := ed_wm1 (i := 74) rfl rfl
theorem ed_w1_75 : Cond.fieldLink RX6 18 "EmbargoDesk$Story" "corrections" "[I" ∈ ed_ws := ed_wm1 (i := 75) rfl rfl
theorem ed_w1_76 : Cond.fieldLink RX6 52 "EmbargoDesk$Story" "publishedAt" "I" ∈ ed_ws := ed_wm1 (i := 76) rfl rfl
theorem ed_w1_77 : Cond.fieldLink RX5 152 "EmbargoDesk$Story" "publishedAt" "I" ∈ ed_ws := ed_wm1 (i := 77) rfl rfl
theorem ed_w1_78 : Cond.fieldLink RX8 160 "EmbargoDesk$Story" "publishedAt" "I" ∈ ed_ws := ed_wm1 (i := 78) rfl rfl
theorem ed_w1_79 : Cond.fieldLink RX6 55 "EmbargoDesk$Story" "killedAt" "I" ∈ ed_ws := ed_wm1 (i := 79) rfl rfl
theorem ed_w1_80 : Cond.fieldLink RX8 130 "EmbargoDesk$Story" "killedAt" "I" ∈ ed_ws := ed_wm1 (i := 80) rfl rfl
theorem ed_w1_81 : Cond.fieldLink RX5 250 "EmbargoDesk$Story" "killedAt" "I" ∈ ed_ws := ed_wm1 (i := 81) rfl rfl
theorem ed_w1_82 : Cond.lays "EmbargoDesk$Story" "EmbargoDesk$Story" "topic" "I" ∈ ed_ws := ed_wm1 (i := 82) rfl rfl
theorem ed_w1_84 : Cond.lays "EmbargoDesk$Story" "EmbargoDesk$Story" "bylineSize" "I" ∈ ed_ws := ed_wm1 (i := 84) rfl rfl
theorem ed_w1_86 : Cond.laysFinal "EmbargoDesk$Story" "EmbargoDesk$Story" "byline" "[I" ∈ ed_ws := ed_wm1 (i := 86) rfl rfl
theorem ed_w1_88 : Cond.lays "EmbargoDesk$Story" "EmbargoDesk$Story" "embargo" "I" ∈ ed_ws := ed_wm1 (i := 88) rfl rfl
theorem ed_w1_90 : Cond.lays "EmbargoDesk$Story" "EmbargoDesk$Story" "slugSize" "I" ∈ ed_ws := ed_wm1 (i := 90) rfl rfl
theorem ed_w1_92 : Cond.laysFinal "EmbargoDesk$Story" "EmbargoDesk$Story" "slug" "[I" ∈ ed_ws := ed_wm1 (i := 92) rfl rfl
theorem ed_w1_94 : Cond.lays "EmbargoDesk$Story" "EmbargoDesk$Story" "state" "I" ∈ ed_ws := ed_wm1 (i := 94) rfl rfl
theorem ed_w1_96 : Cond.lays "EmbargoDesk$Story" "EmbargoDesk$Story" "version" "I" ∈ ed_ws := ed_wm1 (i := 96) rfl rfl
theorem ed_w1_98 : Cond.laysFinal "EmbargoDesk$Story" "EmbargoDesk$Story" "corrections" "[I" ∈ ed_ws := ed_wm1 (i := 98) rfl rfl
theorem ed_w1_100 : Cond.lays "EmbargoDesk$Story" "EmbargoDesk$Story" "publishedAt" "I" ∈ ed_ws := ed_wm1 (i := 100) rfl rfl
theorem ed_w1_102 : Cond.lays "EmbargoDesk$Story" "EmbargoDesk$Story" "killedAt" "I" ∈ ed_ws := ed_wm1 (i := 102) rfl rfl
theorem ed_w1_105 : Cond.instantiable RX0 10 ∈ ed_ws := ed_wm1 (i := 105) rfl rfl
theorem ed_w1_107 : Cond.instanceMethod yX0_init ∈ ed_ws := ed_wm1 (i := 107) rfl rfl
theorem ed_w1_108 : Cond.code yX0_init cX0_init 1 none ∈ ed_ws := ed_wm1 (i := 108) rfl rfl
theorem ed_w1_109 : Cond.methodLink RX0 1 objectInit ∈ ed_ws := ed_wm1 (i := 109) rfl rfl
theorem ed_w1_110 : Cond.fieldLink RX0 7 "EmbargoDesk$Client" "topics" "I" ∈ ed_ws := ed_wm1 (i := 110) rfl rfl
theorem ed_w1_111 : Cond.fieldLink RX8 59 "EmbargoDesk$Client" "topics" "I" ∈ ed_ws := ed_wm1 (i := 111) rfl rfl
theorem ed_w1_112 : Cond.fieldLink RX0 13 "EmbargoDesk$Client" "delay" "I" ∈ ed_ws := ed_wm1 (i := 112) rfl rfl
theorem ed_w1_113 : Cond.fieldLink RX5 166 "EmbargoDesk$Client" "delay" "I" ∈ ed_ws := ed_wm1 (i := 113) rfl rfl
theorem ed_w1_114 : Cond.fieldLink RX8 178 "EmbargoDesk$Client" "delay" "I" ∈ ed_ws := ed_wm1 (i := 114) rfl rfl
theorem ed_w1_115 : Cond.fieldLink RX0 16 "EmbargoDesk$Client" "lag" "I" ∈ ed_ws := ed_wm1 (i := 115) rfl rfl
theorem ed_w1_116 : Cond.fieldLink RX5 244 "EmbargoDesk$Client" "lag" "I" ∈ ed_ws := ed_wm1 (i := 116) rfl rfl
theorem ed_w1_117 : Cond.fieldLink RX8 181 "EmbargoDesk$Client" "lag" "I" ∈ ed_ws := ed_wm1 (i := 117) rfl rfl
theorem ed_w1_118 : Cond.fieldLink RX0 19 "EmbargoDesk$Client" "limit" "I" ∈ ed_ws := ed_wm1 (i := 118) rfl rfl
theorem ed_w1_119 : Cond.fieldLink RX8 184 "EmbargoDesk$Client" "limit" "I" ∈ ed_ws := ed_wm1 (i := 119) rfl rfl
theorem ed_w1_120 : Cond.fieldLink RX0 22 "EmbargoDesk$Client" "fee" "I" ∈ ed_ws := ed_wm1 (i := 120) rfl rfl
theorem ed_w1_121 : Cond.fieldLink RX5 216 "EmbargoDesk$Client" "fee" "I" ∈ ed_ws := ed_wm1 (i := 121) rfl rfl
theorem ed_w1_122 : Cond.fieldLink RX8 187 "EmbargoDesk$Client" "fee" "I" ∈ ed_ws := ed_wm1 (i := 122) rfl rfl
theorem ed_w1_123 : Cond.fieldLink RX0 25 "EmbargoDesk$Client" "up" "Z" ∈ ed_ws := ed_wm1 (i := 123) rfl rfl
theorem ed_w1_124 : Cond.fieldLink RX8 62 "EmbargoDesk$Client" "up" "Z" ∈ ed_ws := ed_wm1 (i := 124) rfl rfl
theorem ed_w1_125 : Cond.fieldLink RX5 191 "EmbargoDesk$Client" "up" "Z" ∈ ed_ws := ed_wm1 (i := 125) rfl rfl
theorem ed_w1_126 : Cond.fieldLink RX0 29 "EmbargoDesk$Client" "owed" "I" ∈ ed_ws := ed_wm1 (i := 126) rfl rfl
theorem ed_w1_127 : Cond.fieldLink RX8 73 "EmbargoDesk$Client" "owed" "I" ∈ ed_ws := ed_wm1 (i := 127) rfl rfl
theorem ed_w1_128 : Cond.fieldLink RX5 213 "EmbargoDesk$Client" "owed" "I" ∈ ed_ws := ed_wm1 (i := 128) rfl rfl
theorem ed_w1_129 : Cond.fieldLink RX0 32 "EmbargoDesk$Client" "today" "I" ∈ ed_ws := ed_wm1 (i := 129) rfl rfl
theorem ed_w1_130 : Cond.fieldLink RX5 149 "EmbargoDesk$Client" "today" "I" ∈ ed_ws := ed_wm1 (i := 130) rfl rfl
theorem ed_w1_131 : Cond.fieldLink RX8 190 "EmbargoDesk$Client" "today" "I" ∈ ed_ws := ed_wm1 (i := 131) rfl rfl
theorem ed_w1_132 : Cond.fieldLink RX0 35 "EmbargoDesk$Client" "total" "I" ∈ ed_ws := ed_wm1 (i := 132) rfl rfl
theorem ed_w1_133 : Cond.fieldLink RX5 206 "EmbargoDesk$Client" "total" "I" ∈ ed_ws := ed_wm1 (i := 133) rfl rfl
theorem ed_w1_134 : Cond.fieldLink RX8 193 "EmbargoDesk$Client" "total" "I" ∈ ed_ws := ed_wm1 (i := 134) rfl rfl
theorem ed_w1_135 : Cond.fieldLink RX0 38 "EmbargoDesk$Client" "unbilled" "I" ∈ ed_ws := ed_wm1 (i := 135) rfl rfl
theorem ed_w1_136 : Cond.fieldLink RX5 221 "EmbargoDesk$Client" "unbilled" "I" ∈ ed_ws := ed_wm1 (i := 136) rfl rfl
theorem ed_w1_137 : Cond.fieldLink RX8 196 "EmbargoDesk$Client" "unbilled" "I" ∈ ed_ws := ed_wm1 (i := 137) rfl rfl
theorem ed_w1_138 : Cond.lays "EmbargoDesk$Client" "EmbargoDesk$Client" "topics" "I" ∈ ed_ws := ed_wm1 (i := 138) rfl rfl
theorem ed_w1_140 : Cond.lays "EmbargoDesk$Client" "EmbargoDesk$Client" "delay" "I" ∈ ed_ws := ed_wm1 (i := 140) rfl rfl
theorem ed_w1_142 : Cond.lays "EmbargoDesk$Client" "EmbargoDesk$Client" "lag" "I" ∈ ed_ws := ed_wm1 (i := 142) rfl rfl
theorem ed_w1_144 : Cond.lays "EmbargoDesk$Client" "EmbargoDesk$Client" "limit" "I" ∈ ed_ws := ed_wm1 (i := 144) rfl rfl
theorem ed_w1_146 : Cond.lays "EmbargoDesk$Client" "EmbargoDesk$Client" "fee" "I" ∈ ed_ws := ed_wm1 (i := 146) rfl rfl
theorem ed_w1_148 : Cond.lays "EmbargoDesk$Client" "EmbargoDesk$Client" "up" "Z" ∈ ed_ws := ed_wm1 (i := 148) rfl rfl
theorem ed_w1_150 : Cond.lays "EmbargoDesk$Client" "EmbargoDesk$Client" "owed" "I" ∈ ed_ws := ed_wm1 (i := 150) rfl rfl
theorem ed_w1_152 : Cond.lays "EmbargoDesk$Client" "EmbargoDesk$Client" "today" "I" ∈ ed_ws := ed_wm1 (i := 152) rfl rfl
theorem ed_w1_154 : Cond.lays "EmbargoDesk$Client" "EmbargoDesk$Client" "total" "I" ∈ ed_ws := ed_wm1 (i := 154) rfl rfl
theorem ed_w1_156 : Cond.lays "EmbargoDesk$Client" "EmbargoDesk$Client" "unbilled" "I" ∈ ed_ws := ed_wm1 (i := 156) rfl rfl
theorem ed_w1_159 : Cond.instantiable RX1 6 ∈ ed_ws := ed_wm1 (i := 159) rfl rfl
theorem ed_w1_161 : Cond.instanceMethod yX1_init ∈ ed_ws := ed_wm1 (i := 161) rfl rfl
theorem ed_w1_162 : Cond.code yX1_init cX1_init 1 none ∈ ed_ws := ed_wm1 (i := 162) rfl rfl
theorem ed_w1_163 : Cond.methodLink RX1 3 objectInit ∈ ed_ws := ed_wm1 (i := 163) rfl rfl
theorem ed_w1_164 : Cond.fieldLink RX1 9 "EmbargoDesk$Copy" "story" "I" ∈ ed_ws := ed_wm1 (i := 164) rfl rfl
theorem ed_w1_165 : Cond.fieldLink RX5 123 "EmbargoDesk$Copy" "story" "I" ∈ ed_ws := ed_wm1 (i := 165) rfl rfl
theorem ed_w1_166 : Cond.fieldLink RX8 251 "EmbargoDesk$Copy" "story" "I" ∈ ed_ws := ed_wm1 (i := 166) rfl rfl
theorem ed_w1_167 : Cond.fieldLink RX1 15 "EmbargoDesk$Copy" "client" "I" ∈ ed_ws := ed_wm1 (i := 167) rfl rfl
theorem ed_w1_168 : Cond.fieldLink RX5 126 "EmbargoDesk$Copy" "client" "I" ∈ ed_ws := ed_wm1 (i := 168) rfl rfl
theorem ed_w1_169 : Cond.fieldLink RX8 254 "EmbargoDesk$Copy" "client" "I" ∈ ed_ws := ed_wm1 (i := 169) rfl rfl
theorem ed_w1_170 : Cond.fieldLink RX1 18 "EmbargoDesk$Copy" "state" "I" ∈ ed_ws := ed_wm1 (i := 170) rfl rfl
theorem ed_w1_171 : Cond.fieldLink RX5 176 "EmbargoDesk$Copy" "state" "I" ∈ ed_ws := ed_wm1 (i := 171) rfl rfl
theorem ed_w1_172 : Cond.fieldLink RX8 221 "EmbargoDesk$Copy" "state" "I" ∈ ed_ws := ed_wm1 (i := 172) rfl rfl
theorem ed_w1_173 : Cond.fieldLink RX1 21 "EmbargoDesk$Copy" "due" "I" ∈ ed_ws := ed_wm1 (i := 173) rfl rfl
theorem ed_w1_174 : Cond.fieldLink RX5 177 "EmbargoDesk$Copy" "due" "I" ∈ ed_ws := ed_wm1 (i := 174) rfl rfl
theorem ed_w1_175 : Cond.fieldLink RX8 224 "EmbargoDesk$Copy" "due" "I" ∈ ed_ws := ed_wm1 (i := 175) rfl rfl
theorem ed_w1_176 : Cond.fieldLink RX1 24 "EmbargoDesk$Copy" "startedAt" "I" ∈ ed_ws := ed_wm1 (i := 176) rfl rfl
theorem ed_w1_177 : Cond.fieldLink RX5 199 "EmbargoDesk$Copy" "startedAt" "I" ∈ ed_ws := ed_wm1 (i := 177) rfl rfl
theorem ed_w1_178 : Cond.fieldLink RX8 227 "EmbargoDesk$Copy" "startedAt" "I" ∈ ed_ws := ed_wm1 (i := 178) rfl rfl
theorem ed_w1_179 : Cond.fieldLink RX1 27 "EmbargoDesk$Copy" "version" "I" ∈ ed_ws := ed_wm1 (i := 179) rfl rfl
theorem ed_w1_180 : Cond.fieldLink RX5 205 "EmbargoDesk$Copy" "version" "I" ∈ ed_ws := ed_wm1 (i := 180) rfl rfl
theorem ed_w1_181 : Cond.fieldLink RX8 230 "EmbargoDesk$Copy" "version" "I" ∈ ed_ws := ed_wm1 (i := 181) rfl rfl
theorem ed_w1_182 : Cond.lays "EmbargoDesk$Copy" "EmbargoDesk$Copy" "story" "I" ∈ ed_ws := ed_wm1 (i := 182) rfl rfl
theorem ed_w1_184 : Cond.lays "EmbargoDesk$Copy" "EmbargoDesk$Copy" "client" "I" ∈ ed_ws := ed_wm1 (i := 184) rfl rfl
theorem ed_w1_186 : Cond.lays "EmbargoDesk$Copy" "EmbargoDesk$Copy" "state" "I" ∈ ed_ws := ed_wm1 (i := 186) rfl rfl
theorem ed_w1_188 : Cond.lays "EmbargoDesk$Copy" "EmbargoDesk$Copy" "due" "I" ∈ ed_ws := ed_wm1 (i := 188) rfl rfl
theorem ed_w1_190 : Cond.lays "EmbargoDesk$Copy" "EmbargoDesk$Copy" "startedAt" "I" ∈ ed_ws := ed_wm1 (i := 190) rfl rfl
theorem ed_w1_192 : Cond.lays "EmbargoDesk$Copy" "EmbargoDesk$Copy" "version" "I" ∈ ed_ws := ed_wm1 (i := 192) rfl rfl
theorem ed_w1_195 : Cond.instantiable RX4 2 ∈ ed_ws := ed_wm1 (i := 195) rfl rfl
theorem ed_w1_197 : Cond.instanceMethod yX4_init ∈ ed_ws := ed_wm1 (i := 197) rfl rfl
theorem ed_w1_198 : Cond.code yX4_init cX4_init 1 none ∈ ed_ws := ed_wm1 (i := 198) rfl rfl
theorem ed_w1_199 : Cond.methodLink RX4 3 objectInit ∈ ed_ws := ed_wm1 (i := 199) rfl rfl
theorem ed_w1_200 : Cond.fieldLink RX4 9 "EmbargoDesk$Person" "got" "I" ∈ ed_ws := ed_wm1 (i := 200) rfl rfl
theorem ed_w1_201 : Cond.fieldLink RX5 107 "EmbargoDesk$Person" "got" "I" ∈ ed_ws := ed_wm1 (i := 201) rfl rfl
theorem ed_w1_202 : Cond.fieldLink RX8 203 "EmbargoDesk$Person" "got" "I" ∈ ed_ws := ed_wm1 (i := 202) rfl rfl
theorem ed_w1_203 : Cond.fieldLink RX4 17 "EmbargoDesk$Person" "lost" "I" ∈ ed_ws := ed_wm1 (i := 203) rfl rfl
theorem ed_w1_204 : Cond.fieldLink RX5 110 "EmbargoDesk$Person" "lost" "I" ∈ ed_ws := ed_wm1 (i := 204) rfl rfl
theorem ed_w1_205 : Cond.fieldLink RX8 208 "EmbargoDesk$Person" "lost" "I" ∈ ed_ws := ed_wm1 (i := 205) rfl rfl
theorem ed_w1_206 : Cond.lays "EmbargoDesk$Person" "EmbargoDesk$Person" "got" "I" ∈ ed_ws := ed_wm1 (i := 206) rfl rfl
theorem ed_w1_208 : Cond.lays "EmbargoDesk$Person" "EmbargoDesk$Person" "lost" "I" ∈ ed_ws := ed_wm1 (i := 208) rfl rfl
theorem ed_w1_211 : Cond.fieldLink RX5 50 "EmbargoDesk$State" "hour" "I" ∈ ed_ws := ed_wm1 (i := 211) rfl rfl
theorem ed_w1_212 : Cond.fieldLink RX8 104 "EmbargoDesk$State" "hour" "I" ∈ ed_ws := ed_wm1 (i := 212) rfl rfl
theorem ed_w1_213 : Cond.fieldLink RX5 9 "EmbargoDesk$State" "useDays" "I" ∈ ed_ws := ed_wm1 (i := 213) rfl rfl
theorem ed_w1_214 : Cond.fieldLink RX8 70 "EmbargoDesk$State" "useDays" "I" ∈ ed_ws := ed_wm1 (i := 214) rfl rfl
theorem ed_w1_215 : Cond.fieldLink RX5 53 "EmbargoDesk$State" "corrected" "I" ∈ ed_ws := ed_wm1 (i := 215) rfl rfl
theorem ed_w1_216 : Cond.fieldLink RX8 266 "EmbargoDesk$State" "corrected" "I" ∈ ed_ws := ed_wm1 (i := 216) rfl rfl
theorem ed_w1_217 : Cond.fieldLink RX5 73 "EmbargoDesk$State" "storyCount" "I" ∈ ed_ws := ed_wm1 (i := 217) rfl rfl
theorem ed_w1_218 : Cond.fieldLink RX8 80 "EmbargoDesk$State" "storyCount" "I" ∈ ed_ws := ed_wm1 (i := 218) rfl rfl
theorem ed_w1_219 : Cond.fieldLink RX8 41 "EmbargoDesk$State" "clientCount" "I" ∈ ed_ws := ed_wm1 (i := 219) rfl rfl
theorem ed_w1_220 : Cond.fieldLink RX5 83 "EmbargoDesk$State" "clientCount" "I" ∈ ed_ws := ed_wm1 (i := 220) rfl rfl
theorem ed_w1_221 : Cond.fieldLink RX5 93 "EmbargoDesk$State" "copyCount" "I" ∈ ed_ws := ed_wm1 (i := 221) rfl rfl
theorem ed_w1_222 : Cond.fieldLink RX8 260 "EmbargoDesk$State" "copyCount" "I" ∈ ed_ws := ed_wm1 (i := 222) rfl rfl
theorem ed_w1_223 : Cond.fieldLink RX5 18 "EmbargoDesk$State" "log" "LEmbargoDesk$Log;" ∈ ed_ws := ed_wm1 (i := 223) rfl rfl
theorem ed_w1_224 : Cond.fieldLink RX8 120 "EmbargoDesk$State" "log" "LEmbargoDesk$Log;" ∈ ed_ws := ed_wm1 (i := 224) rfl rfl
theorem ed_w1_225 : Cond.fieldLink RX5 24 "EmbargoDesk$State" "stories" "[LEmbargoDesk$Story;" ∈ ed_ws := ed_wm1 (i := 225) rfl rfl
theorem ed_w1_226 : Cond.fieldLink RX5 30 "EmbargoDesk$State" "clients" "[LEmbargoDesk$Client;" ∈ ed_ws := ed_wm1 (i := 226) rfl rfl
theorem ed_w1_227 : Cond.fieldLink RX5 36 "EmbargoDesk$State" "copies" "[LEmbargoDesk$Copy;" ∈ ed_ws := ed_wm1 (i := 227) rfl rfl
theorem ed_w1_228 : Cond.fieldLink RX5 42 "EmbargoDesk$State" "persons" "[LEmbargoDesk$Person;" ∈ ed_ws := ed_wm1 (i := 228) rfl rfl
theorem ed_w1_229 : Cond.lays "EmbargoDesk$State" "EmbargoDesk$State" "hour" "I" ∈ ed_ws := ed_wm1 (i := 229) rfl rfl
theorem ed_w1_231 : Cond.lays "EmbargoDesk$State" "EmbargoDesk$State" "useDays" "I" ∈ ed_ws := ed_wm1 (i := 231) rfl rfl
theorem ed_w1_233 : Cond.lays "EmbargoDesk$State" "EmbargoDesk$State" "corrected" "I" ∈ ed_ws := ed_wm1 (i := 233) rfl rfl
theorem ed_w1_235 : Cond.lays "EmbargoDesk$State" "EmbargoDesk$State" "storyCount" "I" ∈ ed_ws := ed_wm1 (i := 235) rfl rfl
theorem ed_w1_237 : Cond.lays "EmbargoDesk$State" "EmbargoDesk$State" "clientCount" "I" ∈ ed_ws := ed_wm1 (i := 237) rfl rfl
theorem ed_w1_239 : Cond.lays "EmbargoDesk$State" "EmbargoDesk$State" "copyCount" "I" ∈ ed_ws := ed_wm1 (i := 239) rfl rfl
theorem ed_w2_1 : Cond.laysFinal "EmbargoDesk$State" "EmbargoDesk$State" "log" "LEmbargoDesk$Log;" ∈ ed_ws := ed_wm2 (i := 1) rfl rfl
theorem ed_w2_3 : Cond.laysFinal "EmbargoDesk$State" "EmbargoDesk$State" "stories" "[LEmbargoDesk$Story;" ∈ ed_ws := ed_wm2 (i := 3) rfl rfl
theorem ed_w2_5 : Cond.laysFinal "EmbargoDesk$State" "EmbargoDesk$State" "clients" "[LEmbargoDesk$Client;" ∈ ed_ws := ed_wm2 (i := 5) rfl rfl
theorem ed_w2_7 : Cond.laysFinal "EmbargoDesk$State" "EmbargoDesk$State" "copies" "[LEmbargoDesk$Copy;" ∈ ed_ws := ed_wm2 (i := 7) rfl rfl
theorem ed_w2_9 : Cond.laysFinal "EmbargoDesk$State" "EmbargoDesk$State" "persons" "[LEmbargoDesk$Person;" ∈ ed_ws := ed_wm2 (i := 9) rfl rfl
theorem ed_w2_12 : Cond.classLink RX8 22 RX2 ∈ ed_ws := ed_wm2 (i := 12) rfl rfl
theorem ed_w2_13 : Cond.instantiable RX2 2 ∈ ed_ws := ed_wm2 (i := 13) rfl rfl
theorem ed_w2_14 : Cond.methodLink RX8 24 yX2_init ∈ ed_ws := ed_wm2 (i := 14) rfl rfl
theorem ed_w2_15 : Cond.instanceMethod yX2_init ∈ ed_ws := ed_wm2 (i := 15) rfl rfl
theorem ed_w2_16 : Cond.code yX2_init cX2_init 2 none ∈ ed_ws := ed_wm2 (i := 16) rfl rfl
theorem ed_w2_17 : Cond.methodLink RX2 3 objectInit ∈ ed_ws := ed_wm2 (i := 17) rfl rfl
theorem ed_w2_18 : Cond.classLink RX2 9 RX5 ∈ ed_ws := ed_wm2 (i := 18) rfl rfl
theorem ed_w2_20 : Cond.methodLink RX2 17 yX5_init ∈ ed_ws := ed_wm2 (i := 20) rfl rfl
theorem ed_w2_21 : Cond.fieldLink RX2 11 "EmbargoDesk$History" "rows" "[LEmbargoDesk$State;" ∈ ed_ws := ed_wm2 (i := 21) rfl rfl
theorem ed_w2_22 : Cond.fieldLink RX2 18 "EmbargoDesk$History" "size" "I" ∈ ed_ws := ed_wm2 (i := 22) rfl rfl
theorem ed_w2_23 : Cond.fieldLink RX8 145 "EmbargoDesk$History" "size" "I" ∈ ed_ws := ed_wm2 (i := 23) rfl rfl
theorem ed_w2_24 : Cond.laysFinal "EmbargoDesk$History" "EmbargoDesk$History" "rows" "[LEmbargoDesk$State;" ∈ ed_ws := ed_wm2 (i := 24) rfl rfl
theorem ed_w2_26 : Cond.lays "EmbargoDesk$History" "EmbargoDesk$History" "size" "I" ∈ ed_ws := ed_wm2 (i := 26) rfl rfl
theorem ed_w2_29 : Cond.classLink RX8 29 RX7 ∈ ed_ws := ed_wm2 (i := 29) rfl rfl
theorem ed_w2_30 : Cond.instantiable RX7 9 ∈ ed_ws := ed_wm2 (i := 30) rfl rfl
theorem ed_w2_32 : Cond.instanceMethod yX7_init ∈ ed_ws := ed_wm2 (i := 32) rfl rfl
theorem ed_w2_33 : Cond.code yX7_init cX7_init 1 none ∈ ed_ws := ed_wm2 (i := 33) rfl rfl
theorem ed_w2_34 : Cond.methodLink RX7 3 objectInit ∈ ed_ws := ed_wm2 (i := 34) rfl rfl
theorem ed_w2_35 : Cond.fieldLink RX7 9 "EmbargoDesk$StoryText" "signs" "[I" ∈ ed_ws := ed_wm2 (i := 35) rfl rfl
theorem ed_w2_36 : Cond.fieldLink RX7 21 "EmbargoDesk$StoryText" "length" "I" ∈ ed_ws := ed_wm2 (i := 36) rfl rfl
theorem ed_w2_37 : Cond.fieldLink RX8 139 "EmbargoDesk$StoryText" "length" "I" ∈ ed_ws := ed_wm2 (i := 37) rfl rfl
theorem ed_w2_38 : Cond.fieldLink RX7 29 "EmbargoDesk$StoryText" "at" "I" ∈ ed_ws := ed_wm2 (i := 38) rfl rfl
theorem ed_w2_39 : Cond.fieldLink RX6 21 "EmbargoDesk$StoryText" "topic" "I" ∈ ed_ws := ed_wm2 (i := 39) rfl rfl
theorem ed_w2_40 : Cond.fieldLink RX7 66 "EmbargoDesk$StoryText" "topic" "I" ∈ ed_ws := ed_wm2 (i := 40) rfl rfl
theorem ed_w2_41 : Cond.fieldLink RX6 28 "EmbargoDesk$StoryText" "bylineSize" "I" ∈ ed_ws := ed_wm2 (i := 41) rfl rfl
theorem ed_w2_42 : Cond.fieldLink RX7 69 "EmbargoDesk$StoryText" "bylineSize" "I" ∈ ed_ws := ed_wm2 (i := 42) rfl rfl
theorem ed_w2_43 : Cond.fieldLink RX7 15 "EmbargoDesk$StoryText" "byline" "[I" ∈ ed_ws := ed_wm2 (i := 43) rfl rfl
theorem ed_w2_44 : Cond.fieldLink RX6 32 "EmbargoDesk$StoryText" "byline" "[I" ∈ ed_ws := ed_wm2 (i := 44) rfl rfl
theorem ed_w2_45 : Cond.fieldLink RX6 37 "EmbargoDesk$StoryText" "embargo" "I" ∈ ed_ws := ed_wm2 (i := 45) rfl rfl
theorem ed_w2_46 : Cond.fieldLink RX7 79 "EmbargoDesk$StoryText" "embargo" "I" ∈ ed_ws := ed_wm2 (i := 46) rfl rfl
theorem ed_w2_47 : Cond.fieldLink RX6 41 "EmbargoDesk$StoryText" "slugSize" "I" ∈ ed_ws := ed_wm2 (i := 47) rfl rfl
theorem ed_w2_48 : Cond.fieldLink RX7 82 "EmbargoDesk$StoryText" "slugSize" "I" ∈ ed_ws := ed_wm2 (i := 48) rfl rfl
theorem ed_w2_49 : Cond.fieldLink RX7 18 "EmbargoDesk$StoryText" "slug" "[I" ∈ ed_ws := ed_wm2 (i := 49) rfl rfl
theorem ed_w2_50 : Cond.fieldLink RX6 45 "EmbargoDesk$StoryText" "slug" "[I" ∈ ed_ws := ed_wm2 (i := 50) rfl rfl
theorem ed_w2_51 : Cond.laysFinal "EmbargoDesk$StoryText" "EmbargoDesk$StoryText" "signs" "[I" ∈ ed_ws := ed_wm2 (i := 51) rfl rfl
theorem ed_w2_53 : Cond.lays "EmbargoDesk$StoryText" "EmbargoDesk$StoryText" "length" "I" ∈ ed_ws := ed_wm2 (i := 53) rfl rfl
theorem ed_w2_55 : Cond.lays "EmbargoDesk$StoryText" "EmbargoDesk$StoryText" "at" "I" ∈ ed_ws := ed_wm2 (i := 55) rfl rfl
theorem ed_w2_57 : Cond.lays "EmbargoDesk$StoryText" "EmbargoDesk$StoryText" "topic" "I" ∈ ed_ws := ed_wm2 (i := 57) rfl rfl
theorem ed_w2_59 : Cond.lays "EmbargoDesk$StoryText" "EmbargoDesk$StoryText" "bylineSize" "I" ∈ ed_ws := ed_wm2 (i := 59) rfl rfl
theorem ed_w2_61 : Cond.laysFinal "EmbargoDesk$StoryText" "EmbargoDesk$StoryText" "byline" "[I" ∈ ed_ws := ed_wm2 (i := 61) rfl rfl
theorem ed_w2_63 : Cond.lays "EmbargoDesk$StoryText" "EmbargoDesk$StoryText" "embargo" "I" ∈ ed_ws := ed_wm2 (i := 63) rfl rfl
theorem ed_w2_65 : Cond.lays "EmbargoDesk$StoryText" "EmbargoDesk$StoryText" "slugSize" "I" ∈ ed_ws := ed_wm2 (i := 65) rfl rfl
theorem ed_w2_67 : Cond.laysFinal "EmbargoDesk$StoryText" "EmbargoDesk$StoryText" "slug" "[I" ∈ ed_ws := ed_wm2 (i := 67) rfl rfl
theorem ed_w2_70 : Cond.fieldLink RX8 12 "EmbargoDesk" "state" "LEmbargoDesk$State;" ∈ ed_ws := ed_wm2 (i := 70) rfl rfl
theorem ed_w2_71 : Cond.fieldLink RX8 16 "EmbargoDesk" "imagined" "LEmbargoDesk$State;" ∈ ed_ws := ed_wm2 (i := 71) rfl rfl
theorem ed_w2_72 : Cond.fieldLink RX8 19 "EmbargoDesk" "snapshot" "LEmbargoDesk$State;" ∈ ed_ws := ed_wm2 (i := 72) rfl rfl
theorem ed_w2_73 : Cond.fieldLink RX8 154 "EmbargoDesk" "hasSnapshot" "Z" ∈ ed_ws := ed_wm2 (i := 73) rfl rfl
theorem ed_w2_74 : Cond.fieldLink RX8 25 "EmbargoDesk" "history" "LEmbargoDesk$History;" ∈ ed_ws := ed_wm2 (i := 74) rfl rfl
theorem ed_w2_75 : Cond.fieldLink RX8 32 "EmbargoDesk" "text" "LEmbargoDesk$StoryText;" ∈ ed_ws := ed_wm2 (i := 75) rfl rfl
theorem ed_w2_76 : Cond.laysFinal "EmbargoDesk" "EmbargoDesk" "state" "LEmbargoDesk$State;" ∈ ed_ws := ed_wm2 (i := 76) rfl rfl
theorem ed_w2_78 : Cond.laysFinal "EmbargoDesk" "EmbargoDesk" "imagined" "LEmbargoDesk$State;" ∈ ed_ws := ed_wm2 (i := 78) rfl rfl
theorem ed_w2_80 : Cond.laysFinal "EmbargoDesk" "EmbargoDesk" "snapshot" "LEmbargoDesk$State;" ∈ ed_ws := ed_wm2 (i := 80) rfl rfl
theorem ed_w2_82 : Cond.lays "EmbargoDesk" "EmbargoDesk" "hasSnapshot" "Z" ∈ ed_ws := ed_wm2 (i := 82) rfl rfl
theorem ed_w2_84 : Cond.laysFinal "EmbargoDesk" "EmbargoDesk" "history" "LEmbargoDesk$History;" ∈ ed_ws := ed_wm2 (i := 84) rfl rfl
theorem ed_w2_86 : Cond.laysFinal "EmbargoDesk" "EmbargoDesk" "text" "LEmbargoDesk$StoryText;" ∈ ed_ws := ed_wm2 (i := 86) rfl rfl
theorem ed_w2_89 : Cond.methodLink RL 91 yX8_addClient ∈ ed_ws := ed_wm2 (i := 89) rfl rfl
theorem ed_w2_90 : Cond.instanceMethod yX8_addClient ∈ ed_ws := ed_wm2 (i := 90) rfl rfl
theorem ed_w2_91 : Cond.selects RX8 yX8_addClient yX8_addClient ∈ ed_ws := ed_wm2 (i := 91) rfl rfl
theorem ed_w2_92 : Cond.code yX8_addClient cX8_addClient 8 (some .int) ∈ ed_ws := ed_wm2 (i := 92) rfl rfl
theorem ed_w2_93 : Cond.methodLink RX8 36 yX8_isBetween ∈ ed_ws := ed_wm2 (i := 93) rfl rfl
theorem ed_w2_94 : Cond.static yX8_isBetween ∈ ed_ws := ed_wm2 (i := 94) rfl rfl
theorem ed_w2_95 : Cond.code yX8_isBetween cX8_isBetween 3 (some .boolean) ∈ ed_ws := ed_wm2 (i := 95) rfl rfl
theorem ed_w2_96 : Cond.constant RX8 40 (2000000000) ∈ ed_ws := ed_wm2 (i := 96) rfl rfl
theorem ed_w2_97 : Cond.methodLink RX8 45 yX2_remember ∈ ed_ws := ed_wm2 (i := 97) rfl rfl
theorem ed_w2_98 : Cond.instanceMethod yX2_remember ∈ ed_ws := ed_wm2 (i := 98) rfl rfl
theorem ed_w2_99 : Cond.selects RX2 yX2_remember yX2_remember ∈ ed_ws := ed_wm2 (i := 99) rfl rfl
theorem ed_w2_100 : Cond.code yX2_remember cX2_remember 3 none ∈ ed_ws := ed_wm2 (i := 100) rfl rfl
theorem ed_w2_101 : Cond.methodLink RX2 22 yX2_dropOldest ∈ ed_ws := ed_wm2 (i := 101) rfl rfl
theorem ed_w2_103 : Cond.instanceMethod yX2_dropOldest ∈ ed_ws := ed_wm2 (i := 103) rfl rfl
theorem ed_w2_104 : Cond.code yX2_dropOldest cX2_dropOldest 3 none ∈ ed_ws := ed_wm2 (i := 104) rfl rfl
theorem ed_w2_106 : Cond.static yX8_isPlace ∈ ed_ws := ed_wm2 (i := 106) rfl rfl
theorem ed_w2_107 : Cond.code yX8_isPlace cX8_isPlace 2 (some .boolean) ∈ ed_ws := ed_wm2 (i := 107) rfl rfl
theorem ed_w2_108 : Cond.methodLink RX2 29 yX5_copyFrom ∈ ed_ws := ed_wm2 (i := 108) rfl rfl
theorem ed_w2_109 : Cond.instanceMethod yX5_copyFrom ∈ ed_ws := ed_wm2 (i := 109) rfl rfl
theorem ed_w2_110 : Cond.selects RX5 yX5_copyFrom yX5_copyFrom ∈ ed_ws := ed_wm2 (i := 110) rfl rfl
theorem ed_w2_111 : Cond.code yX5_copyFrom cX5_copyFrom 2 none ∈ ed_ws := ed_wm2 (i := 111) rfl rfl
theorem ed_w2_112 : Cond.methodLink RX5 56 yX3_copyFrom ∈ ed_ws := ed_wm2 (i := 112) rfl rfl
theorem ed_w2_113 : Cond.instanceMethod yX3_copyFrom ∈ ed_ws := ed_wm2 (i := 113) rfl rfl
theorem ed_w2_114 : Cond.selects RX3 yX3_copyFrom yX3_copyFrom ∈ ed_ws := ed_wm2 (i := 114) rfl rfl
theorem ed_w2_115 : Cond.code yX3_copyFrom cX3_copyFrom 2 none ∈ ed_ws := ed_wm2 (i := 115) rfl rfl
theorem ed_w2_117 : Cond.static yX8_copyRow ∈ ed_ws := ed_wm2 (i := 117) rfl rfl
theorem ed_w2_118 : Cond.code yX8_copyRow cX8_copyRow 2 none ∈ ed_ws := ed_wm2 (i := 118) rfl rfl
theorem ed_w2_119 : Cond.methodLink RX8 272 Lib.Math.min.name ∈ ed_ws := ed_wm2 (i := 119) rfl rfl
theorem ed_w2_120 : Cond.static Lib.Math.min.name ∈ ed_ws := ed_wm2 (i := 120) rfl rfl
theorem ed_w2_121 : Cond.code Lib.Math.min.name Lib.Math.min.code 2 (some .int) ∈ ed_ws := ed_wm2 (i := 121) rfl rfl
theorem ed_w2_122 : Cond.methodLink RX8 275 arraycopyName ∈ ed_ws := ed_wm2 (i := 122) rfl rfl
theorem ed_w2_123 : Cond.static arraycopyName ∈ ed_ws := ed_wm2 (i := 123) rfl rfl
theorem ed_w2_124 : Cond.native arraycopyName ∈ ed_ws := ed_wm2 (i := 124) rfl rfl
theorem ed_w2_125 : Cond.methodLink RX5 60 yX5_copyStories ∈ ed_ws := ed_wm2 (i := 125) rfl rfl
theorem ed_w2_127 : Cond.instanceMethod yX5_copyStories ∈ ed_ws := ed_wm2 (i := 127) rfl rfl
theorem ed_w2_128 : Cond.code yX5_copyStories cX5_copyStories 5 none ∈ ed_ws := ed_wm2 (i := 128) rfl rfl
theorem ed_w2_129 : Cond.methodLink RX5 76 yX5_storyAt ∈ ed_ws := ed_wm2 (i := 129) rfl rfl
theorem ed_w2_130 : Cond.instanceMethod yX5_storyAt ∈ ed_ws := ed_wm2 (i := 130) rfl rfl
theorem ed_w2_131 : Cond.selects RX5 yX5_storyAt yX5_storyAt ∈ ed_ws := ed_wm2 (i := 131) rfl rfl
theorem ed_w2_132 : Cond.code yX5_storyAt cX5_storyAt 2 (some (.object "EmbargoDesk$Story")) ∈ ed_ws := ed_wm2 (i := 132) rfl rfl
theorem ed_w2_133 : Cond.methodLink RX5 113 Lib.Math.min.name ∈ ed_ws := ed_wm2 (i := 133) rfl rfl
theorem ed_w2_135 : Cond.methodLink RX5 80 yX6_copyFrom ∈ ed_ws := ed_wm2 (i := 135) rfl rfl
theorem ed_w2_136 : Cond.instanceMethod yX6_copyFrom ∈ ed_ws := ed_wm2 (i := 136) rfl rfl
theorem ed_w2_137 : Cond.selects RX6 yX6_copyFrom yX6_copyFrom ∈ ed_ws := ed_wm2 (i := 137) rfl rfl
theorem ed_w2_138 : Cond.code yX6_copyFrom cX6_copyFrom 2 none ∈ ed_ws := ed_wm2 (i := 138) rfl rfl
theorem ed_w2_140 : Cond.methodLink RX5 64 yX5_copyClients ∈ ed_ws := ed_wm2 (i := 140) rfl rfl
theorem ed_w2_142 : Cond.instanceMethod yX5_copyClients ∈ ed_ws := ed_wm2 (i := 142) rfl rfl
theorem ed_w2_143 : Cond.code yX5_copyClients cX5_copyClients 5 none ∈ ed_ws := ed_wm2 (i := 143) rfl rfl
theorem ed_w2_144 : Cond.methodLink RX5 86 yX5_clientAt ∈ ed_ws := ed_wm2 (i := 144) rfl rfl
theorem ed_w2_145 : Cond.instanceMethod yX5_clientAt ∈ ed_ws := ed_wm2 (i := 145) rfl rfl
theorem ed_w2_146 : Cond.selects RX5 yX5_clientAt yX5_clientAt ∈ ed_ws := ed_wm2 (i := 146) rfl rfl
theorem ed_w2_147 : Cond.code yX5_clientAt cX5_clientAt 2 (some (.object "EmbargoDesk$Client")) ∈ ed_ws := ed_wm2 (i := 147) rfl rfl
theorem ed_w2_148 : Cond.methodLink RX5 90 yX0_copyFrom ∈ ed_ws := ed_wm2 (i := 148) rfl rfl
theorem ed_w2_149 : Cond.instanceMethod yX0_copyFrom ∈ ed_ws := ed_wm2 (i := 149) rfl rfl
theorem ed_w2_150 : Cond.selects RX0 yX0_copyFrom yX0_copyFrom ∈ ed_ws := ed_wm2 (i := 150) rfl rfl
theorem ed_w2_151 : Cond.code yX0_copyFrom cX0_copyFrom 2 none ∈ ed_ws := ed_wm2 (i := 151) rfl rfl
theorem ed_w2_152 : Cond.methodLink RX5 67 yX5_copyCopies ∈ ed_ws := ed_wm2 (i := 152) rfl rfl
theorem ed_w2_154 : Cond.instanceMethod yX5_copyCopies ∈ ed_ws := ed_wm2 (i := 154) rfl rfl
theorem ed_w2_155 : Cond.code yX5_copyCopies cX5_copyCopies 5 none ∈ ed_ws := ed_wm2 (i := 155) rfl rfl
theorem ed_w2_156 : Cond.methodLink RX5 96 yX5_copyMade ∈ ed_ws := ed_wm2 (i := 156) rfl rfl
theorem ed_w2_157 : Cond.instanceMethod yX5_copyMade ∈ ed_ws := ed_wm2 (i := 157) rfl rfl
theorem ed_w2_158 : Cond.selects RX5 yX5_copyMade yX5_copyMade ∈ ed_ws := ed_wm2 (i := 158) rfl rfl
theorem ed_w2_159 : Cond.code yX5_copyMade cX5_copyMade 2 (some (.object "EmbargoDesk$Copy")) ∈ ed_ws := ed_wm2 (i := 159) rfl rfl
theorem ed_w2_160 : Cond.methodLink RX5 100 yX1_copyFrom ∈ ed_ws := ed_wm2 (i := 160) rfl rfl
theorem ed_w2_161 : Cond.instanceMethod yX1_copyFrom ∈ ed_ws := ed_wm2 (i := 161) rfl rfl
theorem ed_w2_162 : Cond.selects RX1 yX1_copyFrom yX1_copyFrom ∈ ed_ws := ed_wm2 (i := 162) rfl rfl
theorem ed_w2_163 : Cond.code yX1_copyFrom cX1_copyFrom 2 none ∈ ed_ws := ed_wm2 (i := 163) rfl rfl
theorem ed_w2_164 : Cond.methodLink RX5 70 yX5_copyPersons ∈ ed_ws := ed_wm2 (i := 164) rfl rfl
theorem ed_w2_166 : Cond.instanceMethod yX5_copyPersons ∈ ed_ws := ed_wm2 (i := 166) rfl rfl
theorem ed_w2_167 : Cond.code yX5_copyPersons cX5_copyPersons 5 none ∈ ed_ws := ed_wm2 (i := 167) rfl rfl
theorem ed_w2_168 : Cond.methodLink RX5 103 yX5_personAt ∈ ed_ws := ed_wm2 (i := 168) rfl rfl
theorem ed_w2_169 : Cond.instanceMethod yX5_personAt ∈ ed_ws := ed_wm2 (i := 169) rfl rfl
theorem ed_w2_170 : Cond.selects RX5 yX5_personAt yX5_personAt ∈ ed_ws := ed_wm2 (i := 170) rfl rfl
theorem ed_w2_171 : Cond.code yX5_personAt cX5_personAt 2 (some (.object "EmbargoDesk$Person")) ∈ ed_ws := ed_wm2 (i := 171) rfl rfl
theorem ed_w2_172 : Cond.methodLink RX8 49 yX5_clientAt ∈ ed_ws := ed_wm2 (i := 172) rfl rfl
theorem ed_w2_173 : Cond.methodLink RX8 53 yX0_begin ∈ ed_ws := ed_wm2 (i := 173) rfl rfl
theorem ed_w2_174 : Cond.instanceMethod yX0_begin ∈ ed_ws := ed_wm2 (i := 174) rfl rfl
theorem ed_w2_175 : Cond.selects RX0 yX0_begin yX0_begin ∈ ed_ws := ed_wm2 (i := 175) rfl rfl
theorem ed_w2_176 : Cond.code yX0_begin cX0_begin 6 none ∈ ed_ws := ed_wm2 (i := 176) rfl rfl
theorem ed_w2_177 : Cond.methodLink RL 88 yX8_setUse ∈ ed_ws := ed_wm2 (i := 177) rfl rfl
theorem ed_w2_178 : Cond.instanceMethod yX8_setUse ∈ ed_ws := ed_wm2 (i := 178) rfl rfl
theorem ed_w2_179 : Cond.selects RX8 yX8_setUse yX8_setUse ∈ ed_ws := ed_wm2 (i := 179) rfl rfl
theorem ed_w2_180 : Cond.code yX8_setUse cX8_setUse 3 (some .int) ∈ ed_ws := ed_wm2 (i := 180) rfl rfl
theorem ed_w2_181 : Cond.methodLink RL 95 yX8_pay ∈ ed_ws := ed_wm2 (i := 181) rfl rfl
theorem ed_w2_182 : Cond.instanceMethod yX8_pay ∈ ed_ws := ed_wm2 (i := 182) rfl rfl
theorem ed_w2_183 : Cond.selects RX8 yX8_pay yX8_pay ∈ ed_ws := ed_wm2 (i := 183) rfl rfl
theorem ed_w2_184 : Cond.code yX8_pay cX8_pay 4 (some .int) ∈ ed_ws := ed_wm2 (i := 184) rfl rfl
theorem ed_w2_185 : Cond.methodLink RL 43 yX8_readStory ∈ ed_ws := ed_wm2 (i := 185) rfl rfl
theorem ed_w2_186 : Cond.instanceMethod yX8_readStory ∈ ed_ws := ed_wm2 (i := 186) rfl rfl
theorem ed_w2_187 : Cond.selects RX8 yX8_readStory yX8_readStory ∈ ed_ws := ed_wm2 (i := 187) rfl rfl
theorem ed_w2_188 : Cond.code yX8_readStory cX8_readStory 4 (some .int) ∈ ed_ws := ed_wm2 (i := 188) rfl rfl
theorem ed_w2_189 : Cond.methodLink RX8 76 yX7_parse ∈ ed_ws := ed_wm2 (i := 189) rfl rfl
theorem ed_w2_190 : Cond.instanceMethod yX7_parse ∈ ed_ws := ed_wm2 (i := 190) rfl rfl
theorem ed_w2_191 : Cond.selects RX7 yX7_parse yX7_parse ∈ ed_ws := ed_wm2 (i := 191) rfl rfl
theorem ed_w2_192 : Cond.code yX7_parse cX7_parse 2 (some .int) ∈ ed_ws := ed_wm2 (i := 192) rfl rfl
theorem ed_w2_193 : Cond.methodLink RX7 32 yX7_readTopic ∈ ed_ws := ed_wm2 (i := 193) rfl rfl
theorem ed_w2_195 : Cond.instanceMethod yX7_readTopic ∈ ed_ws := ed_wm2 (i := 195) rfl rfl
theorem ed_w2_196 : Cond.code yX7_readTopic cX7_readTopic 1 (some .boolean) ∈ ed_ws := ed_wm2 (i := 196) rfl rfl
theorem ed_w2_197 : Cond.methodLink RX7 63 yX7_digit ∈ ed_ws := ed_wm2 (i := 197) rfl rfl
theorem ed_w2_199 : Cond.instanceMethod yX7_digit ∈ ed_ws := ed_wm2 (i := 199) rfl rfl
theorem ed_w2_200 : Cond.code yX7_digit cX7_digit 1 (some .int) ∈ ed_ws := ed_wm2 (i := 200) rfl rfl
theorem ed_w2_201 : Cond.methodLink RX7 55 yX7_sign ∈ ed_ws := ed_wm2 (i := 201) rfl rfl
theorem ed_w2_203 : Cond.instanceMethod yX7_sign ∈ ed_ws := ed_wm2 (i := 203) rfl rfl
theorem ed_w2_204 : Cond.code yX7_sign cX7_sign 1 (some .int) ∈ ed_ws := ed_wm2 (i := 204) rfl rfl
theorem ed_w2_205 : Cond.methodLink RX7 49 Lib.Math.min.name ∈ ed_ws := ed_wm2 (i := 205) rfl rfl
theorem ed_w2_208 : Cond.methodLink RX7 36 yX7_readSign ∈ ed_ws := ed_wm2 (i := 208) rfl rfl
theorem ed_w2_210 : Cond.instanceMethod yX7_readSign ∈ ed_ws := ed_wm2 (i := 210) rfl rfl
theorem ed_w2_211 : Cond.code yX7_readSign cX7_readSign 2 (some .boolean) ∈ ed_ws := ed_wm2 (i := 211) rfl rfl
theorem ed_w2_212 : Cond.methodLink RX7 40 yX7_readByline ∈ ed_ws := ed_wm2 (i := 212) rfl rfl
theorem ed_w2_214 : Cond.instanceMethod yX7_readByline ∈ ed_ws := ed_wm2 (i := 214) rfl rfl
theorem ed_w2_215 : Cond.code yX7_readByline cX7_readByline 2 (some .boolean) ∈ ed_ws := ed_wm2 (i := 215) rfl rfl
theorem ed_w2_216 : Cond.methodLink RX7 72 yX7_readPerson ∈ ed_ws := ed_wm2 (i := 216) rfl rfl
theorem ed_w2_218 : Cond.instanceMethod yX7_readPerson ∈ ed_ws := ed_wm2 (i := 218) rfl rfl
theorem ed_w2_219 : Cond.code yX7_readPerson cX7_readPerson 2 (some .boolean) ∈ ed_ws := ed_wm2 (i := 219) rfl rfl
theorem ed_w2_220 : Cond.methodLink RX7 75 yX7_isInByline ∈ ed_ws := ed_wm2 (i := 220) rfl rfl
theorem ed_w2_222 : Cond.instanceMethod yX7_isInByline ∈ ed_ws := ed_wm2 (i := 222) rfl rfl
theorem ed_w2_223 : Cond.code yX7_isInByline cX7_isInByline 3 (some .boolean) ∈ ed_ws := ed_wm2 (i := 223) rfl rfl
theorem ed_w2_224 : Cond.methodLink RX7 43 yX7_readEmbargo ∈ ed_ws := ed_wm2 (i := 224) rfl rfl
theorem ed_w2_226 : Cond.instanceMethod yX7_readEmbargo ∈ ed_ws := ed_wm2 (i := 226) rfl rfl
theorem ed_w2_227 : Cond.code yX7_readEmbargo cX7_readEmbargo 2 (some .boolean) ∈ ed_ws := ed_wm2 (i := 227) rfl rfl
theorem ed_w2_228 : Cond.methodLink RX7 46 yX7_readSlug ∈ ed_ws := ed_wm2 (i := 228) rfl rfl
theorem ed_w2_230 : Cond.instanceMethod yX7_readSlug ∈ ed_ws := ed_wm2 (i := 230) rfl rfl
theorem ed_w2_231 : Cond.code yX7_readSlug cX7_readSlug 2 (some .boolean) ∈ ed_ws := ed_wm2 (i := 231) rfl rfl
theorem ed_w2_232 : Cond.methodLink RX8 83 yX5_storyAt ∈ ed_ws := ed_wm2 (i := 232) rfl rfl
theorem ed_w2_233 : Cond.methodLink RX8 87 yX6_begin ∈ ed_ws := ed_wm2 (i := 233) rfl rfl
theorem ed_w2_234 : Cond.instanceMethod yX6_begin ∈ ed_ws := ed_wm2 (i := 234) rfl rfl
theorem ed_w2_235 : Cond.selects RX6 yX6_begin yX6_begin ∈ ed_ws := ed_wm2 (i := 235) rfl rfl
theorem ed_w2_236 : Cond.code yX6_begin cX6_begin 2 none ∈ ed_ws := ed_wm2 (i := 236) rfl rfl
theorem ed_w2_237 : Cond.methodLink RL 55 yX8_pass ∈ ed_ws := ed_wm2 (i := 237) rfl rfl
theorem ed_w2_238 : Cond.instanceMethod yX8_pass ∈ ed_ws := ed_wm2 (i := 238) rfl rfl
theorem ed_w2_239 : Cond.selects RX8 yX8_pass yX8_pass ∈ ed_ws := ed_wm2 (i := 239) rfl rfl
theorem ed_w3_0 : Cond.code yX8_pass cX8_pass 4 (some .int) ∈ ed_ws := ed_wm3 (i := 0) rfl rfl
theorem ed_w3_1 : Cond.methodLink RX8 133 yX5_copiesThatCame ∈ ed_ws := ed_wm3 (i := 1) rfl rfl
theorem ed_w3_2 : Cond.instanceMethod yX5_copiesThatCame ∈ ed_ws := ed_wm3 (i := 2) rfl rfl
theorem ed_w3_3 : Cond.selects RX5 yX5_copiesThatCame yX5_copiesThatCame ∈ ed_ws := ed_wm3 (i := 3) rfl rfl
theorem ed_w3_4 : Cond.code yX5_copiesThatCame cX5_copiesThatCame 4 (some .int) ∈ ed_ws := ed_wm3 (i := 4) rfl rfl
theorem ed_w3_5 : Cond.methodLink RX8 136 yX5_passHour ∈ ed_ws := ed_wm3 (i := 5) rfl rfl
theorem ed_w3_6 : Cond.instanceMethod yX5_passHour ∈ ed_ws := ed_wm3 (i := 6) rfl rfl
theorem ed_w3_7 : Cond.selects RX5 yX5_passHour yX5_passHour ∈ ed_ws := ed_wm3 (i := 7) rfl rfl
theorem ed_w3_8 : Cond.code yX5_passHour cX5_passHour 3 none ∈ ed_ws := ed_wm3 (i := 8) rfl rfl
theorem ed_w3_9 : Cond.methodLink RX5 129 yX5_startDay ∈ ed_ws := ed_wm3 (i := 9) rfl rfl
theorem ed_w3_11 : Cond.instanceMethod yX5_startDay ∈ ed_ws := ed_wm3 (i := 11) rfl rfl
theorem ed_w3_12 : Cond.code yX5_startDay cX5_startDay 3 none ∈ ed_ws := ed_wm3 (i := 12) rfl rfl
theorem ed_w3_13 : Cond.methodLink RX5 138 yX5_publish ∈ ed_ws := ed_wm3 (i := 13) rfl rfl
theorem ed_w3_15 : Cond.instanceMethod yX5_publish ∈ ed_ws := ed_wm3 (i := 15) rfl rfl
theorem ed_w3_16 : Cond.code yX5_publish cX5_publish 5 none ∈ ed_ws := ed_wm3 (i := 16) rfl rfl
theorem ed_w3_17 : Cond.methodLink RX5 155 yX3_add ∈ ed_ws := ed_wm3 (i := 17) rfl rfl
theorem ed_w3_18 : Cond.instanceMethod yX3_add ∈ ed_ws := ed_wm3 (i := 18) rfl rfl
theorem ed_w3_19 : Cond.selects RX3 yX3_add yX3_add ∈ ed_ws := ed_wm3 (i := 19) rfl rfl
theorem ed_w3_20 : Cond.code yX3_add cX3_add 6 none ∈ ed_ws := ed_wm3 (i := 20) rfl rfl
theorem ed_w3_21 : Cond.methodLink RX3 22 Lib.Math.min.name ∈ ed_ws := ed_wm3 (i := 21) rfl rfl
theorem ed_w3_23 : Cond.methodLink RX5 162 yX0_hasTopic ∈ ed_ws := ed_wm3 (i := 23) rfl rfl
theorem ed_w3_24 : Cond.instanceMethod yX0_hasTopic ∈ ed_ws := ed_wm3 (i := 24) rfl rfl
theorem ed_w3_25 : Cond.selects RX0 yX0_hasTopic yX0_hasTopic ∈ ed_ws := ed_wm3 (i := 25) rfl rfl
theorem ed_w3_26 : Cond.code yX0_hasTopic cX0_hasTopic 2 (some .boolean) ∈ ed_ws := ed_wm3 (i := 26) rfl rfl
theorem ed_w3_27 : Cond.methodLink RX5 169 yX5_planCopy ∈ ed_ws := ed_wm3 (i := 27) rfl rfl
theorem ed_w3_29 : Cond.instanceMethod yX5_planCopy ∈ ed_ws := ed_wm3 (i := 29) rfl rfl
theorem ed_w3_30 : Cond.code yX5_planCopy cX5_planCopy 5 none ∈ ed_ws := ed_wm3 (i := 30) rfl rfl
theorem ed_w3_31 : Cond.methodLink RX5 173 yX1_begin ∈ ed_ws := ed_wm3 (i := 31) rfl rfl
theorem ed_w3_32 : Cond.instanceMethod yX1_begin ∈ ed_ws := ed_wm3 (i := 32) rfl rfl
theorem ed_w3_33 : Cond.selects RX1 yX1_begin yX1_begin ∈ ed_ws := ed_wm3 (i := 33) rfl rfl
theorem ed_w3_34 : Cond.code yX1_begin cX1_begin 4 none ∈ ed_ws := ed_wm3 (i := 34) rfl rfl
theorem ed_w3_35 : Cond.methodLink RX5 142 yX1_isOver ∈ ed_ws := ed_wm3 (i := 35) rfl rfl
theorem ed_w3_36 : Cond.instanceMethod yX1_isOver ∈ ed_ws := ed_wm3 (i := 36) rfl rfl
theorem ed_w3_37 : Cond.selects RX1 yX1_isOver yX1_isOver ∈ ed_ws := ed_wm3 (i := 37) rfl rfl
theorem ed_w3_38 : Cond.code yX1_isOver cX1_isOver 1 (some .boolean) ∈ ed_ws := ed_wm3 (i := 38) rfl rfl
theorem ed_w3_39 : Cond.methodLink RX5 146 yX5_moveOn ∈ ed_ws := ed_wm3 (i := 39) rfl rfl
theorem ed_w3_41 : Cond.instanceMethod yX5_moveOn ∈ ed_ws := ed_wm3 (i := 41) rfl rfl
theorem ed_w3_42 : Cond.code yX5_moveOn cX5_moveOn 4 none ∈ ed_ws := ed_wm3 (i := 42) rfl rfl
theorem ed_w3_43 : Cond.methodLink RX5 180 yX0_canGetCopy ∈ ed_ws := ed_wm3 (i := 43) rfl rfl
theorem ed_w3_44 : Cond.instanceMethod yX0_canGetCopy ∈ ed_ws := ed_wm3 (i := 44) rfl rfl
theorem ed_w3_45 : Cond.selects RX0 yX0_canGetCopy yX0_canGetCopy ∈ ed_ws := ed_wm3 (i := 45) rfl rfl
theorem ed_w3_46 : Cond.code yX0_canGetCopy cX0_canGetCopy 1 (some .boolean) ∈ ed_ws := ed_wm3 (i := 46) rfl rfl
theorem ed_w3_47 : Cond.methodLink RX5 183 yX5_startUse ∈ ed_ws := ed_wm3 (i := 47) rfl rfl
theorem ed_w3_49 : Cond.instanceMethod yX5_startUse ∈ ed_ws := ed_wm3 (i := 49) rfl rfl
theorem ed_w3_50 : Cond.code yX5_startUse cX5_startUse 4 none ∈ ed_ws := ed_wm3 (i := 50) rfl rfl
theorem ed_w3_51 : Cond.methodLink RX5 209 yX5_bill ∈ ed_ws := ed_wm3 (i := 51) rfl rfl
theorem ed_w3_53 : Cond.instanceMethod yX5_bill ∈ ed_ws := ed_wm3 (i := 53) rfl rfl
theorem ed_w3_54 : Cond.code yX5_bill cX5_bill 7 none ∈ ed_ws := ed_wm3 (i := 54) rfl rfl
theorem ed_w3_55 : Cond.constantLong RX5 219 (2147483647) ∈ ed_ws := ed_wm3 (i := 55) rfl rfl
theorem ed_w3_56 : Cond.methodLink RX5 227 yX6_authorAt ∈ ed_ws := ed_wm3 (i := 56) rfl rfl
theorem ed_w3_57 : Cond.instanceMethod yX6_authorAt ∈ ed_ws := ed_wm3 (i := 57) rfl rfl
theorem ed_w3_58 : Cond.selects RX6 yX6_authorAt yX6_authorAt ∈ ed_ws := ed_wm3 (i := 58) rfl rfl
theorem ed_w3_59 : Cond.code yX6_authorAt cX6_authorAt 2 (some .int) ∈ ed_ws := ed_wm3 (i := 59) rfl rfl
theorem ed_w3_60 : Cond.methodLink RX6 62 Lib.Math.min.name ∈ ed_ws := ed_wm3 (i := 60) rfl rfl
theorem ed_w3_62 : Cond.methodLink RX5 231 yX4_addShare ∈ ed_ws := ed_wm3 (i := 62) rfl rfl
theorem ed_w3_63 : Cond.instanceMethod yX4_addShare ∈ ed_ws := ed_wm3 (i := 63) rfl rfl
theorem ed_w3_64 : Cond.selects RX4 yX4_addShare yX4_addShare ∈ ed_ws := ed_wm3 (i := 64) rfl rfl
theorem ed_w3_65 : Cond.code yX4_addShare cX4_addShare 2 none ∈ ed_ws := ed_wm3 (i := 65) rfl rfl
theorem ed_w3_66 : Cond.constantLong RX4 15 (2147483647) ∈ ed_ws := ed_wm3 (i := 66) rfl rfl
theorem ed_w3_67 : Cond.methodLink RX5 187 yX5_useEndsAt ∈ ed_ws := ed_wm3 (i := 67) rfl rfl
theorem ed_w3_68 : Cond.instanceMethod yX5_useEndsAt ∈ ed_ws := ed_wm3 (i := 68) rfl rfl
theorem ed_w3_69 : Cond.selects RX5 yX5_useEndsAt yX5_useEndsAt ∈ ed_ws := ed_wm3 (i := 69) rfl rfl
theorem ed_w3_70 : Cond.code yX5_useEndsAt cX5_useEndsAt 2 (some .int) ∈ ed_ws := ed_wm3 (i := 70) rfl rfl
theorem ed_w3_71 : Cond.methodLink RX5 195 yX5_reach ∈ ed_ws := ed_wm3 (i := 71) rfl rfl
theorem ed_w3_73 : Cond.instanceMethod yX5_reach ∈ ed_ws := ed_wm3 (i := 73) rfl rfl
theorem ed_w3_74 : Cond.code yX5_reach cX5_reach 5 none ∈ ed_ws := ed_wm3 (i := 74) rfl rfl
theorem ed_w3_75 : Cond.methodLink RX5 235 yX5_killNoticeAt ∈ ed_ws := ed_wm3 (i := 75) rfl rfl
theorem ed_w3_76 : Cond.instanceMethod yX5_killNoticeAt ∈ ed_ws := ed_wm3 (i := 76) rfl rfl
theorem ed_w3_77 : Cond.selects RX5 yX5_killNoticeAt yX5_killNoticeAt ∈ ed_ws := ed_wm3 (i := 77) rfl rfl
theorem ed_w3_78 : Cond.code yX5_killNoticeAt cX5_killNoticeAt 4 (some .int) ∈ ed_ws := ed_wm3 (i := 78) rfl rfl
theorem ed_w3_79 : Cond.methodLink RX5 238 yX5_correctionsDue ∈ ed_ws := ed_wm3 (i := 79) rfl rfl
theorem ed_w3_80 : Cond.instanceMethod yX5_correctionsDue ∈ ed_ws := ed_wm3 (i := 80) rfl rfl
theorem ed_w3_81 : Cond.selects RX5 yX5_correctionsDue yX5_correctionsDue ∈ ed_ws := ed_wm3 (i := 81) rfl rfl
theorem ed_w3_82 : Cond.code yX5_correctionsDue cX5_correctionsDue 6 (some .int) ∈ ed_ws := ed_wm3 (i := 82) rfl rfl
theorem ed_w3_83 : Cond.methodLink RX5 241 yX6_correctedAt ∈ ed_ws := ed_wm3 (i := 83) rfl rfl
theorem ed_w3_84 : Cond.instanceMethod yX6_correctedAt ∈ ed_ws := ed_wm3 (i := 84) rfl rfl
theorem ed_w3_85 : Cond.selects RX6 yX6_correctedAt yX6_correctedAt ∈ ed_ws := ed_wm3 (i := 85) rfl rfl
theorem ed_w3_86 : Cond.code yX6_correctedAt cX6_correctedAt 2 (some .int) ∈ ed_ws := ed_wm3 (i := 86) rfl rfl
theorem ed_w3_87 : Cond.methodLink RL 111 yX8_undo ∈ ed_ws := ed_wm3 (i := 87) rfl rfl
theorem ed_w3_88 : Cond.instanceMethod yX8_undo ∈ ed_ws := ed_wm3 (i := 88) rfl rfl
theorem ed_w3_89 : Cond.selects RX8 yX8_undo yX8_undo ∈ ed_ws := ed_wm3 (i := 89) rfl rfl
theorem ed_w3_90 : Cond.code yX8_undo cX8_undo 1 (some .int) ∈ ed_ws := ed_wm3 (i := 90) rfl rfl
theorem ed_w3_91 : Cond.methodLink RX8 148 yX2_takeLatest ∈ ed_ws := ed_wm3 (i := 91) rfl rfl
theorem ed_w3_92 : Cond.instanceMethod yX2_takeLatest ∈ ed_ws := ed_wm3 (i := 92) rfl rfl
theorem ed_w3_93 : Cond.selects RX2 yX2_takeLatest yX2_takeLatest ∈ ed_ws := ed_wm3 (i := 93) rfl rfl
theorem ed_w3_94 : Cond.code yX2_takeLatest cX2_takeLatest 3 none ∈ ed_ws := ed_wm3 (i := 94) rfl rfl
theorem ed_w3_95 : Cond.methodLink RL 108 yX8_keep ∈ ed_ws := ed_wm3 (i := 95) rfl rfl
theorem ed_w3_96 : Cond.instanceMethod yX8_keep ∈ ed_ws := ed_wm3 (i := 96) rfl rfl
theorem ed_w3_97 : Cond.selects RX8 yX8_keep yX8_keep ∈ ed_ws := ed_wm3 (i := 97) rfl rfl
theorem ed_w3_98 : Cond.code yX8_keep cX8_keep 1 (some .int) ∈ ed_ws := ed_wm3 (i := 98) rfl rfl
theorem ed_w3_99 : Cond.methodLink RX8 151 yX5_copyFrom ∈ ed_ws := ed_wm3 (i := 99) rfl rfl
theorem ed_w3_100 : Cond.methodLink RL 114 yX8_restore ∈ ed_ws := ed_wm3 (i := 100) rfl rfl
theorem ed_w3_101 : Cond.instanceMethod yX8_restore ∈ ed_ws := ed_wm3 (i := 101) rfl rfl
theorem ed_w3_102 : Cond.selects RX8 yX8_restore yX8_restore ∈ ed_ws := ed_wm3 (i := 102) rfl rfl
theorem ed_w3_103 : Cond.code yX8_restore cX8_restore 1 (some .int) ∈ ed_ws := ed_wm3 (i := 103) rfl rfl
theorem ed_w3_104 : Cond.methodLink RL 23 yX8_client ∈ ed_ws := ed_wm3 (i := 104) rfl rfl
theorem ed_w3_105 : Cond.instanceMethod yX8_client ∈ ed_ws := ed_wm3 (i := 105) rfl rfl
theorem ed_w3_106 : Cond.selects RX8 yX8_client yX8_client ∈ ed_ws := ed_wm3 (i := 106) rfl rfl
theorem ed_w3_107 : Cond.code yX8_client cX8_client 4 (some .int) ∈ ed_ws := ed_wm3 (i := 107) rfl rfl
theorem ed_w3_108 : Cond.methodLink RX8 66 yX5_copiesOf ∈ ed_ws := ed_wm3 (i := 108) rfl rfl
theorem ed_w3_109 : Cond.instanceMethod yX5_copiesOf ∈ ed_ws := ed_wm3 (i := 109) rfl rfl
theorem ed_w3_110 : Cond.selects RX5 yX5_copiesOf yX5_copiesOf ∈ ed_ws := ed_wm3 (i := 110) rfl rfl
theorem ed_w3_111 : Cond.code yX5_copiesOf cX5_copiesOf 7 (some .int) ∈ ed_ws := ed_wm3 (i := 111) rfl rfl
theorem ed_w3_112 : Cond.methodLink RX5 253 yX5_fits ∈ ed_ws := ed_wm3 (i := 112) rfl rfl
theorem ed_w3_113 : Cond.static yX5_fits ∈ ed_ws := ed_wm3 (i := 113) rfl rfl
theorem ed_w3_114 : Cond.code yX5_fits cX5_fits 2 (some .boolean) ∈ ed_ws := ed_wm3 (i := 114) rfl rfl
theorem ed_w3_115 : Cond.methodLink RL 26 yX8_count ∈ ed_ws := ed_wm3 (i := 115) rfl rfl
theorem ed_w3_116 : Cond.instanceMethod yX8_count ∈ ed_ws := ed_wm3 (i := 116) rfl rfl
theorem ed_w3_117 : Cond.selects RX8 yX8_count yX8_count ∈ ed_ws := ed_wm3 (i := 117) rfl rfl
theorem ed_w3_118 : Cond.code yX8_count cX8_count 2 (some .int) ∈ ed_ws := ed_wm3 (i := 118) rfl rfl
theorem ed_w3_119 : Cond.methodLink RX8 263 yX5_copiesWithCorrectionsDue ∈ ed_ws := ed_wm3 (i := 119) rfl rfl
theorem ed_w3_120 : Cond.instanceMethod yX5_copiesWithCorrectionsDue ∈ ed_ws := ed_wm3 (i := 120) rfl rfl
theorem ed_w3_121 : Cond.selects RX5 yX5_copiesWithCorrectionsDue yX5_copiesWithCorrectionsDue ∈ ed_ws := ed_wm3 (i := 121) rfl rfl
theorem ed_w3_122 : Cond.code yX5_copiesWithCorrectionsDue cX5_copiesWithCorrectionsDue 4 (some .int) ∈ ed_ws := ed_wm3 (i := 122) rfl rfl
theorem ed_w3_123 : Cond.methodLink RX8 269 yX5_authors ∈ ed_ws := ed_wm3 (i := 123) rfl rfl
theorem ed_w3_124 : Cond.instanceMethod yX5_authors ∈ ed_ws := ed_wm3 (i := 124) rfl rfl
theorem ed_w3_125 : Cond.selects RX5 yX5_authors yX5_authors ∈ ed_ws := ed_wm3 (i := 125) rfl rfl
theorem ed_w3_126 : Cond.code yX5_authors cX5_authors 3 (some .int) ∈ ed_ws := ed_wm3 (i := 126) rfl rfl
theorem ed_w3_127 : Cond.methodLink RX5 263 yX5_storiesBy ∈ ed_ws := ed_wm3 (i := 127) rfl rfl
theorem ed_w3_128 : Cond.instanceMethod yX5_storiesBy ∈ ed_ws := ed_wm3 (i := 128) rfl rfl
theorem ed_w3_129 : Cond.selects RX5 yX5_storiesBy yX5_storiesBy ∈ ed_ws := ed_wm3 (i := 129) rfl rfl
theorem ed_w3_130 : Cond.code yX5_storiesBy cX5_storiesBy 5 (some .int) ∈ ed_ws := ed_wm3 (i := 130) rfl rfl
theorem ed_w3_131 : Cond.methodLink RX5 256 yX6_isBy ∈ ed_ws := ed_wm3 (i := 131) rfl rfl
theorem ed_w3_132 : Cond.instanceMethod yX6_isBy ∈ ed_ws := ed_wm3 (i := 132) rfl rfl
theorem ed_w3_133 : Cond.selects RX6 yX6_isBy yX6_isBy ∈ ed_ws := ed_wm3 (i := 133) rfl rfl
theorem ed_w3_134 : Cond.code yX6_isBy cX6_isBy 3 (some .boolean) ∈ ed_ws := ed_wm3 (i := 134) rfl rfl
theorem ed_w3_135 : Cond.methodLink RX6 68 yX6_authorAt ∈ ed_ws := ed_wm3 (i := 135) rfl rfl
theorem ed_w3_136 : Cond.methodLink RL 84 yL_cell ∈ ed_ws := ed_wm3 (i := 136) rfl rfl
theorem ed_w3_137 : Cond.static yL_cell ∈ ed_ws := ed_wm3 (i := 137) rfl rfl
theorem ed_w3_138 : Cond.code yL_cell cL_cell 2 (some .int) ∈ ed_ws := ed_wm3 (i := 138) rfl rfl
theorem ed_w3_139 : Cond.constant RL 7 (15566531) ∈ ed_ws := ed_wm3 (i := 139) rfl rfl
theorem ed_w3_140 : Cond.constant RL 8 (2147483647) ∈ ed_ws := ed_wm3 (i := 140) rfl rfl
theorem ed_w3_141 : Cond.methodLink RL 101 yL_copies ∈ ed_ws := ed_wm3 (i := 141) rfl rfl
theorem ed_w3_142 : Cond.static yL_copies ∈ ed_ws := ed_wm3 (i := 142) rfl rfl
theorem ed_w3_143 : Cond.code yL_copies cL_copies 13 (some .boolean) ∈ ed_ws := ed_wm3 (i := 143) rfl rfl
theorem ed_w3_144 : Cond.methodLink RL 9 yX8_copyAt ∈ ed_ws := ed_wm3 (i := 144) rfl rfl
theorem ed_w3_145 : Cond.instanceMethod yX8_copyAt ∈ ed_ws := ed_wm3 (i := 145) rfl rfl
theorem ed_w3_146 : Cond.selects RX8 yX8_copyAt yX8_copyAt ∈ ed_ws := ed_wm3 (i := 146) rfl rfl
theorem ed_w3_147 : Cond.code yX8_copyAt cX8_copyAt 3 (some .int) ∈ ed_ws := ed_wm3 (i := 147) rfl rfl
theorem ed_w3_148 : Cond.methodLink RX8 247 yX5_copyMade ∈ ed_ws := ed_wm3 (i := 148) rfl rfl
theorem ed_w3_149 : Cond.methodLink RL 15 yX8_copy ∈ ed_ws := ed_wm3 (i := 149) rfl rfl
theorem ed_w3_150 : Cond.instanceMethod yX8_copy ∈ ed_ws := ed_wm3 (i := 150) rfl rfl
theorem ed_w3_151 : Cond.selects RX8 yX8_copy yX8_copy ∈ ed_ws := ed_wm3 (i := 151) rfl rfl
theorem ed_w3_152 : Cond.code yX8_copy cX8_copy 5 (some .int) ∈ ed_ws := ed_wm3 (i := 152) rfl rfl
theorem ed_w3_153 : Cond.methodLink RX8 217 yX5_copyFor ∈ ed_ws := ed_wm3 (i := 153) rfl rfl
theorem ed_w3_154 : Cond.instanceMethod yX5_copyFor ∈ ed_ws := ed_wm3 (i := 154) rfl rfl
theorem ed_w3_155 : Cond.selects RX5 yX5_copyFor yX5_copyFor ∈ ed_ws := ed_wm3 (i := 155) rfl rfl
theorem ed_w3_156 : Cond.code yX5_copyFor cX5_copyFor 5 (some (.object "EmbargoDesk$Copy")) ∈ ed_ws := ed_wm3 (i := 156) rfl rfl
theorem ed_w3_157 : Cond.methodLink RX8 231 yX5_correctionsMissing ∈ ed_ws := ed_wm3 (i := 157) rfl rfl
theorem ed_w3_158 : Cond.instanceMethod yX5_correctionsMissing ∈ ed_ws := ed_wm3 (i := 158) rfl rfl
theorem ed_w3_159 : Cond.selects RX5 yX5_correctionsMissing yX5_correctionsMissing ∈ ed_ws := ed_wm3 (i := 159) rfl rfl
theorem ed_w3_160 : Cond.code yX5_correctionsMissing cX5_correctionsMissing 3 (some .int) ∈ ed_ws := ed_wm3 (i := 160) rfl rfl
theorem ed_w3_161 : Cond.methodLink RX8 235 yX5_correctionsDue ∈ ed_ws := ed_wm3 (i := 161) rfl rfl
theorem ed_w3_162 : Cond.methodLink RX8 238 yX5_nextCorrectionAt ∈ ed_ws := ed_wm3 (i := 162) rfl rfl
theorem ed_w3_163 : Cond.instanceMethod yX5_nextCorrectionAt ∈ ed_ws := ed_wm3 (i := 163) rfl rfl
theorem ed_w3_164 : Cond.selects RX5 yX5_nextCorrectionAt yX5_nextCorrectionAt ∈ ed_ws := ed_wm3 (i := 164) rfl rfl
theorem ed_w3_165 : Cond.code yX5_nextCorrectionAt cX5_nextCorrectionAt 4 (some .int) ∈ ed_ws := ed_wm3 (i := 165) rfl rfl
theorem ed_w3_166 : Cond.methodLink RX5 247 yX5_correctionsMissing ∈ ed_ws := ed_wm3 (i := 166) rfl rfl
theorem ed_w3_167 : Cond.methodLink RX8 241 yX5_killNoticeAt ∈ ed_ws := ed_wm3 (i := 167) rfl rfl
theorem ed_w3_168 : Cond.methodLink RX8 244 yX5_useEndsAt ∈ ed_ws := ed_wm3 (i := 168) rfl rfl
theorem ed_w3_169 : Cond.methodLink RL 19 yX8_story ∈ ed_ws := ed_wm3 (i := 169) rfl rfl
theorem ed_w3_170 : Cond.instanceMethod yX8_story ∈ ed_ws := ed_wm3 (i := 170) rfl rfl
theorem ed_w3_171 : Cond.selects RX8 yX8_story yX8_story ∈ ed_ws := ed_wm3 (i := 171) rfl rfl
theorem ed_w3_172 : Cond.code yX8_story cX8_story 4 (some .int) ∈ ed_ws := ed_wm3 (i := 172) rfl rfl
theorem ed_w3_173 : Cond.methodLink RX8 166 yX5_upToDateCopies ∈ ed_ws := ed_wm3 (i := 173) rfl rfl
theorem ed_w3_174 : Cond.instanceMethod yX5_upToDateCopies ∈ ed_ws := ed_wm3 (i := 174) rfl rfl
theorem ed_w3_175 : Cond.selects RX5 yX5_upToDateCopies yX5_upToDateCopies ∈ ed_ws := ed_wm3 (i := 175) rfl rfl
theorem ed_w3_176 : Cond.code yX5_upToDateCopies cX5_upToDateCopies 5 (some .int) ∈ ed_ws := ed_wm3 (i := 176) rfl rfl
theorem ed_w3_177 : Cond.methodLink RL 29 yX8_correction ∈ ed_ws := ed_wm3 (i := 177) rfl rfl
theorem ed_w3_178 : Cond.instanceMethod yX8_correction ∈ ed_ws := ed_wm3 (i := 178) rfl rfl
theorem ed_w3_179 : Cond.selects RX8 yX8_correction yX8_correction ∈ ed_ws := ed_wm3 (i := 179) rfl rfl
theorem ed_w3_180 : Cond.code yX8_correction cX8_correction 4 (some .int) ∈ ed_ws := ed_wm3 (i := 180) rfl rfl
theorem ed_w3_181 : Cond.methodLink RX8 175 yX6_correctedAt ∈ ed_ws := ed_wm3 (i := 181) rfl rfl
theorem ed_w3_182 : Cond.methodLink RL 105 yL_money ∈ ed_ws := ed_wm3 (i := 182) rfl rfl
theorem ed_w3_183 : Cond.static yL_money ∈ ed_ws := ed_wm3 (i := 183) rfl rfl
theorem ed_w3_184 : Cond.code yL_money cL_money 7 (some .boolean) ∈ ed_ws := ed_wm3 (i := 184) rfl rfl
theorem ed_w3_185 : Cond.methodLink RL 32 yX8_person ∈ ed_ws := ed_wm3 (i := 185) rfl rfl
theorem ed_w3_186 : Cond.instanceMethod yX8_person ∈ ed_ws := ed_wm3 (i := 186) rfl rfl
theorem ed_w3_187 : Cond.selects RX8 yX8_person yX8_person ∈ ed_ws := ed_wm3 (i := 187) rfl rfl
theorem ed_w3_188 : Cond.code yX8_person cX8_person 4 (some .int) ∈ ed_ws := ed_wm3 (i := 188) rfl rfl
theorem ed_w3_189 : Cond.methodLink RX8 199 yX5_personAt ∈ ed_ws := ed_wm3 (i := 189) rfl rfl
theorem ed_w3_190 : Cond.methodLink RX8 211 yX5_storiesBy ∈ ed_ws := ed_wm3 (i := 190) rfl rfl
theorem ed_w3_191 : Cond.methodLink RX8 214 yX5_copiesInUseBy ∈ ed_ws := ed_wm3 (i := 191) rfl rfl
theorem ed_w3_192 : Cond.instanceMethod yX5_copiesInUseBy ∈ ed_ws := ed_wm3 (i := 192) rfl rfl
theorem ed_w3_193 : Cond.selects RX5 yX5_copiesInUseBy yX5_copiesInUseBy ∈ ed_ws := ed_wm3 (i := 193) rfl rfl
theorem ed_w3_194 : Cond.code yX5_copiesInUseBy cX5_copiesInUseBy 5 (some .int) ∈ ed_ws := ed_wm3 (i := 194) rfl rfl
theorem ed_w3_195 : Cond.methodLink RX5 259 yX5_copiesOf ∈ ed_ws := ed_wm3 (i := 195) rfl rfl
theorem ed_w3_196 : Cond.methodLink RL 98 yL_acts ∈ ed_ws := ed_wm3 (i := 196) rfl rfl
theorem ed_w3_197 : Cond.static yL_acts ∈ ed_ws := ed_wm3 (i := 197) rfl rfl
theorem ed_w3_198 : Cond.code yL_acts cL_acts 9 (some .boolean) ∈ ed_ws := ed_wm3 (i := 198) rfl rfl
theorem ed_w3_199 : Cond.methodLink RL 58 yL_reads ∈ ed_ws := ed_wm3 (i := 199) rfl rfl
theorem ed_w3_200 : Cond.static yL_reads ∈ ed_ws := ed_wm3 (i := 200) rfl rfl
theorem ed_w3_201 : Cond.code yL_reads cL_reads 6 (some .boolean) ∈ ed_ws := ed_wm3 (i := 201) rfl rfl
theorem ed_w3_202 : Cond.methodLink RL 35 yX8_clearText ∈ ed_ws := ed_wm3 (i := 202) rfl rfl
theorem ed_w3_203 : Cond.instanceMethod yX8_clearText ∈ ed_ws := ed_wm3 (i := 203) rfl rfl
theorem ed_w3_204 : Cond.selects RX8 yX8_clearText yX8_clearText ∈ ed_ws := ed_wm3 (i := 204) rfl rfl
theorem ed_w3_205 : Cond.code yX8_clearText cX8_clearText 2 (some .int) ∈ ed_ws := ed_wm3 (i := 205) rfl rfl
theorem ed_w3_206 : Cond.methodLink RL 39 yX8_type ∈ ed_ws := ed_wm3 (i := 206) rfl rfl
theorem ed_w3_207 : Cond.instanceMethod yX8_type ∈ ed_ws := ed_wm3 (i := 207) rfl rfl
theorem ed_w3_208 : Cond.selects RX8 yX8_type yX8_type ∈ ed_ws := ed_wm3 (i := 208) rfl rfl
theorem ed_w3_209 : Cond.code yX8_type cX8_type 2 (some .int) ∈ ed_ws := ed_wm3 (i := 209) rfl rfl
theorem ed_w3_210 : Cond.methodLink RX8 142 yX7_add ∈ ed_ws := ed_wm3 (i := 210) rfl rfl
theorem ed_w3_211 : Cond.instanceMethod yX7_add ∈ ed_ws := ed_wm3 (i := 211) rfl rfl
theorem ed_w3_212 : Cond.selects RX7 yX7_add yX7_add ∈ ed_ws := ed_wm3 (i := 212) rfl rfl
theorem ed_w3_213 : Cond.code yX7_add cX7_add 2 none ∈ ed_ws := ed_wm3 (i := 213) rfl rfl
theorem ed_w3_214 : Cond.methodLink RL 46 yX8_byline ∈ ed_ws := ed_wm3 (i := 214) rfl rfl
theorem ed_w3_215 : Cond.instanceMethod yX8_byline ∈ ed_ws := ed_wm3 (i := 215) rfl rfl
theorem ed_w3_216 : Cond.selects RX8 yX8_byline yX8_byline ∈ ed_ws := ed_wm3 (i := 216) rfl rfl
theorem ed_w3_217 : Cond.code yX8_byline cX8_byline 4 (some .int) ∈ ed_ws := ed_wm3 (i := 217) rfl rfl
theorem ed_w3_218 : Cond.methodLink RX8 169 yX6_authorAt ∈ ed_ws := ed_wm3 (i := 218) rfl rfl
theorem ed_w3_219 : Cond.methodLink RL 64 yX8_release ∈ ed_ws := ed_wm3 (i := 219) rfl rfl
theorem ed_w3_220 : Cond.instanceMethod yX8_release ∈ ed_ws := ed_wm3 (i := 220) rfl rfl
theorem ed_w3_221 : Cond.selects RX8 yX8_release yX8_release ∈ ed_ws := ed_wm3 (i := 221) rfl rfl
theorem ed_w3_222 : Cond.code yX8_release cX8_release 3 (some .int) ∈ ed_ws := ed_wm3 (i := 222) rfl rfl
theorem ed_w3_223 : Cond.methodLink RX8 97 yX5_clientsFor ∈ ed_ws := ed_wm3 (i := 223) rfl rfl
theorem ed_w3_224 : Cond.instanceMethod yX5_clientsFor ∈ ed_ws := ed_wm3 (i := 224) rfl rfl
theorem ed_w3_225 : Cond.selects RX5 yX5_clientsFor yX5_clientsFor ∈ ed_ws := ed_wm3 (i := 225) rfl rfl
theorem ed_w3_226 : Cond.code yX5_clientsFor cX5_clientsFor 5 (some .int) ∈ ed_ws := ed_wm3 (i := 226) rfl rfl
theorem ed_w3_227 : Cond.methodLink RL 67 yX8_hold ∈ ed_ws := ed_wm3 (i := 227) rfl rfl
theorem ed_w3_228 : Cond.instanceMethod yX8_hold ∈ ed_ws := ed_wm3 (i := 228) rfl rfl
theorem ed_w3_229 : Cond.selects RX8 yX8_hold yX8_hold ∈ ed_ws := ed_wm3 (i := 229) rfl rfl
theorem ed_w3_230 : Cond.code yX8_hold cX8_hold 3 (some .int) ∈ ed_ws := ed_wm3 (i := 230) rfl rfl
theorem ed_w3_231 : Cond.methodLink RX8 107 Lib.Math.max.name ∈ ed_ws := ed_wm3 (i := 231) rfl rfl
theorem ed_w3_232 : Cond.static Lib.Math.max.name ∈ ed_ws := ed_wm3 (i := 232) rfl rfl
theorem ed_w3_233 : Cond.code Lib.Math.max.name Lib.Math.max.code 2 (some .int) ∈ ed_ws := ed_wm3 (i := 233) rfl rfl
theorem ed_w3_234 : Cond.methodLink RL 70 yX8_correct ∈ ed_ws := ed_wm3 (i := 234) rfl rfl
theorem ed_w3_235 : Cond.instanceMethod yX8_correct ∈ ed_ws := ed_wm3 (i := 235) rfl rfl
theorem ed_w3_236 : Cond.selects RX8 yX8_correct yX8_correct ∈ ed_ws := ed_wm3 (i := 236) rfl rfl
theorem ed_w3_237 : Cond.code yX8_correct cX8_correct 3 (some .int) ∈ ed_ws := ed_wm3 (i := 237) rfl rfl
theorem ed_w3_238 : Cond.methodLink RX8 116 yX6_addCorrection ∈ ed_ws := ed_wm3 (i := 238) rfl rfl
theorem ed_w3_239 : Cond.instanceMethod yX6_addCorrection ∈ ed_ws := ed_wm3 (i := 239) rfl rfl
theorem ed_w4_0 : Cond.selects RX6 yX6_addCorrection yX6_addCorrection ∈ ed_ws := ed_wm4 (i := 0) rfl rfl
theorem ed_w4_1 : Cond.code yX6_addCorrection cX6_addCorrection 2 none ∈ ed_ws := ed_wm4 (i := 1) rfl rfl
theorem ed_w4_2 : Cond.methodLink RX8 124 yX3_add ∈ ed_ws := ed_wm4 (i := 2) rfl rfl
theorem ed_w4_3 : Cond.methodLink RL 73 yX8_setUp ∈ ed_ws := ed_wm4 (i := 3) rfl rfl
theorem ed_w4_4 : Cond.instanceMethod yX8_setUp ∈ ed_ws := ed_wm4 (i := 4) rfl rfl
theorem ed_w4_5 : Cond.selects RX8 yX8_setUp yX8_setUp ∈ ed_ws := ed_wm4 (i := 5) rfl rfl
theorem ed_w4_6 : Cond.code yX8_setUp cX8_setUp 4 (some .int) ∈ ed_ws := ed_wm4 (i := 6) rfl rfl
theorem ed_w4_7 : Cond.methodLink RL 77 yX8_kill ∈ ed_ws := ed_wm4 (i := 7) rfl rfl
theorem ed_w4_8 : Cond.instanceMethod yX8_kill ∈ ed_ws := ed_wm4 (i := 8) rfl rfl
theorem ed_w4_9 : Cond.selects RX8 yX8_kill yX8_kill ∈ ed_ws := ed_wm4 (i := 9) rfl rfl
theorem ed_w4_10 : Cond.code yX8_kill cX8_kill 3 (some .int) ∈ ed_ws := ed_wm4 (i := 10) rfl rfl
theorem ed_w4_11 : Cond.methodLink RL 80 yL_passes ∈ ed_ws := ed_wm4 (i := 11) rfl rfl
theorem ed_w4_12 : Cond.static yL_passes ∈ ed_ws := ed_wm4 (i := 12) rfl rfl
theorem ed_w4_13 : Cond.code yL_passes cL_passes 13 (some .boolean) ∈ ed_ws := ed_wm4 (i := 13) rfl rfl
theorem ed_w4_14 : Cond.methodLink RL 49 yX8_wouldCome ∈ ed_ws := ed_wm4 (i := 14) rfl rfl
theorem ed_w4_15 : Cond.instanceMethod yX8_wouldCome ∈ ed_ws := ed_wm4 (i := 15) rfl rfl
theorem ed_w4_16 : Cond.selects RX8 yX8_wouldCome yX8_wouldCome ∈ ed_ws := ed_wm4 (i := 16) rfl rfl
theorem ed_w4_17 : Cond.code yX8_wouldCome cX8_wouldCome 6 (some .int) ∈ ed_ws := ed_wm4 (i := 17) rfl rfl
theorem ed_w4_18 : Cond.methodLink RL 52 yX8_carriedIn ∈ ed_ws := ed_wm4 (i := 18) rfl rfl
theorem ed_w4_19 : Cond.instanceMethod yX8_carriedIn ∈ ed_ws := ed_wm4 (i := 19) rfl rfl
theorem ed_w4_20 : Cond.selects RX8 yX8_carriedIn yX8_carriedIn ∈ ed_ws := ed_wm4 (i := 20) rfl rfl
theorem ed_w4_21 : Cond.code yX8_carriedIn cX8_carriedIn 6 (some .int) ∈ ed_ws := ed_wm4 (i := 21) rfl rfl
theorem ed_wp_0 : Cond.selects RX2 yX2_dropOldest yX2_dropOldest ∈ ed_ws := ed_wp1 (i := 0) rfl rfl rfl
theorem ed_wp_1 : Cond.selects RX5 yX5_copyStories yX5_copyStories ∈ ed_ws := ed_wp1 (i := 1) rfl rfl rfl
theorem ed_wp_2 : Cond.selects RX5 yX5_copyClients yX5_copyClients ∈ ed_ws := ed_wp1 (i := 2) rfl rfl rfl
theorem ed_wp_3 : Cond.selects RX5 yX5_copyCopies yX5_copyCopies ∈ ed_ws := ed_wp1 (i := 3) rfl rfl rfl
theorem ed_wp_4 : Cond.selects RX5 yX5_copyPersons yX5_copyPersons ∈ ed_ws := ed_wp1 (i := 4) rfl rfl rfl
theorem ed_wp_5 : Cond.selects RX7 yX7_readTopic yX7_readTopic ∈ ed_ws := ed_wp1 (i := 5) rfl rfl rfl
theorem ed_wp_6 : Cond.selects RX7 yX7_digit yX7_digit ∈ ed_ws := ed_wp1 (i := 6) rfl rfl rfl
theorem ed_wp_7 : Cond.selects RX7 yX7_sign yX7_sign ∈ ed_ws := ed_wp1 (i := 7) rfl rfl rfl
theorem ed_wp_8 : Cond.selects RX7 yX7_readSign yX7_readSign ∈ ed_ws := ed_wp1 (i := 8) rfl rfl rfl
theorem ed_wp_9 : Cond.selects RX7 yX7_readByline yX7_readByline ∈ ed_ws := ed_wp1 (i := 9) rfl rfl rfl
theorem ed_wp_10 : Cond.selects RX7 yX7_readPerson yX7_readPerson ∈ ed_ws := ed_wp1 (i := 10) rfl rfl rfl
theorem ed_wp_11 : Cond.selects RX7 yX7_isInByline yX7_isInByline ∈ ed_ws := ed_wp1 (i := 11) rfl rfl rfl
theorem ed_wp_12 : Cond.selects RX7 yX7_readEmbargo yX7_readEmbargo ∈ ed_ws := ed_wp1 (i := 12) rfl rfl rfl
theorem ed_wp_13 : Cond.selects RX7 yX7_readSlug yX7_readSlug ∈ ed_ws := ed_wp1 (i := 13) rfl rfl rfl
theorem ed_wp_14 : Cond.selects RX5 yX5_startDay yX5_startDay ∈ ed_ws := ed_wp1 (i := 14) rfl rfl rfl
theorem ed_wp_15 : Cond.selects RX5 yX5_publish yX5_publish ∈ ed_ws := ed_wp1 (i := 15) rfl rfl rfl
theorem ed_wp_16 : Cond.selects RX5 yX5_planCopy yX5_planCopy ∈ ed_ws := ed_wp2 (i := 0) rfl rfl rfl
theorem ed_wp_17 : Cond.selects RX5 yX5_moveOn yX5_moveOn ∈ ed_ws := ed_wp2 (i := 1) rfl rfl rfl
theorem ed_wp_18 : Cond.selects RX5 yX5_startUse yX5_startUse ∈ ed_ws := ed_wp2 (i := 2) rfl rfl rfl
theorem ed_wp_19 : Cond.selects RX5 yX5_bill yX5_bill ∈ ed_ws := ed_wp2 (i := 3) rfl rfl rfl
theorem ed_wp_20 : Cond.selects RX5 yX5_reach yX5_reach ∈ ed_ws := ed_wp2 (i := 4) rfl rfl rfl
theorem ed_uX0 : ∀ w ∈ u_ws RX0 TX0 10, w ∈ ed_ws := List.forall_mem_cons.mpr ⟨ed_w1_138, List.forall_mem_cons.mpr ⟨ed_w1_140, List.forall_mem_cons.mpr ⟨ed_w1_142, List.forall_mem_cons.mpr ⟨ed_w1_144, List.forall_mem_cons.mpr ⟨ed_w1_146, List.forall_mem_cons.mpr ⟨ed_w1_148, List.forall_mem_cons.mpr ⟨ed_w1_150, List.forall_mem_cons.mpr ⟨ed_w1_152, List.forall_mem_cons.mpr ⟨ed_w1_154, List.forall_mem_cons.mpr ⟨ed_w1_156, fun _ h => absurd h List.not_mem_nil⟩⟩⟩⟩⟩⟩⟩⟩⟩⟩
theorem ed_uX1 : ∀ w ∈ u_ws RX1 TX1 6, w ∈ ed_ws := List.forall_mem_cons.mpr ⟨ed_w1_182, List.forall_mem_cons.mpr ⟨ed_w1_184, List.forall_mem_cons.mpr ⟨ed_w1_186, List.forall_mem_cons.mpr ⟨ed_w1_188, List.forall_mem_cons.mpr ⟨ed_w1_190, List.forall_mem_cons.mpr ⟨ed_w1_192, fun _ h => absurd h List.not_mem_nil⟩⟩⟩⟩⟩⟩
theorem ed_uX2 : ∀ w ∈ u_ws RX2 TX2 2, w ∈ ed_ws := List.forall_mem_cons.mpr ⟨ed_w2_24, List.forall_mem_cons.mpr ⟨ed_w2_26, fun _ h => absurd h List.not_mem_nil⟩⟩
theorem ed_uX3 : ∀ w ∈ u_ws RX3 TX3 3, w ∈ ed_ws := List.forall_mem_cons.mpr ⟨ed_w1_35, List.forall_mem_cons.mpr ⟨ed_w1_37, List.forall_mem_cons.mpr ⟨ed_w1_39, fun _ h => absurd h List.not_mem_nil⟩⟩⟩
theorem ed_uX4 : ∀ w ∈ u_ws RX4 TX4 2, w ∈ ed_ws := List.forall_mem_cons.mpr ⟨ed_w1_206, List.forall_mem_cons.mpr ⟨ed_w1_208, fun _ h => absurd h List.not_mem_nil⟩⟩
theorem ed_uX5 : ∀ w ∈ u_ws RX5 TX5 11, w ∈ ed_ws := List.forall_mem_cons.mpr ⟨ed_w1_229, List.forall_mem_cons.mpr ⟨ed_w1_231, List.forall_mem_cons.mpr ⟨ed_w1_233, List.forall_mem_cons.mpr ⟨ed_w1_235, List.forall_mem_cons.mpr ⟨ed_w1_237, List.forall_mem_cons.mpr ⟨ed_w1_239, List.forall_mem_cons.mpr ⟨ed_w2_1, List.forall_mem_cons.mpr ⟨ed_w2_3, List.forall_mem_cons.mpr ⟨ed_w2_5, List.forall_mem_cons.mpr ⟨ed_w2_7, List.forall_mem_cons.mpr ⟨ed_w2_9, fun _ h => absurd h List.not_mem_nil⟩⟩⟩⟩⟩⟩⟩⟩⟩⟩⟩
theorem ed_uX6 : ∀ w ∈ u_ws RX6 TX6 11, w ∈ ed_ws := List.forall_mem_cons.mpr ⟨ed_w1_82, List.forall_mem_cons.mpr ⟨ed_w1_84, List.forall_mem_cons.mpr ⟨ed_w1_86, List.forall_mem_cons.mpr ⟨ed_w1_88, List.forall_mem_cons.mpr ⟨ed_w1_90, List.forall_mem_cons.mpr ⟨ed_w1_92, List.forall_mem_cons.mpr ⟨ed_w1_94, List.forall_mem_cons.mpr ⟨ed_w1_96, List.forall_mem_cons.mpr ⟨ed_w1_98, List.forall_mem_cons.mpr ⟨ed_w1_100, List.forall_mem_cons.mpr ⟨ed_w1_102, fun _ h => absurd h List.not_mem_nil⟩⟩⟩⟩⟩⟩⟩⟩⟩⟩⟩
theorem ed_uX7 : ∀ w ∈ u_ws RX7 TX7 9, w ∈ ed_ws := List.forall_mem_cons.mpr ⟨ed_w2_51, List.forall_mem_cons.mpr ⟨ed_w2_53, List.forall_mem_cons.mpr ⟨ed_w2_55, List.forall_mem_cons.mpr ⟨ed_w2_57, List.forall_mem_cons.mpr ⟨ed_w2_59, List.forall_mem_cons.mpr ⟨ed_w2_61, List.forall_mem_cons.mpr ⟨ed_w2_63, List.forall_mem_cons.mpr ⟨ed_w2_65, List.forall_mem_cons.mpr ⟨ed_w2_67, fun _ h => absurd h List.not_mem_nil⟩⟩⟩⟩⟩⟩⟩⟩⟩
theorem ed_uX8 : ∀ w ∈ u_ws RX8 TX8 6, w ∈ ed_ws := List.forall_mem_cons.mpr ⟨ed_w2_76, List.forall_mem_cons.mpr ⟨ed_w2_78, List.forall_mem_cons.mpr ⟨ed_w2_80, List.forall_mem_cons.mpr ⟨ed_w2_82, List.forall_mem_cons.mpr ⟨ed_w2_84, List.forall_mem_cons.mpr ⟨ed_w2_86, fun _ h => absurd h List.not_mem_nil⟩⟩⟩⟩⟩⟩
def wsX0_init : List Cond := Cond.code yX0_init cX0_init 1 none :: ed_ws
theorem hn_X0_init : yX0_init.cls ≠ "java/lang/invoke/MethodHandle" ∧ yX0_init.cls ≠ "java/lang/invoke/VarHandle" ∧ (parseMethodDescriptor yX0_init.desc).map (fun d => d.parameters.length) = some 0 := by decide +kernel
theorem hd_X0_init : yX0_init.cls = RX0 ∧ yX0_init.cls ≠ "java/lang/invoke/MethodHandle" ∧ yX0_init.cls ≠ "java/lang/invoke/VarHandle" ∧ (parseMethodDescriptor yX0_init.desc).map (fun d => d.parameters.length) = some 0 := by decide +kernel
def wsX0_begin : List Cond := Cond.code yX0_begin cX0_begin 6 none :: ed_ws
theorem hd_X0_begin : yX0_begin.cls = RX0 ∧ yX0_begin.cls ≠ "java/lang/invoke/MethodHandle" ∧ yX0_begin.cls ≠ "java/lang/invoke/VarHandle" ∧ (parseMethodDescriptor yX0_begin.desc).map (fun d => d.parameters.length) = some 5 := by decide +kernel
def wsX0_copyFrom : List Cond := Cond.code yX0_copyFrom cX0_copyFrom 2 none :: ed_ws
theorem hd_X0_copyFrom : yX0_copyFrom.cls = RX0 ∧ yX0_copyFrom.cls ≠ "java/lang/invoke/MethodHandle" ∧ yX0_copyFrom.cls ≠ "java/lang/invoke/VarHandle" ∧ (parseMethodDescriptor yX0_copyFrom.desc).map (fun d => d.parameters.length) = some 1 := by decide +kernel
def wsX0_hasTopic : List Cond := Cond.code yX0_hasTopic cX0_hasTopic 2 (some .boolean) :: ed_ws
theorem hd_X0_hasTopic : yX0_hasTopic.cls = RX0 ∧ yX0_hasTopic.cls ≠ "java/lang/invoke/MethodHandle" ∧ yX0_hasTopic.cls ≠ "java/lang/invoke/VarHandle" ∧ (parseMethodDescriptor yX0_hasTopic.desc).map (fun d => d.parameters.length) = some 1 := by decide +kernel
def wsX0_canGetCopy : List Cond := Cond.code yX0_canGetCopy cX0_canGetCopy 1 (some .boolean) :: ed_ws
theorem hd_X0_canGetCopy : yX0_canGetCopy.cls = RX0 ∧ yX0_canGetCopy.cls ≠ "java/lang/invoke/MethodHandle" ∧ yX0_canGetCopy.cls ≠ "java/lang/invoke/VarHandle" ∧ (parseMethodDescriptor yX0_canGetCopy.desc).map (fun d => d.parameters.length) = some 0 := by decide +kernel
def wsX1_init : List Cond := Cond.code yX1_init cX1_init 1 none :: ed_ws
theorem hn_X1_init : yX1_init.cls ≠ "java/lang/invoke/MethodHandle" ∧ yX1_init.cls ≠ "java/lang/invoke/VarHandle" ∧ (parseMethodDescriptor yX1_init.desc).map (fun d => d.parameters.length) = some 0 := by decide +kernel
theorem hd_X1_init : yX1_init.cls = RX1 ∧ yX1_init.cls ≠ "java/lang/invoke/MethodHandle" ∧ yX1_init.cls ≠ "java/lang/invoke/VarHandle" ∧ (parseMethodDescriptor yX1_init.desc).map (fun d => d.parameters.length) = some 0 := by decide +kernel
def wsX1_begin : List Cond := Cond.code yX1_begin cX1_begin 4 none :: ed_ws
theorem hd_X1_begin : yX1_begin.cls = RX1 ∧ yX1_begin.cls ≠ "java/lang/invoke/MethodHandle" ∧ yX1_begin.cls ≠ "java/lang/invoke/VarHandle" ∧ (parseMethodDescriptor yX1_begin.desc).map (fun d => d.parameters.length) = some 3 := by decide +kernel
def wsX1_isOver : List Cond := Cond.code yX1_isOver cX1_isOver 1 (some .boolean) :: ed_ws
theorem hd_X1_isOver : yX1_isOver.cls = RX1 ∧ yX1_isOver.cls ≠ "java/lang/invoke/MethodHandle" ∧ yX1_isOver.cls ≠ "java/lang/invoke/VarHandle" ∧ (parseMethodDescriptor yX1_isOver.desc).map (fun d => d.parameters.length) = some 0 := by decide +kernel
def wsX1_copyFrom : List Cond := Cond.code yX1_copyFrom cX1_copyFrom 2 none :: ed_ws
theorem hd_X1_copyFrom : yX1_copyFrom.cls = RX1 ∧ yX1_copyFrom.cls ≠ "java/lang/invoke/MethodHandle" ∧ yX1_copyFrom.cls ≠ "java/lang/invoke/VarHandle" ∧ (parseMethodDescriptor yX1_copyFrom.desc).map (fun d => d.parameters.length) = some 1 := by decide +kernel
def wsX2_init : List Cond := Cond.code yX2_init cX2_init 2 none :: ed_ws
theorem hn_X2_init : yX2_init.cls ≠ "java/lang/invoke/MethodHandle" ∧ yX2_init.cls ≠ "java/lang/invoke/VarHandle" ∧ (parseMethodDescriptor yX2_init.desc).map (fun d => d.parameters.length) = some 0 := by decide +kernel
theorem hd_X2_init : yX2_init.cls = RX2 ∧ yX2_init.cls ≠ "java/lang/invoke/MethodHandle" ∧ yX2_init.cls ≠ "java/lang/invoke/VarHandle" ∧ (parseMethodDescriptor yX2_init.desc).map (fun d => d.parameters.length) = some 0 := by decide +kernel
def wsX2_remember : List Cond := Cond.code yX2_remember cX2_remember 3 none :: ed_ws
theorem hd_X2_remember : yX2_remember.cls = RX2 ∧ yX2_remember.cls ≠ "java/lang/invoke/MethodHandle" ∧ yX2_remember.cls ≠ "java/lang/invoke/VarHandle" ∧ (parseMethodDescriptor yX2_remember.desc).map (fun d => d.parameters.length) = some 1 := by decide +kernel
def wsX2_dropOldest : List Cond := Cond.code yX2_dropOldest cX2_dropOldest 3 none :: ed_ws
theorem hd_X2_dropOldest : yX2_dropOldest.cls = RX2 ∧ yX2_dropOldest.cls ≠ "java/lang/invoke/MethodHandle" ∧ yX2_dropOldest.cls ≠ "java/lang/invoke/VarHandle" ∧ (parseMethodDescriptor yX2_dropOldest.desc).map (fun d => d.parameters.length) = some 0 := by decide +kernel
def wsX2_takeLatest : List Cond := Cond.code yX2_takeLatest cX2_takeLatest 3 none :: ed_ws
theorem hd_X2_takeLatest : yX2_takeLatest.cls = RX2 ∧ yX2_takeLatest.cls ≠ "java/lang/invoke/MethodHandle" ∧ yX2_takeLatest.cls ≠ "java/lang/invoke/VarHandle" ∧ (parseMethodDescriptor yX2_takeLatest.desc).map (fun d => d.parameters.length) = some 1 := by decide +kernel
def wsX3_init : List Cond := Cond.code yX3_init cX3_init 1 none :: ed_ws
theorem hn_X3_init : yX3_init.cls ≠ "java/lang/invoke/MethodHandle" ∧ yX3_init.cls ≠ "java/lang/invoke/VarHandle" ∧ (parseMethodDescriptor yX3_init.desc).map (fun d => d.parameters.length) = some 0 := by decide +kernel
theorem hd_X3_init : yX3_init.cls = RX3 ∧ yX3_init.cls ≠ "java/lang/invoke/MethodHandle" ∧ yX3_init.cls ≠ "java/lang/invoke/VarHandle" ∧ (parseMethodDescriptor yX3_init.desc).map (fun d => d.parameters.length) = some 0 := by decide +kernel
def wsX3_add : List Cond := Cond.code yX3_add cX3_add 6 none :: ed_ws
theorem hd_X3_add : yX3_add.cls = RX3 ∧ yX3_add.cls ≠ "java/lang/invoke/MethodHandle" ∧ yX3_add.cls ≠ "java/lang/invoke/VarHandle" ∧ (parseMethodDescriptor yX3_add.desc).map (fun d => d.parameters.length) = some 4 := by decide +kernel
def wsX3_copyFrom : List Cond := Cond.code yX3_copyFrom cX3_copyFrom 2 none :: ed_ws
theorem hd_X3_copyFrom : yX3_copyFrom.cls = RX3 ∧ yX3_copyFrom.cls ≠ "java/lang/invoke/MethodHandle" ∧ yX3_copyFrom.cls ≠ "java/lang/invoke/VarHandle" ∧ (parseMethodDescriptor yX3_copyFrom.desc).map (fun d => d.parameters.length) = some 1 := by decide +kernel
def wsX4_init : List Cond := Cond.code yX4_init cX4_init 1 none :: ed_ws
theorem hn_X4_init : yX4_init.cls ≠ "java/lang/invoke/MethodHandle" ∧ yX4_init.cls ≠ "java/lang/invoke/VarHandle" ∧ (parseMethodDescriptor yX4_init.desc).map (fun d => d.parameters.length) = some 0 := by decide +kernel
theorem hd_X4_init : yX4_init.cls = RX4 ∧ yX4_init.cls ≠ "java/lang/invoke/MethodHandle" ∧ yX4_init.cls ≠ "java/lang/invoke/VarHandle" ∧ (parseMethodDescriptor yX4_init.desc).map (fun d => d.parameters.length) = some 0 := by decide +kernel
def wsX4_addShare : List Cond := Cond.code yX4_addShare cX4_addShare 2 none :: ed_ws
theorem hd_X4_addShare : yX4_addShare.cls = RX4 ∧ yX4_addShare.cls ≠ "java/lang/invoke/MethodHandle" ∧ yX4_addShare.cls ≠ "java/lang/invoke/VarHandle" ∧ (parseMethodDescriptor yX4_addShare.desc).map (fun d => d.parameters.length) = some 1 := by decide +kernel
def wsX5_init : List Cond := Cond.code yX5_init cX5_init 2 none :: ed_ws
theorem hn_X5_init : yX5_init.cls ≠ "java/lang/invoke/MethodHandle" ∧ yX5_init.cls ≠ "java/lang/invoke/VarHandle" ∧ (parseMethodDescriptor yX5_init.desc).map (fun d => d.parameters.length) = some 0 := by decide +kernel
theorem hd_X5_init : yX5_init.cls = RX5 ∧ yX5_init.cls ≠ "java/lang/invoke/MethodHandle" ∧ yX5_init.cls ≠ "java/lang/invoke/VarHandle" ∧ (parseMethodDescriptor yX5_init.desc).map (fun d => d.parameters.length) = some 0 := by decide +kernel
def wsX5_copyFrom : List Cond := Cond.code yX5_copyFrom cX5_copyFrom 2 none :: ed_ws
theorem hd_X5_copyFrom : yX5_copyFrom.cls = RX5 ∧ yX5_copyFrom.cls ≠ "java/lang/invoke/MethodHandle" ∧ yX5_copyFrom.cls ≠ "java/lang/invoke/VarHandle" ∧ (parseMethodDescriptor yX5_copyFrom.desc).map (fun d => d.parameters.length) = some 1 := by decide +kernel
def wsX5_copyStories : List Cond := Cond.code yX5_copyStories cX5_copyStories 5 none :: ed_ws
theorem hd_X5_copyStories : yX5_copyStories.cls = RX5 ∧ yX5_copyStories.cls ≠ "java/lang/invoke/MethodHandle" ∧ yX5_copyStories.cls ≠ "java/lang/invoke/VarHandle" ∧ (parseMethodDescriptor yX5_copyStories.desc).map (fun d => d.parameters.length) = some 1 := by decide +kernel
def wsX5_copyClients : List Cond := Cond.code yX5_copyClients cX5_copyClients 5 none :: ed_ws
theorem hd_X5_copyClients : yX5_copyClients.cls = RX5 ∧ yX5_copyClients.cls ≠ "java/lang/invoke/MethodHandle" ∧ yX5_copyClients.cls ≠ "java/lang/invoke/VarHandle" ∧ (parseMethodDescriptor yX5_copyClients.desc).map (fun d => d.parameters.length) = some 1 := by decide +kernel
def wsX5_copyCopies : List Cond := Cond.code yX5_copyCopies cX5_copyCopies 5 none :: ed_ws
theorem hd_X5_copyCopies : yX5_copyCopies.cls = RX5 ∧ yX5_copyCopies.cls ≠ "java/lang/invoke/MethodHandle" ∧ yX5_copyCopies.cls ≠ "java/lang/invoke/VarHandle" ∧ (parseMethodDescriptor yX5_copyCopies.desc).map (fun d => d.parameters.length) = some 1 := by decide +kernel
def wsX5_copyPersons : List Cond := Cond.code yX5_copyPersons cX5_copyPersons 5 none :: ed_ws
theorem hd_X5_copyPersons : yX5_copyPersons.cls = RX5 ∧ yX5_copyPersons.cls ≠ "java/lang/invoke/MethodHandle" ∧ yX5_copyPersons.cls ≠ "java/lang/invoke/VarHandle" ∧ (parseMethodDescriptor yX5_copyPersons.desc).map (fun d => d.parameters.length) = some 1 := by decide +kernel
def wsX5_storyAt : List Cond := Cond.code yX5_storyAt cX5_storyAt 2 (some (.object "EmbargoDesk$Story")) :: ed_ws
theorem hd_X5_storyAt : yX5_storyAt.cls = RX5 ∧ yX5_storyAt.cls ≠ "java/lang/invoke/MethodHandle" ∧ yX5_storyAt.cls ≠ "java/lang/invoke/VarHandle" ∧ (parseMethodDescriptor yX5_storyAt.desc).map (fun d => d.parameters.length) = some 1 := by decide +kernel
def wsX5_clientAt : List Cond := Cond.code yX5_clientAt cX5_clientAt 2 (some (.object "EmbargoDesk$Client")) :: ed_ws
theorem hd_X5_clientAt : yX5_clientAt.cls = RX5 ∧ yX5_clientAt.cls ≠ "java/lang/invoke/MethodHandle" ∧ yX5_clientAt.cls ≠ "java/lang/invoke/VarHandle" ∧ (parseMethodDescriptor yX5_clientAt.desc).map (fun d => d.parameters.length) = some 1 := by decide +kernel
def wsX5_copyMade : List Cond := Cond.code yX5_copyMade cX5_copyMade 2 (some (.object "EmbargoDesk$Copy")) :: ed_ws
theorem hd_X5_copyMade : yX5_copyMade.cls = RX5 ∧ yX5_copyMade.cls ≠ "java/lang/invoke/MethodHandle" ∧ yX5_copyMade.cls ≠ "java/lang/invoke/VarHandle" ∧ (parseMethodDescriptor yX5_copyMade.desc).map (fun d => d.parameters.length) = some 1 := by decide +kernel
def wsX5_personAt : List Cond := Cond.code yX5_personAt cX5_personAt 2 (some (.object "EmbargoDesk$Person")) :: ed_ws
theorem hd_X5_personAt : yX5_personAt.cls = RX5 ∧ yX5_personAt.cls ≠ "java/lang/invoke/MethodHandle" ∧ yX5_personAt.cls ≠ "java/lang/invoke/VarHandle" ∧ (parseMethodDescriptor yX5_personAt.desc).map (fun d => d.parameters.length) = some 1 := by decide +kernel
def wsX5_copyFor : List Cond := Cond.code yX5_copyFor cX5_copyFor 5 (some (.object "EmbargoDesk$Copy")) :: ed_ws
theorem hd_X5_copyFor : yX5_copyFor.cls = RX5 ∧ yX5_copyFor.cls ≠ "java/lang/invoke/MethodHandle" ∧ yX5_copyFor.cls ≠ "java/lang/invoke/VarHandle" ∧ (parseMethodDescriptor yX5_copyFor.desc).map (fun d => d.parameters.length) = some 2 := by decide +kernel
def wsX5_passHour : List Cond := Cond.code yX5_passHour cX5_passHour 3 none :: ed_ws
theorem hd_X5_passHour : yX5_passHour.cls = RX5 ∧ yX5_passHour.cls ≠ "java/lang/invoke/MethodHandle" ∧ yX5_passHour.cls ≠ "java/lang/invoke/VarHandle" ∧ (parseMethodDescriptor yX5_passHour.desc).map (fun d => d.parameters.length) = some 0 := by decide +kernel
def wsX5_startDay : List Cond := Cond.code yX5_startDay cX5_startDay 3 none :: ed_ws
theorem hd_X5_startDay : yX5_startDay.cls = RX5 ∧ yX5_startDay.cls ≠ "java/lang/invoke/MethodHandle" ∧ yX5_startDay.cls ≠ "java/lang/invoke/VarHandle" ∧ (parseMethodDescriptor yX5_startDay.desc).map (fun d => d.parameters.length) = some 0 := by decide +kernel
def wsX5_publish : List Cond := Cond.code yX5_publish cX5_publish 5 none :: ed_ws
theorem hd_X5_publish : yX5_publish.cls = RX5 ∧ yX5_publish.cls ≠ "java/lang/invoke/MethodHandle" ∧ yX5_publish.cls ≠ "java/lang/invoke/VarHandle" ∧ (parseMethodDescriptor yX5_publish.desc).map (fun d => d.parameters.length) = some 2 := by decide +kernel
def wsX5_planCopy : List Cond := Cond.code yX5_planCopy cX5_planCopy 5 none :: ed_ws
theorem hd_X5_planCopy : yX5_planCopy.cls = RX5 ∧ yX5_planCopy.cls ≠ "java/lang/invoke/MethodHandle" ∧ yX5_planCopy.cls ≠ "java/lang/invoke/VarHandle" ∧ (parseMethodDescriptor yX5_planCopy.desc).map (fun d => d.parameters.length) = some 3 := by decide +kernel
def wsX5_moveOn : List Cond := Cond.code yX5_moveOn cX5_moveOn 4 none :: ed_ws
theorem hd_X5_moveOn : yX5_moveOn.cls = RX5 ∧ yX5_moveOn.cls ≠ "java/lang/invoke/MethodHandle" ∧ yX5_moveOn.cls ≠ "java/lang/invoke/VarHandle" ∧ (parseMethodDescriptor yX5_moveOn.desc).map (fun d => d.parameters.length) = some 1 := by decide +kernel
def wsX5_startUse : List Cond := Cond.code yX5_startUse cX5_startUse 4 none :: ed_ws
theorem hd_X5_startUse : yX5_startUse.cls = RX5 ∧ yX5_startUse.cls ≠ "java/lang/invoke/MethodHandle" ∧ yX5_startUse.cls ≠ "java/lang/invoke/VarHandle" ∧ (parseMethodDescriptor yX5_startUse.desc).map (fun d => d.parameters.length) = some 3 := by decide +kernel
def wsX5_bill : List Cond := Cond.code yX5_bill cX5_bill 7 none :: ed_ws
theorem hd_X5_bill : yX5_bill.cls = RX5 ∧ yX5_bill.cls ≠ "java/lang/invoke/MethodHandle" ∧ yX5_bill.cls ≠ "java/lang/invoke/VarHandle" ∧ (parseMethodDescriptor yX5_bill.desc).map (fun d => d.parameters.length) = some 2 := by decide +kernel
def wsX5_reach : List Cond := Cond.code yX5_reach cX5_reach 5 none :: ed_ws
theorem hd_X5_reach : yX5_reach.cls = RX5 ∧ yX5_reach.cls ≠ "java/lang/invoke/MethodHandle" ∧ yX5_reach.cls ≠ "java/lang/invoke/VarHandle" ∧ (parseMethodDescriptor yX5_reach.desc).map (fun d => d.parameters.length) = some 2 := by decide +kernel
def wsX5_correctionsMissing : List Cond := Cond.code yX5_correctionsMissing cX5_correctionsMissing 3 (some .int) :: ed_ws
theorem hd_X5_correctionsMissing : yX5_correctionsMissing.cls = RX5 ∧ yX5_correctionsMissing.cls ≠ "java/lang/invoke/MethodHandle" ∧ yX5_correctionsMissing.cls ≠ "java/lang/invoke/VarHandle" ∧ (parseMethodDescriptor yX5_correctionsMissing.desc).map (fun d => d.parameters.length) = some 1 := by decide +kernel
def wsX5_correctionsDue : List Cond := Cond.code yX5_correctionsDue cX5_correctionsDue 6 (some .int) :: ed_ws
theorem hd_X5_correctionsDue : yX5_correctionsDue.cls = RX5 ∧ yX5_correctionsDue.cls ≠ "java/lang/invoke/MethodHandle" ∧ yX5_correctionsDue.cls ≠ "java/lang/invoke/VarHandle" ∧ (parseMethodDescriptor yX5_correctionsDue.desc).map (fun d => d.parameters.length) = some 1 := by decide +kernel
def wsX5_nextCorrectionAt : List Cond := Cond.code yX5_nextCorrectionAt cX5_nextCorrectionAt 4 (some .int) :: ed_ws
theorem hd_X5_nextCorrectionAt : yX5_nextCorrectionAt.cls = RX5 ∧ yX5_nextCorrectionAt.cls ≠ "java/lang/invoke/MethodHandle" ∧ yX5_nextCorrectionAt.cls ≠ "java/lang/invoke/VarHandle" ∧ (parseMethodDescriptor yX5_nextCorrectionAt.desc).map (fun d => d.parameters.length) = some 1 := by decide +kernel
def wsX5_killNoticeAt : List Cond := Cond.code yX5_killNoticeAt cX5_killNoticeAt 4 (some .int) :: ed_ws
theorem hd_X5_killNoticeAt : yX5_killNoticeAt.cls = RX5 ∧ yX5_killNoticeAt.cls ≠ "java/lang/invoke/MethodHandle" ∧ yX5_killNoticeAt.cls ≠ "java/lang/invoke/VarHandle" ∧ (parseMethodDescriptor yX5_killNoticeAt.desc).map (fun d => d.parameters.length) = some 1 := by decide +kernel
def wsX5_useEndsAt : List Cond := Cond.code yX5_useEndsAt cX5_useEndsAt 2 (some .int) :: ed_ws
theorem hd_X5_useEndsAt : yX5_useEndsAt.cls = RX5 ∧ yX5_useEndsAt.cls ≠ "java/lang/invoke/MethodHandle" ∧ yX5_useEndsAt.cls ≠ "java/lang/invoke/VarHandle" ∧ (parseMethodDescriptor yX5_useEndsAt.desc).map (fun d => d.parameters.length) = some 1 := by decide +kernel
def wsX5_clientsFor : List Cond := Cond.code yX5_clientsFor cX5_clientsFor 5 (some .int) :: ed_ws
theorem hd_X5_clientsFor : yX5_clientsFor.cls = RX5 ∧ yX5_clientsFor.cls ≠ "java/lang/invoke/MethodHandle" ∧ yX5_clientsFor.cls ≠ "java/lang/invoke/VarHandle" ∧ (parseMethodDescriptor yX5_clientsFor.desc).map (fun d => d.parameters.length) = some 1 := by decide +kernel
def wsX5_copiesThatCame : List Cond := Cond.code yX5_copiesThatCame cX5_copiesThatCame 4 (some .int) :: ed_ws
theorem hd_X5_copiesThatCame : yX5_copiesThatCame.cls = RX5 ∧ yX5_copiesThatCame.cls ≠ "java/lang/invoke/MethodHandle" ∧ yX5_copiesThatCame.cls ≠ "java/lang/invoke/VarHandle" ∧ (parseMethodDescriptor yX5_copiesThatCame.desc).map (fun d => d.parameters.length) = some 0 := by decide +kernel
def wsX5_copiesOf : List Cond := Cond.code yX5_copiesOf cX5_copiesOf 7 (some .int) :: ed_ws
theorem hd_X5_copiesOf : yX5_copiesOf.cls = RX5 ∧ yX5_copiesOf.cls ≠ "java/lang/invoke/MethodHandle" ∧ yX5_copiesOf.cls ≠ "java/lang/invoke/VarHandle" ∧ (parseMethodDescriptor yX5_copiesOf.desc).map (fun d => d.parameters.length) = some 3 := by decide +kernel
def wsX5_fits : List Cond := Cond.code yX5_fits cX5_fits 2 (some .boolean) :: ed_ws
theorem hd_X5_fits : yX5_fits.cls = RX5 ∧ yX5_fits.cls ≠ "java/lang/invoke/MethodHandle" ∧ yX5_fits.cls ≠ "java/lang/invoke/VarHandle" ∧ (parseMethodDescriptor yX5_fits.desc).map (fun d => d.parameters.length) = some 2 := by decide +kernel
def wsX5_upToDateCopies : List Cond := Cond.code yX5_upToDateCopies cX5_upToDateCopies 5 (some .int) :: ed_ws
theorem hd_X5_upToDateCopies : yX5_upToDateCopies.cls = RX5 ∧ yX5_upToDateCopies.cls ≠ "java/lang/invoke/MethodHandle" ∧ yX5_upToDateCopies.cls ≠ "java/lang/invoke/VarHandle" ∧ (parseMethodDescriptor yX5_upToDateCopies.desc).map (fun d => d.parameters.length) = some 1 := by decide +kernel
def wsX5_copiesWithCorrectionsDue : List Cond := Cond.code yX5_copiesWithCorrectionsDue cX5_copiesWithCorrectionsDue 4 (some .int) :: ed_ws
theorem hd_X5_copiesWithCorrectionsDue : yX5_copiesWithCorrectionsDue.cls = RX5 ∧ yX5_copiesWithCorrectionsDue.cls ≠ "java/lang/invoke/MethodHandle" ∧ yX5_copiesWithCorrectionsDue.cls ≠ "java/lang/invoke/VarHandle" ∧ (parseMethodDescriptor yX5_copiesWithCorrectionsDue.desc).map (fun d => d.parameters.length) = some 0 := by decide +kernel
def wsX5_storiesBy : List Cond := Cond.code yX5_storiesBy cX5_storiesBy 5 (some .int) :: ed_ws
theorem hd_X5_storiesBy : yX5_storiesBy.cls = RX5 ∧ yX5_storiesBy.cls ≠ "java/lang/invoke/MethodHandle" ∧ yX5_storiesBy.cls ≠ "java/lang/invoke/VarHandle" ∧ (parseMethodDescriptor yX5_storiesBy.desc).map (fun d => d.parameters.length) = some 1 := by decide +kernel
def wsX5_copiesInUseBy : List Cond := Cond.code yX5_copiesInUseBy cX5_copiesInUseBy 5 (some .int) :: ed_ws
theorem hd_X5_copiesInUseBy : yX5_copiesInUseBy.cls = RX5 ∧ yX5_copiesInUseBy.cls ≠ "java/lang/invoke/MethodHandle" ∧ yX5_copiesInUseBy.cls ≠ "java/lang/invoke/VarHandle" ∧ (parseMethodDescriptor yX5_copiesInUseBy.desc).map (fun d => d.parameters.length) = some 1 := by decide +kernel
def wsX5_authors : List Cond := Cond.code yX5_authors cX5_authors 3 (some .int) :: ed_ws
theorem hd_X5_authors : yX5_authors.cls = RX5 ∧ yX5_authors.cls ≠ "java/lang/invoke/MethodHandle" ∧ yX5_authors.cls ≠ "java/lang/invoke/VarHandle" ∧ (parseMethodDescriptor yX5_authors.desc).map (fun d => d.parameters.length) = some 0 := by decide +kernel
def wsX6_init : List Cond := Cond.code yX6_init cX6_init 1 none :: ed_ws
theorem hn_X6_init : yX6_init.cls ≠ "java/lang/invoke/MethodHandle" ∧ yX6_init.cls ≠ "java/lang/invoke/VarHandle" ∧ (parseMethodDescriptor yX6_init.desc).map (fun d => d.parameters.length) = some 0 := by decide +kernel
theorem hd_X6_init : yX6_init.cls = RX6 ∧ yX6_init.cls ≠ "java/lang/invoke/MethodHandle" ∧ yX6_init.cls ≠ "java/lang/invoke/VarHandle" ∧ (parseMethodDescriptor yX6_init.desc).map (fun d => d.parameters.length) = some 0 := by decide +kernel
def wsX6_begin : List Cond := Cond.code yX6_begin cX6_begin 2 none :: ed_ws
theorem hd_X6_begin : yX6_begin.cls = RX6 ∧ yX6_begin.cls ≠ "java/lang/invoke/MethodHandle" ∧ yX6_begin.cls ≠ "java/lang/invoke/VarHandle" ∧ (parseMethodDescriptor yX6_begin.desc).map (fun d => d.parameters.length) = some 1 := by decide +kernel
def wsX6_copyFrom : List Cond := Cond.code yX6_copyFrom cX6_copyFrom 2 none :: ed_ws
theorem hd_X6_copyFrom : yX6_copyFrom.cls = RX6 ∧ yX6_copyFrom.cls ≠ "java/lang/invoke/MethodHandle" ∧ yX6_copyFrom.cls ≠ "java/lang/invoke/VarHandle" ∧ (parseMethodDescriptor yX6_copyFrom.desc).map (fun d => d.parameters.length) = some 1 := by decide +kernel
def wsX6_addCorrection : List Cond := Cond.code yX6_addCorrection cX6_addCorrection 2 none :: ed_ws
theorem hd_X6_addCorrection : yX6_addCorrection.cls = RX6 ∧ yX6_addCorrection.cls ≠ "java/lang/invoke/MethodHandle" ∧ yX6_addCorrection.cls ≠ "java/lang/invoke/VarHandle" ∧ (parseMethodDescriptor yX6_addCorrection.desc).map (fun d => d.parameters.length) = some 1 := by decide +kernel
def wsX6_authorAt : List Cond := Cond.code yX6_authorAt cX6_authorAt 2 (some .int) :: ed_ws
theorem hd_X6_authorAt : yX6_authorAt.cls = RX6 ∧ yX6_authorAt.cls ≠ "java/lang/invoke/MethodHandle" ∧ yX6_authorAt.cls ≠ "java/lang/invoke/VarHandle" ∧ (parseMethodDescriptor yX6_authorAt.desc).map (fun d => d.parameters.length) = some 1 := by decide +kernel
def wsX6_correctedAt : List Cond := Cond.code yX6_correctedAt cX6_correctedAt 2 (some .int) :: ed_ws
theorem hd_X6_correctedAt : yX6_correctedAt.cls = RX6 ∧ yX6_correctedAt.cls ≠ "java/lang/invoke/MethodHandle" ∧ yX6_correctedAt.cls ≠ "java/lang/invoke/VarHandle" ∧ (parseMethodDescriptor yX6_correctedAt.desc).map (fun d => d.parameters.length) = some 1 := by decide +kernel
def wsX6_isBy : List Cond := Cond.code yX6_isBy cX6_isBy 3 (some .boolean) :: ed_ws
theorem hd_X6_isBy : yX6_isBy.cls = RX6 ∧ yX6_isBy.cls ≠ "java/lang/invoke/MethodHandle" ∧ yX6_isBy.cls ≠ "java/lang/invoke/VarHandle" ∧ (parseMethodDescriptor yX6_isBy.desc).map (fun d => d.parameters.length) = some 1 := by decide +kernel
def wsX7_init : List Cond := Cond.code yX7_init cX7_init 1 none :: ed_ws
theorem hn_X7_init : yX7_init.cls ≠ "java/lang/invoke/MethodHandle" ∧ yX7_init.cls ≠ "java/lang/invoke/VarHandle" ∧ (parseMethodDescriptor yX7_init.desc).map (fun d => d.parameters.length) = some 0 := by decide +kernel
theorem hd_X7_init : yX7_init.cls = RX7 ∧ yX7_init.cls ≠ "java/lang/invoke/MethodHandle" ∧ yX7_init.cls ≠ "java/lang/invoke/VarHandle" ∧ (parseMethodDescriptor yX7_init.desc).map (fun d => d.parameters.length) = some 0 := by decide +kernel
def wsX7_add : List Cond := Cond.code yX7_add cX7_add 2 none :: ed_ws
theorem hd_X7_add : yX7_add.cls = RX7 ∧ yX7_add.cls ≠ "java/lang/invoke/MethodHandle" ∧ yX7_add.cls ≠ "java/lang/invoke/VarHandle" ∧ (parseMethodDescriptor yX7_add.desc).map (fun d => d.parameters.length) = some 1 := by decide +kernel
def wsX7_parse : List Cond := Cond.code yX7_parse cX7_parse 2 (some .int) :: ed_ws
theorem hd_X7_parse : yX7_parse.cls = RX7 ∧ yX7_parse.cls ≠ "java/lang/invoke/MethodHandle" ∧ yX7_parse.cls ≠ "java/lang/invoke/VarHandle" ∧ (parseMethodDescriptor yX7_parse.desc).map (fun d => d.parameters.length) = some 0 := by decide +kernel
def wsX7_sign : List Cond := Cond.code yX7_sign cX7_sign 1 (some .int) :: ed_ws
theorem hd_X7_sign : yX7_sign.cls = RX7 ∧ yX7_sign.cls ≠ "java/lang/invoke/MethodHandle" ∧ yX7_sign.cls ≠ "java/lang/invoke/VarHandle" ∧ (parseMethodDescriptor yX7_sign.desc).map (fun d => d.parameters.length) = some 0 := by decide +kernel
def wsX7_digit : List Cond := Cond.code yX7_digit cX7_digit 1 (some .int) :: ed_ws
theorem hd_X7_digit : yX7_digit.cls = RX7 ∧ yX7_digit.cls ≠ "java/lang/invoke/MethodHandle" ∧ yX7_digit.cls ≠ "java/lang/invoke/VarHandle" ∧ (parseMethodDescriptor yX7_digit.desc).map (fun d => d.parameters.length) = some 0 := by decide +kernel
def wsX7_readSign : List Cond := Cond.code yX7_readSign cX7_readSign 2 (some .boolean) :: ed_ws
theorem hd_X7_readSign : yX7_readSign.cls = RX7 ∧ yX7_readSign.cls ≠ "java/lang/invoke/MethodHandle" ∧ yX7_readSign.cls ≠ "java/lang/invoke/VarHandle" ∧ (parseMethodDescriptor yX7_readSign.desc).map (fun d => d.parameters.length) = some 1 := by decide +kernel
def wsX7_readTopic : List Cond := Cond.code yX7_readTopic cX7_readTopic 1 (some .boolean) :: ed_ws
theorem hd_X7_readTopic : yX7_readTopic.cls = RX7 ∧ yX7_readTopic.cls ≠ "java/lang/invoke/MethodHandle" ∧ yX7_readTopic.cls ≠ "java/lang/invoke/VarHandle" ∧ (parseMethodDescriptor yX7_readTopic.desc).map (fun d => d.parameters.length) = some 0 := by decide +kernel
def wsX7_readByline : List Cond := Cond.code yX7_readByline cX7_readByline 2 (some .boolean) :: ed_ws
theorem hd_X7_readByline : yX7_readByline.cls = RX7 ∧ yX7_readByline.cls ≠ "java/lang/invoke/MethodHandle" ∧ yX7_readByline.cls ≠ "java/lang/invoke/VarHandle" ∧ (parseMethodDescriptor yX7_readByline.desc).map (fun d => d.parameters.length) = some 0 := by decide +kernel
def wsX7_readPerson : List Cond := Cond.code yX7_readPerson cX7_readPerson 2 (some .boolean) :: ed_ws
theorem hd_X7_readPerson : yX7_readPerson.cls = RX7 ∧ yX7_readPerson.cls ≠ "java/lang/invoke/MethodHandle" ∧ yX7_readPerson.cls ≠ "java/lang/invoke/VarHandle" ∧ (parseMethodDescriptor yX7_readPerson.desc).map (fun d => d.parameters.length) = some 0 := by decide +kernel
def wsX7_isInByline : List Cond := Cond.code yX7_isInByline cX7_isInByline 3 (some .boolean) :: ed_ws
theorem hd_X7_isInByline : yX7_isInByline.cls = RX7 ∧ yX7_isInByline.cls ≠ "java/lang/invoke/MethodHandle" ∧ yX7_isInByline.cls ≠ "java/lang/invoke/VarHandle" ∧ (parseMethodDescriptor yX7_isInByline.desc).map (fun d => d.parameters.length) = some 1 := by decide +kernel
def wsX7_readEmbargo : List Cond := Cond.code yX7_readEmbargo cX7_readEmbargo 2 (some .boolean) :: ed_ws
theorem hd_X7_readEmbargo : yX7_readEmbargo.cls = RX7 ∧ yX7_readEmbargo.cls ≠ "java/lang/invoke/MethodHandle" ∧ yX7_readEmbargo.cls ≠ "java/lang/invoke/VarHandle" ∧ (parseMethodDescriptor yX7_readEmbargo.desc).map (fun d => d.parameters.length) = some 0 := by decide +kernel
def wsX7_readSlug : List Cond := Cond.code yX7_readSlug cX7_readSlug 2 (some .boolean) :: ed_ws
theorem hd_X7_readSlug : yX7_readSlug.cls = RX7 ∧ yX7_readSlug.cls ≠ "java/lang/invoke/MethodHandle" ∧ yX7_readSlug.cls ≠ "java/lang/invoke/VarHandle" ∧ (parseMethodDescriptor yX7_readSlug.desc).map (fun d => d.parameters.length) = some 0 := by decide +kernel
def wsX8_init : List Cond := Cond.code yX8_init cX8_init 1 none :: ed_ws
theorem hn_X8_init : yX8_init.cls ≠ "java/lang/invoke/MethodHandle" ∧ yX8_init.cls ≠ "java/lang/invoke/VarHandle" ∧ (parseMethodDescriptor yX8_init.desc).map (fun d => d.parameters.length) = some 0 := by decide +kernel
theorem hd_X8_init : yX8_init.cls = RX8 ∧ yX8_init.cls ≠ "java/lang/invoke/MethodHandle" ∧ yX8_init.cls ≠ "java/lang/invoke/VarHandle" ∧ (parseMethodDescriptor yX8_init.desc).map (fun d => d.parameters.length) = some 0 := by decide +kernel
def wsX8_addClient : List Cond := Cond.code yX8_addClient cX8_addClient 8 (some .int) :: ed_ws
theorem hd_X8_addClient : yX8_addClient.cls = RX8 ∧ yX8_addClient.cls ≠ "java/lang/invoke/MethodHandle" ∧ yX8_addClient.cls ≠ "java/lang/invoke/VarHandle" ∧ (parseMethodDescriptor yX8_addClient.desc).map (fun d => d.parameters.length) = some 5 := by decide +kernel
def wsX8_setUp : List Cond := Cond.code yX8_setUp cX8_setUp 4 (some .int) :: ed_ws
theorem hd_X8_setUp : yX8_setUp.cls = RX8 ∧ yX8_setUp.cls ≠ "java/lang/invoke/MethodHandle" ∧ yX8_setUp.cls ≠ "java/lang/invoke/VarHandle" ∧ (parseMethodDescriptor yX8_setUp.desc).map (fun d => d.parameters.length) = some 2 := by decide +kernel
def wsX8_setUse : List Cond := Cond.code yX8_setUse cX8_setUse 3 (some .int) :: ed_ws
theorem hd_X8_setUse : yX8_setUse.cls = RX8 ∧ yX8_setUse.cls ≠ "java/lang/invoke/MethodHandle" ∧ yX8_setUse.cls ≠ "java/lang/invoke/VarHandle" ∧ (parseMethodDescriptor yX8_setUse.desc).map (fun d => d.parameters.length) = some 1 := by decide +kernel
def wsX8_pay : List Cond := Cond.code yX8_pay cX8_pay 4 (some .int) :: ed_ws
theorem hd_X8_pay : yX8_pay.cls = RX8 ∧ yX8_pay.cls ≠ "java/lang/invoke/MethodHandle" ∧ yX8_pay.cls ≠ "java/lang/invoke/VarHandle" ∧ (parseMethodDescriptor yX8_pay.desc).map (fun d => d.parameters.length) = some 2 := by decide +kernel
def wsX8_readStory : List Cond := Cond.code yX8_readStory cX8_readStory 4 (some .int) :: ed_ws
theorem hd_X8_readStory : yX8_readStory.cls = RX8 ∧ yX8_readStory.cls ≠ "java/lang/invoke/MethodHandle" ∧ yX8_readStory.cls ≠ "java/lang/invoke/VarHandle" ∧ (parseMethodDescriptor yX8_readStory.desc).map (fun d => d.parameters.length) = some 0 := by decide +kernel
def wsX8_release : List Cond := Cond.code yX8_release cX8_release 3 (some .int) :: ed_ws
theorem hd_X8_release : yX8_release.cls = RX8 ∧ yX8_release.cls ≠ "java/lang/invoke/MethodHandle" ∧ yX8_release.cls ≠ "java/lang/invoke/VarHandle" ∧ (parseMethodDescriptor yX8_release.desc).map (fun d => d.parameters.length) = some 1 := by decide +kernel
def wsX8_hold : List Cond := Cond.code yX8_hold cX8_hold 3 (some .int) :: ed_ws
theorem hd_X8_hold : yX8_hold.cls = RX8 ∧ yX8_hold.cls ≠ "java/lang/invoke/MethodHandle" ∧ yX8_hold.cls ≠ "java/lang/invoke/VarHandle" ∧ (parseMethodDescriptor yX8_hold.desc).map (fun d => d.parameters.length) = some 1 := by decide +kernel
def wsX8_correct : List Cond := Cond.code yX8_correct cX8_correct 3 (some .int) :: ed_ws
theorem hd_X8_correct : yX8_correct.cls = RX8 ∧ yX8_correct.cls ≠ "java/lang/invoke/MethodHandle" ∧ yX8_correct.cls ≠ "java/lang/invoke/VarHandle" ∧ (parseMethodDescriptor yX8_correct.desc).map (fun d => d.parameters.length) = some 1 := by decide +kernel
def wsX8_kill : List Cond := Cond.code yX8_kill cX8_kill 3 (some .int) :: ed_ws
theorem hd_X8_kill : yX8_kill.cls = RX8 ∧ yX8_kill.cls ≠ "java/lang/invoke/MethodHandle" ∧ yX8_kill.cls ≠ "java/lang/invoke/VarHandle" ∧ (parseMethodDescriptor yX8_kill.desc).map (fun d => d.parameters.length) = some 1 := by decide +kernel
def wsX8_pass : List Cond := Cond.code yX8_pass cX8_pass 4 (some .int) :: ed_ws
theorem hd_X8_pass : yX8_pass.cls = RX8 ∧ yX8_pass.cls ≠ "java/lang/invoke/MethodHandle" ∧ yX8_pass.cls ≠ "java/lang/invoke/VarHandle" ∧ (parseMethodDescriptor yX8_pass.desc).map (fun d => d.parameters.length) = some 1 := by decide +kernel
def wsX8_type : List Cond := Cond.code yX8_type cX8_type 2 (some .int) :: ed_ws
theorem hd_X8_type : yX8_type.cls = RX8 ∧ yX8_type.cls ≠ "java/lang/invoke/MethodHandle" ∧ yX8_type.cls ≠ "java/lang/invoke/VarHandle" ∧ (parseMethodDescriptor yX8_type.desc).map (fun d => d.parameters.length) = some 1 := by decide +kernel
def wsX8_clearText : List Cond := Cond.code yX8_clearText cX8_clearText 2 (some .int) :: ed_ws
theorem hd_X8_clearText : yX8_clearText.cls = RX8 ∧ yX8_clearText.cls ≠ "java/lang/invoke/MethodHandle" ∧ yX8_clearText.cls ≠ "java/lang/invoke/VarHandle" ∧ (parseMethodDescriptor yX8_clearText.desc).map (fun d => d.parameters.length) = some 0 := by decide +kernel
def wsX8_undo : List Cond := Cond.code yX8_undo cX8_undo 1 (some .int) :: ed_ws
theorem hd_X8_undo : yX8_undo.cls = RX8 ∧ yX8_undo.cls ≠ "java/lang/invoke/MethodHandle" ∧ yX8_undo.cls ≠ "java/lang/invoke/VarHandle" ∧ (parseMethodDescriptor yX8_undo.desc).map (fun d => d.parameters.length) = some 0 := by decide +kernel
def wsX8_keep : List Cond := Cond.code yX8_keep cX8_keep 1 (some .int) :: ed_ws
theorem hd_X8_keep : yX8_keep.cls = RX8 ∧ yX8_keep.cls ≠ "java/lang/invoke/MethodHandle" ∧ yX8_keep.cls ≠ "java/lang/invoke/VarHandle" ∧ (parseMethodDescriptor yX8_keep.desc).map (fun d => d.parameters.length) = some 0 := by decide +kernel
def wsX8_restore : List Cond := Cond.code yX8_restore cX8_restore 1 (some .int) :: ed_ws
theorem hd_X8_restore : yX8_restore.cls = RX8 ∧ yX8_restore.cls ≠ "java/lang/invoke/MethodHandle" ∧ yX8_restore.cls ≠ "java/lang/invoke/VarHandle" ∧ (parseMethodDescriptor yX8_restore.desc).map (fun d => d.parameters.length) = some 0 := by decide +kernel
def wsX8_story : List Cond := Cond.code yX8_story cX8_story 4 (some .int) :: ed_ws
theorem hd_X8_story : yX8_story.cls = RX8 ∧ yX8_story.cls ≠ "java/lang/invoke/MethodHandle" ∧ yX8_story.cls ≠ "java/lang/invoke/VarHandle" ∧ (parseMethodDescriptor yX8_story.desc).map (fun d => d.parameters.length) = some 2 := by decide +kernel
def wsX8_byline : List Cond := Cond.code yX8_byline cX8_byline 4 (some .int) :: ed_ws
theorem hd_X8_byline : yX8_byline.cls = RX8 ∧ yX8_byline.cls ≠ "java/lang/invoke/MethodHandle" ∧ yX8_byline.cls ≠ "java/lang/invoke/VarHandle" ∧ (parseMethodDescriptor yX8_byline.desc).map (fun d => d.parameters.length) = some 2 := by decide +kernel
def wsX8_correction : List Cond := Cond.code yX8_correction cX8_correction 4 (some .int) :: ed_ws
theorem hd_X8_correction : yX8_correction.cls = RX8 ∧ yX8_correction.cls ≠ "java/lang/invoke/MethodHandle" ∧ yX8_correction.cls ≠ "java/lang/invoke/VarHandle" ∧ (parseMethodDescriptor yX8_correction.desc).map (fun d => d.parameters.length) = some 2 := by decide +kernel
def wsX8_client : List Cond := Cond.code yX8_client cX8_client 4 (some .int) :: ed_ws
theorem hd_X8_client : yX8_client.cls = RX8 ∧ yX8_client.cls ≠ "java/lang/invoke/MethodHandle" ∧ yX8_client.cls ≠ "java/lang/invoke/VarHandle" ∧ (parseMethodDescriptor yX8_client.desc).map (fun d => d.parameters.length) = some 2 := by decide +kernel
def wsX8_person : List Cond := Cond.code yX8_person cX8_person 4 (some .int) :: ed_ws
theorem hd_X8_person : yX8_person.cls = RX8 ∧ yX8_person.cls ≠ "java/lang/invoke/MethodHandle" ∧ yX8_person.cls ≠ "java/lang/invoke/VarHandle" ∧ (parseMethodDescriptor yX8_person.desc).map (fun d => d.parameters.length) = some 2 := by decide +kernel
def wsX8_copy : List Cond := Cond.code yX8_copy cX8_copy 5 (some .int) :: ed_ws
theorem hd_X8_copy : yX8_copy.cls = RX8 ∧ yX8_copy.cls ≠ "java/lang/invoke/MethodHandle" ∧ yX8_copy.cls ≠ "java/lang/invoke/VarHandle" ∧ (parseMethodDescriptor yX8_copy.desc).map (fun d => d.parameters.length) = some 3 := by decide +kernel
def wsX8_copyAt : List Cond := Cond.code yX8_copyAt cX8_copyAt 3 (some .int) :: ed_ws
theorem hd_X8_copyAt : yX8_copyAt.cls = RX8 ∧ yX8_copyAt.cls ≠ "java/lang/invoke/MethodHandle" ∧ yX8_copyAt.cls ≠ "java/lang/invoke/VarHandle" ∧ (parseMethodDescriptor yX8_copyAt.desc).map (fun d => d.parameters.length) = some 1 := by decide +kernel
def wsX8_carriedIn : List Cond := Cond.code yX8_carriedIn cX8_carriedIn 6 (some .int) :: ed_ws
theorem hd_X8_carriedIn : yX8_carriedIn.cls = RX8 ∧ yX8_carriedIn.cls ≠ "java/lang/invoke/MethodHandle" ∧ yX8_carriedIn.cls ≠ "java/lang/invoke/VarHandle" ∧ (parseMethodDescriptor yX8_carriedIn.desc).map (fun d => d.parameters.length) = some 2 := by decide +kernel
def wsX8_wouldCome : List Cond := Cond.code yX8_wouldCome cX8_wouldCome 6 (some .int) :: ed_ws
theorem hd_X8_wouldCome : yX8_wouldCome.cls = RX8 ∧ yX8_wouldCome.cls ≠ "java/lang/invoke/MethodHandle" ∧ yX8_wouldCome.cls ≠ "java/lang/invoke/VarHandle" ∧ (parseMethodDescriptor yX8_wouldCome.desc).map (fun d => d.parameters.length) = some 2 := by decide +kernel
def wsX8_count : List Cond := Cond.code yX8_count cX8_count 2 (some .int) :: ed_ws
theorem hd_X8_count : yX8_count.cls = RX8 ∧ yX8_count.cls ≠ "java/lang/invoke/MethodHandle" ∧ yX8_count.cls ≠ "java/lang/invoke/VarHandle" ∧ (parseMethodDescriptor yX8_count.desc).map (fun d => d.parameters.length) = some 1 := by decide +kernel
def wsX8_isBetween : List Cond := Cond.code yX8_isBetween cX8_isBetween 3 (some .boolean) :: ed_ws
theorem hn_X8_isBetween : yX8_isBetween.cls ≠ "java/lang/invoke/MethodHandle" ∧ yX8_isBetween.cls ≠ "java/lang/invoke/VarHandle" ∧ (parseMethodDescriptor yX8_isBetween.desc).map (fun d => d.parameters.length) = some 3 := by decide +kernel
theorem hd_X8_isBetween : yX8_isBetween.cls = RX8 ∧ yX8_isBetween.cls ≠ "java/lang/invoke/MethodHandle" ∧ yX8_isBetween.cls ≠ "java/lang/invoke/VarHandle" ∧ (parseMethodDescriptor yX8_isBetween.desc).map (fun d => d.parameters.length) = some 3 := by decide +kernel
def wsX8_isPlace : List Cond := Cond.code yX8_isPlace cX8_isPlace 2 (some .boolean) :: ed_ws
theorem hn_X8_isPlace : yX8_isPlace.cls ≠ "java/lang/invoke/MethodHandle" ∧ yX8_isPlace.cls ≠ "java/lang/invoke/VarHandle" ∧ (parseMethodDescriptor yX8_isPlace.desc).map (fun d => d.parameters.length) = some 2 := by decide +kernel
theorem hd_X8_isPlace : yX8_isPlace.cls = RX8 ∧ yX8_isPlace.cls ≠ "java/lang/invoke/MethodHandle" ∧ yX8_isPlace.cls ≠ "java/lang/invoke/VarHandle" ∧ (parseMethodDescriptor yX8_isPlace.desc).map (fun d => d.parameters.length) = some 2 := by decide +kernel
def wsX8_copyRow : List Cond := Cond.code yX8_copyRow cX8_copyRow 2 none :: ed_ws
theorem hn_X8_copyRow : yX8_copyRow.cls ≠ "java/lang/invoke/MethodHandle" ∧ yX8_copyRow.cls ≠ "java/lang/invoke/VarHandle" ∧ (parseMethodDescriptor yX8_copyRow.desc).map (fun d => d.parameters.length) = some 2 := by decide +kernel
theorem hd_X8_copyRow : yX8_copyRow.cls = RX8 ∧ yX8_copyRow.cls ≠ "java/lang/invoke/MethodHandle" ∧ yX8_copyRow.cls ≠ "java/lang/invoke/VarHandle" ∧ (parseMethodDescriptor yX8_copyRow.desc).map (fun d => d.parameters.length) = some 2 := by decide +kernel
def wsL_cell : List Cond := Cond.code yL_cell cL_cell 2 (some .int) :: ed_ws
theorem hd_L_cell : yL_cell.cls = RL ∧ yL_cell.cls ≠ "java/lang/invoke/MethodHandle" ∧ yL_cell.cls ≠ "java/lang/invoke/VarHandle" ∧ (parseMethodDescriptor yL_cell.desc).map (fun d => d.parameters.length) = some 2 := by decide +kernel
def wsL_copies : List Cond := Cond.code yL_copies cL_copies 13 (some .boolean) :: ed_ws
theorem hd_L_copies : yL_copies.cls = RL ∧ yL_copies.cls ≠ "java/lang/invoke/MethodHandle" ∧ yL_copies.cls ≠ "java/lang/invoke/VarHandle" ∧ (parseMethodDescriptor yL_copies.desc).map (fun d => d.parameters.length) = some 1 := by decide +kernel
def wsL_money : List Cond := Cond.code yL_money cL_money 7 (some .boolean) :: ed_ws
theorem hd_L_money : yL_money.cls = RL ∧ yL_money.cls ≠ "java/lang/invoke/MethodHandle" ∧ yL_money.cls ≠ "java/lang/invoke/VarHandle" ∧ (parseMethodDescriptor yL_money.desc).map (fun d => d.parameters.length) = some 2 := by decide +kernel
def wsL_reads : List Cond := Cond.code yL_reads cL_reads 6 (some .boolean) :: ed_ws
theorem hd_L_reads : yL_reads.cls = RL ∧ yL_reads.cls ≠ "java/lang/invoke/MethodHandle" ∧ yL_reads.cls ≠ "java/lang/invoke/VarHandle" ∧ (parseMethodDescriptor yL_reads.desc).map (fun d => d.parameters.length) = some 2 := by decide +kernel
def wsL_passes : List Cond := Cond.code yL_passes cL_passes 13 (some .boolean) :: ed_ws
theorem hd_L_passes : yL_passes.cls = RL ∧ yL_passes.cls ≠ "java/lang/invoke/MethodHandle" ∧ yL_passes.cls ≠ "java/lang/invoke/VarHandle" ∧ (parseMethodDescriptor yL_passes.desc).map (fun d => d.parameters.length) = some 2 := by decide +kernel
def wsL_acts : List Cond := Cond.code yL_acts cL_acts 9 (some .boolean) :: ed_ws
theorem hd_L_acts : yL_acts.cls = RL ∧ yL_acts.cls ≠ "java/lang/invoke/MethodHandle" ∧ yL_acts.cls ≠ "java/lang/invoke/VarHandle" ∧ (parseMethodDescriptor yL_acts.desc).map (fun d => d.parameters.length) = some 2 := by decide +kernel
def wsL_law : List Cond := Cond.code yL_law cL_law 10 ret :: ed_ws
theorem hd_L_law : yL_law.cls = RL ∧ yL_law.cls ≠ "java/lang/invoke/MethodHandle" ∧ yL_law.cls ≠ "java/lang/invoke/VarHandle" ∧ (parseMethodDescriptor yL_law.desc).map (fun d => d.parameters.length) = some 1 := by decide +kernel
