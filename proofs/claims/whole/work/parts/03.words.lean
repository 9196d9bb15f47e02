theorem ini_La : Cond.initialized "FileBoxesLaw" ∈ ALL := tb1 0 (by decide +kernel) rfl
theorem ini_FB : Cond.initialized "FileBoxes" ∈ ALL := tb1 1 (by decide +kernel) rfl
theorem ini_By : Cond.initialized "FileBoxes$Bytes" ∈ ALL := tb1 2 (by decide +kernel) rfl
theorem ini_Sc : Cond.initialized "FileBoxes$Scan" ∈ ALL := tb1 3 (by decide +kernel) rfl
theorem ini_Pl : Cond.initialized "FileBoxes$Plan" ∈ ALL := tb1 4 (by decide +kernel) rfl
theorem ini_Pa : Cond.initialized "FileBoxes$Palette" ∈ ALL := tb1 5 (by decide +kernel) rfl
theorem ini_Li : Cond.initialized "FileBoxes$Lines" ∈ ALL := tb1 6 (by decide +kernel) rfl
theorem ini_Wr : Cond.initialized "FileBoxes$Writer" ∈ ALL := tb1 7 (by decide +kernel) rfl
theorem ini_Mo : Cond.initialized "FileBoxesModel" ∈ ALL := tb1 8 (by decide +kernel) rfl
theorem ini_Ar : Cond.initialized "java/util/Arrays" ∈ ALL := tb1 9 (by decide +kernel) rfl
theorem ini_Math : Cond.initialized "java/lang/Math" ∈ ALL := tb1 10 (by decide +kernel) rfl
theorem ini_Throwable : Cond.initialized "java/lang/Throwable" ∈ ALL := tb1 11 (by decide +kernel) rfl
theorem ini_Exception : Cond.initialized "java/lang/Exception" ∈ ALL := tb1 12 (by decide +kernel) rfl
theorem ini_RuntimeException : Cond.initialized "java/lang/RuntimeException" ∈ ALL := tb1 13 (by decide +kernel) rfl
theorem ini_IllegalArgumentException : Cond.initialized "java/lang/IllegalArgumentException" ∈ ALL := tb1 14 (by decide +kernel) rfl
theorem ini_NoSuchElementException : Cond.initialized "java/util/NoSuchElementException" ∈ ALL := tb1 15 (by decide +kernel) rfl
theorem ini_IllegalStateException : Cond.initialized "java/lang/IllegalStateException" ∈ ALL := tb1 16 (by decide +kernel) rfl
theorem ini_UnsupportedOperationException : Cond.initialized "java/lang/UnsupportedOperationException" ∈ ALL := tb1 17 (by decide +kernel) rfl
theorem ini_System : Cond.initialized "java/lang/System" ∈ ALL := tb1 18 (by decide +kernel) rfl
theorem lk_La_8 : Cond.classLink "FileBoxesLaw" 8 "FileBoxes" ∈ ALL := tb1 19 (by decide +kernel) rfl
theorem ins_FB : Cond.instantiable "FileBoxes" 6 ∈ ALL := tb1 20 (by decide +kernel) rfl
theorem lk_La_81 : Cond.methodLink "FileBoxesLaw" 81 y_FB_init ∈ ALL := tb1 21 (by decide +kernel) rfl
theorem inst_FB_init : Cond.instanceMethod y_FB_init ∈ ALL := tb1 22 (by decide +kernel) rfl
theorem code_FB_init : Cond.code y_FB_init b_FB_init 1 none ∈ ALL := tb1 23 rfl rfl
theorem lk_FB_1 : Cond.methodLink "FileBoxes" 1 ⟨"java/lang/Object", "<init>", "()V"⟩ ∈ ALL := tb1 24 (by decide +kernel) rfl
theorem inst_Object_init : Cond.instanceMethod objectInit ∈ ALL := tb1 25 (by decide +kernel) rfl
theorem code_Object_init : Cond.code objectInit ⟨#[0xb1]⟩ 1 none ∈ ALL := tb1 26 rfl rfl
theorem lk_FB_7 : Cond.classLink "FileBoxes" 7 "FileBoxes$Bytes" ∈ ALL := tb1 27 (by decide +kernel) rfl
theorem ins_By : Cond.instantiable "FileBoxes$Bytes" 3 ∈ ALL := tb1 28 (by decide +kernel) rfl
theorem lk_FB_11 : Cond.constant "FileBoxes" 11 65536 ∈ ALL := tb1 29 (by decide +kernel) rfl
theorem lk_FB_12 : Cond.methodLink "FileBoxes" 12 y_By_init ∈ ALL := tb1 30 (by decide +kernel) rfl
theorem inst_By_init : Cond.instanceMethod y_By_init ∈ ALL := tb1 31 (by decide +kernel) rfl
theorem code_By_init : Cond.code y_By_init b_By_init 2 none ∈ ALL := tb1 32 rfl rfl
theorem lk_By_1 : Cond.methodLink "FileBoxes$Bytes" 1 ⟨"java/lang/Object", "<init>", "()V"⟩ ∈ ALL := tb1 33 (by decide +kernel) rfl
theorem lk_By_7 : Cond.fieldLink "FileBoxes$Bytes" 7 "FileBoxes$Bytes" "most" "I" ∈ ALL := tb1 34 (by decide +kernel) rfl
theorem lk_By_13 : Cond.fieldLink "FileBoxes$Bytes" 13 "FileBoxes$Bytes" "row" "[B" ∈ ALL := tb1 35 (by decide +kernel) rfl
theorem lk_By_17 : Cond.fieldLink "FileBoxes$Bytes" 17 "FileBoxes$Bytes" "count" "I" ∈ ALL := tb1 36 (by decide +kernel) rfl
theorem lk_Pl_70 : Cond.fieldLink "FileBoxes$Plan" 70 "FileBoxes$Bytes" "count" "I" ∈ ALL := tb1 37 (by decide +kernel) rfl
theorem lk_Sc_54 : Cond.fieldLink "FileBoxes$Scan" 54 "FileBoxes$Bytes" "count" "I" ∈ ALL := tb1 38 (by decide +kernel) rfl
theorem lk_Wr_54 : Cond.fieldLink "FileBoxes$Writer" 54 "FileBoxes$Bytes" "count" "I" ∈ ALL := tb1 39 (by decide +kernel) rfl
theorem lk_FB_126 : Cond.fieldLink "FileBoxes" 126 "FileBoxes$Bytes" "count" "I" ∈ ALL := tb1 40 (by decide +kernel) rfl
theorem ac_byte : Cond.arrayClass .byte ∈ ALL := tb1 48 (by decide +kernel) rfl
theorem lk_FB_19 : Cond.classLink "FileBoxes" 19 "FileBoxes$Scan" ∈ ALL := tb1 49 (by decide +kernel) rfl
theorem ins_Sc : Cond.instantiable "FileBoxes$Scan" 16 ∈ ALL := tb1 50 (by decide +kernel) rfl
theorem lk_FB_21 : Cond.methodLink "FileBoxes" 21 y_Sc_init ∈ ALL := tb1 51 (by decide +kernel) rfl
theorem inst_Sc_init : Cond.instanceMethod y_Sc_init ∈ ALL := tb1 52 (by decide +kernel) rfl
theorem code_Sc_init : Cond.code y_Sc_init b_Sc_init 2 none ∈ ALL := tb1 53 rfl rfl
theorem lk_Sc_3 : Cond.methodLink "FileBoxes$Scan" 3 ⟨"java/lang/Object", "<init>", "()V"⟩ ∈ ALL := tb1 54 (by decide +kernel) rfl
theorem lk_Sc_15 : Cond.classLink "FileBoxes$Scan" 15 "FileBoxes$Plan" ∈ ALL := tb1 55 (by decide +kernel) rfl
theorem ins_Pl : Cond.instantiable "FileBoxes$Plan" 14 ∈ ALL := tb1 56 (by decide +kernel) rfl
theorem lk_Sc_17 : Cond.methodLink "FileBoxes$Scan" 17 y_Pl_init ∈ ALL := tb1 57 (by decide +kernel) rfl
theorem inst_Pl_init : Cond.instanceMethod y_Pl_init ∈ ALL := tb1 58 (by decide +kernel) rfl
theorem code_Pl_init : Cond.code y_Pl_init b_Pl_init 1 none ∈ ALL := tb1 59 rfl rfl
theorem lk_Pl_3 : Cond.methodLink "FileBoxes$Plan" 3 ⟨"java/lang/Object", "<init>", "()V"⟩ ∈ ALL := tb1 60 (by decide +kernel) rfl
theorem lk_Pl_15 : Cond.classLink "FileBoxes$Plan" 15 "FileBoxes$Bytes" ∈ ALL := tb1 61 (by decide +kernel) rfl
theorem lk_Pl_17 : Cond.methodLink "FileBoxes$Plan" 17 y_By_init ∈ ALL := tb1 62 (by decide +kernel) rfl
theorem lk_Pl_24 : Cond.classLink "FileBoxes$Plan" 24 "FileBoxes$Palette" ∈ ALL := tb1 63 (by decide +kernel) rfl
theorem ins_Pa : Cond.instantiable "FileBoxes$Palette" 4 ∈ ALL := tb1 64 (by decide +kernel) rfl
theorem lk_Pl_26 : Cond.methodLink "FileBoxes$Plan" 26 y_Pa_init ∈ ALL := tb1 65 (by decide +kernel) rfl
theorem inst_Pa_init : Cond.instanceMethod y_Pa_init ∈ ALL := tb1 66 (by decide +kernel) rfl
theorem code_Pa_init : Cond.code y_Pa_init b_Pa_init 1 none ∈ ALL := tb1 67 rfl rfl
theorem lk_Pa_3 : Cond.methodLink "FileBoxes$Palette" 3 ⟨"java/lang/Object", "<init>", "()V"⟩ ∈ ALL := tb1 68 (by decide +kernel) rfl
theorem lk_Pa_9 : Cond.fieldLink "FileBoxes$Palette" 9 "FileBoxes$Palette" "entries" "I" ∈ ALL := tb1 69 (by decide +kernel) rfl
theorem lk_Wr_63 : Cond.fieldLink "FileBoxes$Writer" 63 "FileBoxes$Palette" "entries" "I" ∈ ALL := tb1 70 (by decide +kernel) rfl
theorem lk_Pl_94 : Cond.fieldLink "FileBoxes$Plan" 94 "FileBoxes$Palette" "entries" "I" ∈ ALL := tb1 71 (by decide +kernel) rfl
theorem lk_FB_189 : Cond.fieldLink "FileBoxes" 189 "FileBoxes$Palette" "entries" "I" ∈ ALL := tb1 72 (by decide +kernel) rfl
theorem lk_Sc_249 : Cond.fieldLink "FileBoxes$Scan" 249 "FileBoxes$Palette" "entries" "I" ∈ ALL := tb1 73 (by decide +kernel) rfl
theorem lk_Pa_15 : Cond.fieldLink "FileBoxes$Palette" 15 "FileBoxes$Palette" "columns" "I" ∈ ALL := tb1 74 (by decide +kernel) rfl
theorem lk_Pl_86 : Cond.fieldLink "FileBoxes$Plan" 86 "FileBoxes$Palette" "columns" "I" ∈ ALL := tb1 75 (by decide +kernel) rfl
theorem lk_Wr_68 : Cond.fieldLink "FileBoxes$Writer" 68 "FileBoxes$Palette" "columns" "I" ∈ ALL := tb1 76 (by decide +kernel) rfl
theorem lk_FB_163 : Cond.fieldLink "FileBoxes" 163 "FileBoxes$Palette" "columns" "I" ∈ ALL := tb1 77 (by decide +kernel) rfl
theorem lk_Sc_246 : Cond.fieldLink "FileBoxes$Scan" 246 "FileBoxes$Palette" "columns" "I" ∈ ALL := tb1 78 (by decide +kernel) rfl
theorem lk_Pa_18 : Cond.fieldLink "FileBoxes$Palette" 18 "FileBoxes$Palette" "bits" "[I" ∈ ALL := tb1 79 (by decide +kernel) rfl
theorem lk_FB_168 : Cond.fieldLink "FileBoxes" 168 "FileBoxes$Palette" "bits" "[I" ∈ ALL := tb1 80 (by decide +kernel) rfl
theorem lk_Wr_171 : Cond.fieldLink "FileBoxes$Writer" 171 "FileBoxes$Palette" "bits" "[I" ∈ ALL := tb1 81 (by decide +kernel) rfl
theorem lk_Sc_239 : Cond.fieldLink "FileBoxes$Scan" 239 "FileBoxes$Palette" "bits" "[I" ∈ ALL := tb1 82 (by decide +kernel) rfl
theorem lk_Pa_22 : Cond.fieldLink "FileBoxes$Palette" 22 "FileBoxes$Palette" "numbers" "[J" ∈ ALL := tb1 83 (by decide +kernel) rfl
theorem ac_int : Cond.arrayClass .int ∈ ALL := tb1 93 (by decide +kernel) rfl
theorem ac_long : Cond.arrayClass .long ∈ ALL := tb1 94 (by decide +kernel) rfl
theorem lk_Pl_31 : Cond.classLink "FileBoxes$Plan" 31 "FileBoxes$Lines" ∈ ALL := tb1 95 (by decide +kernel) rfl
theorem ins_Li : Cond.instantiable "FileBoxes$Lines" 2 ∈ ALL := tb1 96 (by decide +kernel) rfl
theorem lk_Pl_33 : Cond.methodLink "FileBoxes$Plan" 33 y_Li_init ∈ ALL := tb1 97 (by decide +kernel) rfl
theorem inst_Li_init : Cond.instanceMethod y_Li_init ∈ ALL := tb1 98 (by decide +kernel) rfl
theorem code_Li_init : Cond.code y_Li_init b_Li_init 1 none ∈ ALL := tb1 99 rfl rfl
theorem lk_Li_3 : Cond.methodLink "FileBoxes$Lines" 3 ⟨"java/lang/Object", "<init>", "()V"⟩ ∈ ALL := tb1 100 (by decide +kernel) rfl
theorem lk_Li_9 : Cond.fieldLink "FileBoxes$Lines" 9 "FileBoxes$Lines" "parts" "[I" ∈ ALL := tb1 101 (by decide +kernel) rfl
theorem lk_Li_15 : Cond.fieldLink "FileBoxes$Lines" 15 "FileBoxes$Lines" "count" "I" ∈ ALL := tb1 102 (by decide +kernel) rfl
theorem lk_Pl_89 : Cond.fieldLink "FileBoxes$Plan" 89 "FileBoxes$Lines" "count" "I" ∈ ALL := tb1 103 (by decide +kernel) rfl
theorem lk_Wr_79 : Cond.fieldLink "FileBoxes$Writer" 79 "FileBoxes$Lines" "count" "I" ∈ ALL := tb1 104 (by decide +kernel) rfl
theorem lk_FB_192 : Cond.fieldLink "FileBoxes" 192 "FileBoxes$Lines" "count" "I" ∈ ALL := tb1 105 (by decide +kernel) rfl
theorem lk_Pl_47 : Cond.fieldLink "FileBoxes$Plan" 47 "FileBoxes$Plan" "high" "I" ∈ ALL := tb1 111 (by decide +kernel) rfl
theorem lk_FB_68 : Cond.fieldLink "FileBoxes" 68 "FileBoxes$Plan" "high" "I" ∈ ALL := tb1 112 (by decide +kernel) rfl
theorem lk_Wr_142 : Cond.fieldLink "FileBoxes$Writer" 142 "FileBoxes$Plan" "high" "I" ∈ ALL := tb1 113 (by decide +kernel) rfl
theorem lk_Sc_170 : Cond.fieldLink "FileBoxes$Scan" 170 "FileBoxes$Plan" "high" "I" ∈ ALL := tb1 114 (by decide +kernel) rfl
theorem lk_Pl_51 : Cond.fieldLink "FileBoxes$Plan" 51 "FileBoxes$Plan" "wide" "I" ∈ ALL := tb1 115 (by decide +kernel) rfl
theorem lk_FB_71 : Cond.fieldLink "FileBoxes" 71 "FileBoxes$Plan" "wide" "I" ∈ ALL := tb1 116 (by decide +kernel) rfl
theorem lk_Wr_145 : Cond.fieldLink "FileBoxes$Writer" 145 "FileBoxes$Plan" "wide" "I" ∈ ALL := tb1 117 (by decide +kernel) rfl
theorem lk_Sc_173 : Cond.fieldLink "FileBoxes$Scan" 173 "FileBoxes$Plan" "wide" "I" ∈ ALL := tb1 118 (by decide +kernel) rfl
theorem lk_Pl_54 : Cond.fieldLink "FileBoxes$Plan" 54 "FileBoxes$Plan" "components" "I" ∈ ALL := tb1 119 (by decide +kernel) rfl
theorem lk_FB_74 : Cond.fieldLink "FileBoxes" 74 "FileBoxes$Plan" "components" "I" ∈ ALL := tb1 120 (by decide +kernel) rfl
theorem lk_Wr_43 : Cond.fieldLink "FileBoxes$Writer" 43 "FileBoxes$Plan" "components" "I" ∈ ALL := tb1 121 (by decide +kernel) rfl
theorem lk_Sc_176 : Cond.fieldLink "FileBoxes$Scan" 176 "FileBoxes$Plan" "components" "I" ∈ ALL := tb1 122 (by decide +kernel) rfl
theorem lk_Pl_57 : Cond.fieldLink "FileBoxes$Plan" 57 "FileBoxes$Plan" "unknown" "Z" ∈ ALL := tb1 123 (by decide +kernel) rfl
theorem lk_FB_77 : Cond.fieldLink "FileBoxes" 77 "FileBoxes$Plan" "unknown" "Z" ∈ ALL := tb1 124 (by decide +kernel) rfl
theorem lk_Wr_155 : Cond.fieldLink "FileBoxes$Writer" 155 "FileBoxes$Plan" "unknown" "Z" ∈ ALL := tb1 125 (by decide +kernel) rfl
theorem lk_Sc_196 : Cond.fieldLink "FileBoxes$Scan" 196 "FileBoxes$Plan" "unknown" "Z" ∈ ALL := tb1 126 (by decide +kernel) rfl
theorem lk_Pl_61 : Cond.fieldLink "FileBoxes$Plan" 61 "FileBoxes$Plan" "rights" "Z" ∈ ALL := tb1 127 (by decide +kernel) rfl
theorem lk_FB_80 : Cond.fieldLink "FileBoxes" 80 "FileBoxes$Plan" "rights" "Z" ∈ ALL := tb1 128 (by decide +kernel) rfl
theorem lk_Wr_158 : Cond.fieldLink "FileBoxes$Writer" 158 "FileBoxes$Plan" "rights" "Z" ∈ ALL := tb1 129 (by decide +kernel) rfl
theorem lk_Sc_200 : Cond.fieldLink "FileBoxes$Scan" 200 "FileBoxes$Plan" "rights" "Z" ∈ ALL := tb1 130 (by decide +kernel) rfl
theorem lk_Pl_9 : Cond.fieldLink "FileBoxes$Plan" 9 "FileBoxes$Plan" "bits" "[I" ∈ ALL := tb1 131 (by decide +kernel) rfl
theorem lk_FB_83 : Cond.fieldLink "FileBoxes" 83 "FileBoxes$Plan" "bits" "[I" ∈ ALL := tb1 132 (by decide +kernel) rfl
theorem lk_Wr_148 : Cond.fieldLink "FileBoxes$Writer" 148 "FileBoxes$Plan" "bits" "[I" ∈ ALL := tb1 133 (by decide +kernel) rfl
theorem lk_Sc_186 : Cond.fieldLink "FileBoxes$Scan" 186 "FileBoxes$Plan" "bits" "[I" ∈ ALL := tb1 134 (by decide +kernel) rfl
theorem lk_Pl_64 : Cond.fieldLink "FileBoxes$Plan" 64 "FileBoxes$Plan" "colours" "I" ∈ ALL := tb1 135 (by decide +kernel) rfl
theorem lk_FB_242 : Cond.fieldLink "FileBoxes" 242 "FileBoxes$Plan" "colours" "I" ∈ ALL := tb1 136 (by decide +kernel) rfl
theorem lk_Wr_163 : Cond.fieldLink "FileBoxes$Writer" 163 "FileBoxes$Plan" "colours" "I" ∈ ALL := tb1 137 (by decide +kernel) rfl
theorem lk_Pl_67 : Cond.fieldLink "FileBoxes$Plan" 67 "FileBoxes$Plan" "hasProfile" "Z" ∈ ALL := tb1 138 (by decide +kernel) rfl
theorem lk_Wr_47 : Cond.fieldLink "FileBoxes$Writer" 47 "FileBoxes$Plan" "hasProfile" "Z" ∈ ALL := tb1 139 (by decide +kernel) rfl
theorem lk_FB_110 : Cond.fieldLink "FileBoxes" 110 "FileBoxes$Plan" "hasProfile" "Z" ∈ ALL := tb1 140 (by decide +kernel) rfl
theorem lk_Pl_20 : Cond.fieldLink "FileBoxes$Plan" 20 "FileBoxes$Plan" "profile" "LFileBoxes$Bytes;" ∈ ALL := tb1 141 (by decide +kernel) rfl
theorem lk_Wr_51 : Cond.fieldLink "FileBoxes$Writer" 51 "FileBoxes$Plan" "profile" "LFileBoxes$Bytes;" ∈ ALL := tb1 142 (by decide +kernel) rfl
theorem lk_FB_123 : Cond.fieldLink "FileBoxes" 123 "FileBoxes$Plan" "profile" "LFileBoxes$Bytes;" ∈ ALL := tb1 143 (by decide +kernel) rfl
theorem lk_Sc_214 : Cond.fieldLink "FileBoxes$Scan" 214 "FileBoxes$Plan" "profile" "LFileBoxes$Bytes;" ∈ ALL := tb1 144 (by decide +kernel) rfl
theorem lk_Pl_27 : Cond.fieldLink "FileBoxes$Plan" 27 "FileBoxes$Plan" "palette" "LFileBoxes$Palette;" ∈ ALL := tb1 145 (by decide +kernel) rfl
theorem lk_Wr_59 : Cond.fieldLink "FileBoxes$Writer" 59 "FileBoxes$Plan" "palette" "LFileBoxes$Palette;" ∈ ALL := tb1 146 (by decide +kernel) rfl
theorem lk_FB_146 : Cond.fieldLink "FileBoxes" 146 "FileBoxes$Plan" "palette" "LFileBoxes$Palette;" ∈ ALL := tb1 147 (by decide +kernel) rfl
theorem lk_Sc_229 : Cond.fieldLink "FileBoxes$Scan" 229 "FileBoxes$Plan" "palette" "LFileBoxes$Palette;" ∈ ALL := tb1 148 (by decide +kernel) rfl
theorem lk_Pl_34 : Cond.fieldLink "FileBoxes$Plan" 34 "FileBoxes$Plan" "map" "LFileBoxes$Lines;" ∈ ALL := tb1 149 (by decide +kernel) rfl
theorem lk_Wr_75 : Cond.fieldLink "FileBoxes$Writer" 75 "FileBoxes$Plan" "map" "LFileBoxes$Lines;" ∈ ALL := tb1 150 (by decide +kernel) rfl
theorem lk_FB_156 : Cond.fieldLink "FileBoxes" 156 "FileBoxes$Plan" "map" "LFileBoxes$Lines;" ∈ ALL := tb1 151 (by decide +kernel) rfl
theorem lk_Sc_268 : Cond.fieldLink "FileBoxes$Scan" 268 "FileBoxes$Plan" "map" "LFileBoxes$Lines;" ∈ ALL := tb1 152 (by decide +kernel) rfl
theorem lk_Pl_38 : Cond.fieldLink "FileBoxes$Plan" 38 "FileBoxes$Plan" "meanings" "LFileBoxes$Lines;" ∈ ALL := tb1 153 (by decide +kernel) rfl
theorem lk_Wr_82 : Cond.fieldLink "FileBoxes$Writer" 82 "FileBoxes$Plan" "meanings" "LFileBoxes$Lines;" ∈ ALL := tb1 154 (by decide +kernel) rfl
theorem lk_Sc_114 : Cond.fieldLink "FileBoxes$Scan" 114 "FileBoxes$Plan" "meanings" "LFileBoxes$Lines;" ∈ ALL := tb1 155 (by decide +kernel) rfl
theorem lk_FB_214 : Cond.fieldLink "FileBoxes" 214 "FileBoxes$Plan" "meanings" "LFileBoxes$Lines;" ∈ ALL := tb1 156 (by decide +kernel) rfl
theorem lk_Pl_41 : Cond.fieldLink "FileBoxes$Plan" 41 "FileBoxes$Plan" "capture" "[I" ∈ ALL := tb1 157 (by decide +kernel) rfl
theorem lk_Wr_85 : Cond.fieldLink "FileBoxes$Writer" 85 "FileBoxes$Plan" "capture" "[I" ∈ ALL := tb1 158 (by decide +kernel) rfl
theorem lk_FB_235 : Cond.fieldLink "FileBoxes" 235 "FileBoxes$Plan" "capture" "[I" ∈ ALL := tb1 159 (by decide +kernel) rfl
theorem lk_Sc_277 : Cond.fieldLink "FileBoxes$Scan" 277 "FileBoxes$Plan" "capture" "[I" ∈ ALL := tb1 160 (by decide +kernel) rfl
theorem lk_Pl_44 : Cond.fieldLink "FileBoxes$Plan" 44 "FileBoxes$Plan" "display" "[I" ∈ ALL := tb1 161 (by decide +kernel) rfl
theorem lk_Wr_93 : Cond.fieldLink "FileBoxes$Writer" 93 "FileBoxes$Plan" "display" "[I" ∈ ALL := tb1 162 (by decide +kernel) rfl
theorem lk_FB_232 : Cond.fieldLink "FileBoxes" 232 "FileBoxes$Plan" "display" "[I" ∈ ALL := tb1 163 (by decide +kernel) rfl
theorem lk_Sc_284 : Cond.fieldLink "FileBoxes$Scan" 284 "FileBoxes$Plan" "display" "[I" ∈ ALL := tb1 164 (by decide +kernel) rfl
theorem lk_Sc_9 : Cond.fieldLink "FileBoxes$Scan" 9 "FileBoxes$Scan" "file" "LFileBoxes$Bytes;" ∈ ALL := tb1 194 (by decide +kernel) rfl
theorem lk_Sc_18 : Cond.fieldLink "FileBoxes$Scan" 18 "FileBoxes$Scan" "plan" "LFileBoxes$Plan;" ∈ ALL := tb1 195 (by decide +kernel) rfl
theorem lk_Sc_25 : Cond.fieldLink "FileBoxes$Scan" 25 "FileBoxes$Scan" "level" "I" ∈ ALL := tb1 196 (by decide +kernel) rfl
theorem lk_Sc_29 : Cond.fieldLink "FileBoxes$Scan" 29 "FileBoxes$Scan" "at" "I" ∈ ALL := tb1 197 (by decide +kernel) rfl
theorem lk_Sc_32 : Cond.fieldLink "FileBoxes$Scan" 32 "FileBoxes$Scan" "seen" "I" ∈ ALL := tb1 198 (by decide +kernel) rfl
theorem lk_Sc_35 : Cond.fieldLink "FileBoxes$Scan" 35 "FileBoxes$Scan" "outerBoxes" "I" ∈ ALL := tb1 199 (by decide +kernel) rfl
theorem lk_Sc_97 : Cond.fieldLink "FileBoxes$Scan" 97 "FileBoxes$Scan" "headAt" "I" ∈ ALL := tb1 200 (by decide +kernel) rfl
theorem lk_Sc_59 : Cond.fieldLink "FileBoxes$Scan" 59 "FileBoxes$Scan" "headEnd" "I" ∈ ALL := tb1 201 (by decide +kernel) rfl
theorem lk_Sc_62 : Cond.fieldLink "FileBoxes$Scan" 62 "FileBoxes$Scan" "resolutionEnd" "I" ∈ ALL := tb1 202 (by decide +kernel) rfl
theorem lk_Sc_103 : Cond.fieldLink "FileBoxes$Scan" 103 "FileBoxes$Scan" "toldBits" "I" ∈ ALL := tb1 203 (by decide +kernel) rfl
theorem lk_Sc_91 : Cond.fieldLink "FileBoxes$Scan" 91 "FileBoxes$Scan" "name" "I" ∈ ALL := tb1 204 (by decide +kernel) rfl
theorem lk_Sc_94 : Cond.fieldLink "FileBoxes$Scan" 94 "FileBoxes$Scan" "from" "I" ∈ ALL := tb1 205 (by decide +kernel) rfl
theorem lk_Sc_71 : Cond.fieldLink "FileBoxes$Scan" 71 "FileBoxes$Scan" "end" "I" ∈ ALL := tb1 206 (by decide +kernel) rfl
theorem lk_Sc_65 : Cond.fieldLink "FileBoxes$Scan" 65 "FileBoxes$Scan" "boxAt" "I" ∈ ALL := tb1 207 (by decide +kernel) rfl
theorem lk_FB_300 : Cond.fieldLink "FileBoxes" 300 "FileBoxes$Scan" "boxAt" "I" ∈ ALL := tb1 208 (by decide +kernel) rfl
theorem lk_Sc_38 : Cond.fieldLink "FileBoxes$Scan" 38 "FileBoxes$Scan" "streamFrom" "I" ∈ ALL := tb1 209 (by decide +kernel) rfl
theorem lk_FB_309 : Cond.fieldLink "FileBoxes" 309 "FileBoxes$Scan" "streamFrom" "I" ∈ ALL := tb1 210 (by decide +kernel) rfl
theorem lk_Sc_41 : Cond.fieldLink "FileBoxes$Scan" 41 "FileBoxes$Scan" "streamCount" "I" ∈ ALL := tb1 211 (by decide +kernel) rfl
theorem lk_FB_312 : Cond.fieldLink "FileBoxes" 312 "FileBoxes$Scan" "streamCount" "I" ∈ ALL := tb1 212 (by decide +kernel) rfl
theorem lk_FB_28 : Cond.classLink "FileBoxes" 28 "FileBoxes$Writer" ∈ ALL := tb2 6 (by decide +kernel) rfl
theorem ins_Wr : Cond.instantiable "FileBoxes$Writer" 1 ∈ ALL := tb2 7 (by decide +kernel) rfl
theorem lk_FB_30 : Cond.methodLink "FileBoxes" 30 y_Wr_init ∈ ALL := tb2 8 (by decide +kernel) rfl
theorem inst_Wr_init : Cond.instanceMethod y_Wr_init ∈ ALL := tb2 9 (by decide +kernel) rfl
theorem code_Wr_init : Cond.code y_Wr_init b_Wr_init 2 none ∈ ALL := tb2 10 rfl rfl
theorem lk_Wr_3 : Cond.methodLink "FileBoxes$Writer" 3 ⟨"java/lang/Object", "<init>", "()V"⟩ ∈ ALL := tb2 11 (by decide +kernel) rfl
theorem lk_Wr_9 : Cond.fieldLink "FileBoxes$Writer" 9 "FileBoxes$Writer" "file" "LFileBoxes$Bytes;" ∈ ALL := tb2 12 (by decide +kernel) rfl
theorem lk_FB_35 : Cond.classLink "FileBoxes" 35 "FileBoxes$Plan" ∈ ALL := tb2 16 (by decide +kernel) rfl
theorem lk_FB_37 : Cond.methodLink "FileBoxes" 37 y_Pl_init ∈ ALL := tb2 17 (by decide +kernel) rfl
theorem lk_FB_15 : Cond.fieldLink "FileBoxes" 15 "FileBoxes" "file" "LFileBoxes$Bytes;" ∈ ALL := tb2 18 (by decide +kernel) rfl
theorem lk_FB_24 : Cond.fieldLink "FileBoxes" 24 "FileBoxes" "scanner" "LFileBoxes$Scan;" ∈ ALL := tb2 19 (by decide +kernel) rfl
theorem lk_FB_31 : Cond.fieldLink "FileBoxes" 31 "FileBoxes" "writer" "LFileBoxes$Writer;" ∈ ALL := tb2 20 (by decide +kernel) rfl
theorem lk_FB_38 : Cond.fieldLink "FileBoxes" 38 "FileBoxes" "plan" "LFileBoxes$Plan;" ∈ ALL := tb2 21 (by decide +kernel) rfl
theorem lk_FB_42 : Cond.fieldLink "FileBoxes" 42 "FileBoxes" "scanned" "Z" ∈ ALL := tb2 22 (by decide +kernel) rfl
theorem lk_FB_46 : Cond.fieldLink "FileBoxes" 46 "FileBoxes" "refusedAt" "I" ∈ ALL := tb2 23 (by decide +kernel) rfl
theorem lk_La_85 : Cond.methodLink "FileBoxesLaw" 85 y_FB_plan ∈ ALL := tb2 37 (by decide +kernel) rfl
theorem inst_FB_plan : Cond.instanceMethod y_FB_plan ∈ ALL := tb2 38 (by decide +kernel) rfl
theorem sel_FB_plan : Cond.selects "FileBoxes" y_FB_plan y_FB_plan ∈ ALL := tb2 39 (by decide +kernel) rfl
theorem code_FB_plan : Cond.code y_FB_plan b_FB_plan 1 none ∈ ALL := tb2 40 rfl rfl
theorem lk_FB_50 : Cond.methodLink "FileBoxes" 50 y_Pl_empty ∈ ALL := tb2 41 (by decide +kernel) rfl
theorem inst_Pl_empty : Cond.instanceMethod y_Pl_empty ∈ ALL := tb2 42 (by decide +kernel) rfl
theorem sel_Pl_empty : Cond.selects "FileBoxes$Plan" y_Pl_empty y_Pl_empty ∈ ALL := tb2 43 (by decide +kernel) rfl
theorem code_Pl_empty : Cond.code y_Pl_empty b_Pl_empty 1 none ∈ ALL := tb2 44 rfl rfl
theorem lk_Pl_73 : Cond.methodLink "FileBoxes$Plan" 73 y_Pa_become ∈ ALL := tb2 45 (by decide +kernel) rfl
theorem inst_Pa_become : Cond.instanceMethod y_Pa_become ∈ ALL := tb2 46 (by decide +kernel) rfl
theorem sel_Pa_become : Cond.selects "FileBoxes$Palette" y_Pa_become y_Pa_become ∈ ALL := tb2 47 (by decide +kernel) rfl
theorem code_Pa_become : Cond.code y_Pa_become b_Pa_become 4 none ∈ ALL := tb2 48 rfl rfl
theorem lk_Pa_26 : Cond.methodLink "FileBoxes$Palette" 26 y_Ar_fillI ∈ ALL := tb2 49 (by decide +kernel) rfl
theorem stat_Ar_fillI : Cond.static y_Ar_fillI ∈ ALL := tb2 50 (by decide +kernel) rfl
theorem code_Ar_fillI : Cond.code y_Ar_fillI b_Ar_fillI 4 none ∈ ALL := tb2 51 rfl rfl
theorem lk_Pa_32 : Cond.methodLink "FileBoxes$Palette" 32 ⟨"java/lang/Math", "min", "(II)I"⟩ ∈ ALL := tb2 52 (by decide +kernel) rfl
theorem stat_Math_min : Cond.static Lib.Math.min.name ∈ ALL := tb2 53 (by decide +kernel) rfl
theorem code_Math_min : Cond.code Lib.Math.min.name Lib.Math.min.code 2 (some .int) ∈ ALL := tb2 54 rfl rfl
theorem lk_Pa_38 : Cond.methodLink "FileBoxes$Palette" 38 ⟨"java/lang/Math", "max", "(II)I"⟩ ∈ ALL := tb2 55 (by decide +kernel) rfl
theorem stat_Math_max : Cond.static Lib.Math.max.name ∈ ALL := tb2 56 (by decide +kernel) rfl
theorem code_Math_max : Cond.code Lib.Math.max.name Lib.Math.max.code 2 (some .int) ∈ ALL := tb2 57 rfl rfl
theorem lk_Pa_41 : Cond.methodLink "FileBoxes$Palette" 41 y_Ar_fillJ ∈ ALL := tb2 58 (by decide +kernel) rfl
theorem stat_Ar_fillJ : Cond.static y_Ar_fillJ ∈ ALL := tb2 59 (by decide +kernel) rfl
theorem code_Ar_fillJ : Cond.code y_Ar_fillJ b_Ar_fillJ 5 none ∈ ALL := tb2 60 rfl rfl
theorem lk_Pl_77 : Cond.methodLink "FileBoxes$Plan" 77 y_Li_empty ∈ ALL := tb2 61 (by decide +kernel) rfl
theorem inst_Li_empty : Cond.instanceMethod y_Li_empty ∈ ALL := tb2 62 (by decide +kernel) rfl
theorem sel_Li_empty : Cond.selects "FileBoxes$Lines" y_Li_empty y_Li_empty ∈ ALL := tb2 63 (by decide +kernel) rfl
theorem code_Li_empty : Cond.code y_Li_empty b_Li_empty 1 none ∈ ALL := tb2 64 rfl rfl
theorem lk_Pl_80 : Cond.methodLink "FileBoxes$Plan" 80 y_Ar_fillI ∈ ALL := tb2 65 (by decide +kernel) rfl
theorem lk_La_144 : Cond.methodLink "FileBoxesLaw" 144 y_FB_clear ∈ ALL := tb2 66 (by decide +kernel) rfl
theorem inst_FB_clear : Cond.instanceMethod y_FB_clear ∈ ALL := tb2 67 (by decide +kernel) rfl
theorem sel_FB_clear : Cond.selects "FileBoxes" y_FB_clear y_FB_clear ∈ ALL := tb2 68 (by decide +kernel) rfl
theorem code_FB_clear : Cond.code y_FB_clear b_FB_clear 1 none ∈ ALL := tb2 69 rfl rfl
theorem lk_La_161 : Cond.methodLink "FileBoxesLaw" 161 y_FB_scan ∈ ALL := tb2 70 (by decide +kernel) rfl
theorem inst_FB_scan : Cond.instanceMethod y_FB_scan ∈ ALL := tb2 71 (by decide +kernel) rfl
theorem sel_FB_scan : Cond.selects "FileBoxes" y_FB_scan y_FB_scan ∈ ALL := tb2 72 (by decide +kernel) rfl
theorem code_FB_scan : Cond.code y_FB_scan b_FB_scan 2 (some .int) ∈ ALL := tb2 73 rfl rfl
theorem lk_FB_297 : Cond.methodLink "FileBoxes" 297 y_Sc_readFile ∈ ALL := tb2 74 (by decide +kernel) rfl
theorem inst_Sc_readFile : Cond.instanceMethod y_Sc_readFile ∈ ALL := tb2 75 (by decide +kernel) rfl
theorem sel_Sc_readFile : Cond.selects "FileBoxes$Scan" y_Sc_readFile y_Sc_readFile ∈ ALL := tb2 76 (by decide +kernel) rfl
theorem code_Sc_readFile : Cond.code y_Sc_readFile b_Sc_readFile 3 (some .int) ∈ ALL := tb2 77 rfl rfl
theorem lk_Sc_22 : Cond.methodLink "FileBoxes$Scan" 22 y_Pl_empty ∈ ALL := tb2 78 (by decide +kernel) rfl
theorem lk_Sc_44 : Cond.methodLink "FileBoxes$Scan" 44 y_Sc_limit ∈ ALL := tb2 79 (by decide +kernel) rfl
theorem inst_Sc_limit : Cond.instanceMethod y_Sc_limit ∈ ALL := tb2 81 (by decide +kernel) rfl
theorem code_Sc_limit : Cond.code y_Sc_limit b_Sc_limit 1 (some .int) ∈ ALL := tb2 82 rfl rfl
theorem lk_Sc_48 : Cond.methodLink "FileBoxes$Scan" 48 y_Sc_readBox ∈ ALL := tb2 83 (by decide +kernel) rfl
theorem inst_Sc_readBox : Cond.instanceMethod y_Sc_readBox ∈ ALL := tb2 85 (by decide +kernel) rfl
theorem code_Sc_readBox : Cond.code y_Sc_readBox b_Sc_readBox 2 (some .int) ∈ ALL := tb2 86 rfl rfl
theorem lk_Sc_68 : Cond.methodLink "FileBoxes$Scan" 68 y_Sc_open ∈ ALL := tb2 87 (by decide +kernel) rfl
theorem inst_Sc_open : Cond.instanceMethod y_Sc_open ∈ ALL := tb2 89 (by decide +kernel) rfl
theorem code_Sc_open : Cond.code y_Sc_open b_Sc_open 5 (some .int) ∈ ALL := tb2 90 rfl rfl
theorem lk_Sc_83 : Cond.methodLink "FileBoxes$Scan" 83 y_By_numberAt ∈ ALL := tb2 91 (by decide +kernel) rfl
theorem inst_By_numberAt : Cond.instanceMethod y_By_numberAt ∈ ALL := tb2 92 (by decide +kernel) rfl
theorem sel_By_numberAt : Cond.selects "FileBoxes$Bytes" y_By_numberAt y_By_numberAt ∈ ALL := tb2 93 (by decide +kernel) rfl
theorem code_By_numberAt : Cond.code y_By_numberAt b_By_numberAt 6 (some .long) ∈ ALL := tb2 94 rfl rfl
theorem lk_Sc_87 : Cond.methodLink "FileBoxes$Scan" 87 y_By_intAt ∈ ALL := tb2 95 (by decide +kernel) rfl
theorem inst_By_intAt : Cond.instanceMethod y_By_intAt ∈ ALL := tb2 96 (by decide +kernel) rfl
theorem sel_By_intAt : Cond.selects "FileBoxes$Bytes" y_By_intAt y_By_intAt ∈ ALL := tb2 97 (by decide +kernel) rfl
theorem code_By_intAt : Cond.code y_By_intAt b_By_intAt 3 (some .int) ∈ ALL := tb2 98 rfl rfl
theorem lk_By_39 : Cond.methodLink "FileBoxes$Bytes" 39 y_By_numberAt ∈ ALL := tb2 99 (by decide +kernel) rfl
theorem lk_Sc_74 : Cond.methodLink "FileBoxes$Scan" 74 y_Sc_readInFile ∈ ALL := tb2 100 (by decide +kernel) rfl
theorem inst_Sc_readInFile : Cond.instanceMethod y_Sc_readInFile ∈ ALL := tb2 102 (by decide +kernel) rfl
theorem code_Sc_readInFile : Cond.code y_Sc_readInFile b_Sc_readInFile 1 (some .int) ∈ ALL := tb2 103 rfl rfl
theorem lk_Sc_129 : Cond.methodLink "FileBoxes$Scan" 129 y_Sc_readSign ∈ ALL := tb2 104 (by decide +kernel) rfl
theorem inst_Sc_readSign : Cond.instanceMethod y_Sc_readSign ∈ ALL := tb2 106 (by decide +kernel) rfl
theorem code_Sc_readSign : Cond.code y_Sc_readSign b_Sc_readSign 1 (some .int) ∈ ALL := tb2 107 rfl rfl
theorem lk_Sc_141 : Cond.constant "FileBoxes$Scan" 141 1783636000 ∈ ALL := tb2 108 (by decide +kernel) rfl
theorem lk_Sc_142 : Cond.methodLink "FileBoxes$Scan" 142 y_Sc_content ∈ ALL := tb2 109 (by decide +kernel) rfl
theorem inst_Sc_content : Cond.instanceMethod y_Sc_content ∈ ALL := tb2 111 (by decide +kernel) rfl
theorem code_Sc_content : Cond.code y_Sc_content b_Sc_content 1 (some .int) ∈ ALL := tb2 112 rfl rfl
theorem lk_Sc_145 : Cond.constant "FileBoxes$Scan" 145 218793738 ∈ ALL := tb2 113 (by decide +kernel) rfl
theorem lk_Sc_132 : Cond.methodLink "FileBoxes$Scan" 132 y_Sc_readKind ∈ ALL := tb2 114 (by decide +kernel) rfl
theorem inst_Sc_readKind : Cond.instanceMethod y_Sc_readKind ∈ ALL := tb2 116 (by decide +kernel) rfl
theorem code_Sc_readKind : Cond.code y_Sc_readKind b_Sc_readKind 2 (some .int) ∈ ALL := tb2 117 rfl rfl
theorem lk_Sc_146 : Cond.constant "FileBoxes$Scan" 146 1718909296 ∈ ALL := tb2 118 (by decide +kernel) rfl
theorem lk_Sc_147 : Cond.constant "FileBoxes$Scan" 147 1785737760 ∈ ALL := tb2 119 (by decide +kernel) rfl
theorem lk_Sc_135 : Cond.methodLink "FileBoxes$Scan" 135 y_Sc_enterHead ∈ ALL := tb2 120 (by decide +kernel) rfl
theorem inst_Sc_enterHead : Cond.instanceMethod y_Sc_enterHead ∈ ALL := tb2 122 (by decide +kernel) rfl
theorem code_Sc_enterHead : Cond.code y_Sc_enterHead b_Sc_enterHead 1 (some .int) ∈ ALL := tb2 123 rfl rfl
theorem lk_Sc_106 : Cond.methodLink "FileBoxes$Scan" 106 y_Sc_was ∈ ALL := tb2 124 (by decide +kernel) rfl
theorem inst_Sc_was : Cond.instanceMethod y_Sc_was ∈ ALL := tb2 126 (by decide +kernel) rfl
theorem code_Sc_was : Cond.code y_Sc_was b_Sc_was 2 (some .boolean) ∈ ALL := tb2 127 rfl rfl
theorem lk_Sc_138 : Cond.methodLink "FileBoxes$Scan" 138 y_Sc_readStream ∈ ALL := tb2 128 (by decide +kernel) rfl
theorem inst_Sc_readStream : Cond.instanceMethod y_Sc_readStream ∈ ALL := tb2 130 (by decide +kernel) rfl
theorem code_Sc_readStream : Cond.code y_Sc_readStream b_Sc_readStream 1 (some .int) ∈ ALL := tb2 131 rfl rfl
theorem lk_Sc_77 : Cond.methodLink "FileBoxes$Scan" 77 y_Sc_readInHead ∈ ALL := tb2 132 (by decide +kernel) rfl
theorem inst_Sc_readInHead : Cond.instanceMethod y_Sc_readInHead ∈ ALL := tb2 134 (by decide +kernel) rfl
theorem code_Sc_readInHead : Cond.code y_Sc_readInHead b_Sc_readInHead 1 (some .int) ∈ ALL := tb2 135 rfl rfl
theorem lk_Sc_148 : Cond.constant "FileBoxes$Scan" 148 1768449138 ∈ ALL := tb2 136 (by decide +kernel) rfl
theorem lk_Sc_149 : Cond.methodLink "FileBoxes$Scan" 149 y_Sc_readSize ∈ ALL := tb2 137 (by decide +kernel) rfl
theorem inst_Sc_readSize : Cond.instanceMethod y_Sc_readSize ∈ ALL := tb2 139 (by decide +kernel) rfl
theorem code_Sc_readSize : Cond.code y_Sc_readSize b_Sc_readSize 3 (some .int) ∈ ALL := tb2 140 rfl rfl
theorem lk_Sc_179 : Cond.methodLink "FileBoxes$Scan" 179 y_By_byteAt ∈ ALL := tb2 141 (by decide +kernel) rfl
theorem inst_By_byteAt : Cond.instanceMethod y_By_byteAt ∈ ALL := tb2 142 (by decide +kernel) rfl
theorem sel_By_byteAt : Cond.selects "FileBoxes$Bytes" y_By_byteAt y_By_byteAt ∈ ALL := tb2 143 (by decide +kernel) rfl
theorem code_By_byteAt : Cond.code y_By_byteAt b_By_byteAt 2 (some .int) ∈ ALL := tb2 144 rfl rfl
theorem nk_Sc_183 : Cond.methodLinkNest "FileBoxes$Scan" 183 y_FB_areBits "FileBoxes" ∈ NWL := List.mem_of_getElem? (i := 0) (by decide +kernel)
theorem stat_FB_areBits : Cond.static y_FB_areBits ∈ ALL := tb2 146 (by decide +kernel) rfl
theorem code_FB_areBits : Cond.code y_FB_areBits b_FB_areBits 2 (some .boolean) ∈ ALL := tb2 147 rfl rfl
theorem lk_Sc_190 : Cond.methodLink "FileBoxes$Scan" 190 y_Ar_fillI ∈ ALL := tb2 148 (by decide +kernel) rfl
theorem lk_Sc_152 : Cond.methodLink "FileBoxes$Scan" 152 y_Sc_readBits ∈ ALL := tb2 149 (by decide +kernel) rfl
theorem inst_Sc_readBits : Cond.instanceMethod y_Sc_readBits ∈ ALL := tb2 151 (by decide +kernel) rfl
theorem code_Sc_readBits : Cond.code y_Sc_readBits b_Sc_readBits 3 (some .int) ∈ ALL := tb2 152 rfl rfl
theorem nk_Sc_203 : Cond.methodLinkNest "FileBoxes$Scan" 203 y_FB_setIn "FileBoxes" ∈ NWL := List.mem_of_getElem? (i := 1) (by decide +kernel)
theorem stat_FB_setIn : Cond.static y_FB_setIn ∈ ALL := tb2 154 (by decide +kernel) rfl
theorem code_FB_setIn : Cond.code y_FB_setIn b_FB_setIn 3 none ∈ ALL := tb2 155 rfl rfl
theorem lk_Sc_155 : Cond.methodLink "FileBoxes$Scan" 155 y_Sc_readColour ∈ ALL := tb2 156 (by decide +kernel) rfl
theorem inst_Sc_readColour : Cond.instanceMethod y_Sc_readColour ∈ ALL := tb2 158 (by decide +kernel) rfl
theorem code_Sc_readColour : Cond.code y_Sc_readColour b_Sc_readColour 3 (some .int) ∈ ALL := tb2 159 rfl rfl
theorem lk_Sc_207 : Cond.methodLink "FileBoxes$Scan" 207 y_Sc_readColours ∈ ALL := tb2 160 (by decide +kernel) rfl
theorem inst_Sc_readColours : Cond.instanceMethod y_Sc_readColours ∈ ALL := tb2 162 (by decide +kernel) rfl
theorem code_Sc_readColours : Cond.code y_Sc_readColours b_Sc_readColours 2 (some .int) ∈ ALL := tb2 163 rfl rfl
theorem nk_Sc_223 : Cond.methodLinkNest "FileBoxes$Scan" 223 y_FB_areColours "FileBoxes" ∈ NWL := List.mem_of_getElem? (i := 2) (by decide +kernel)
theorem stat_FB_areColours : Cond.static y_FB_areColours ∈ ALL := tb2 165 (by decide +kernel) rfl
theorem code_FB_areColours : Cond.code y_FB_areColours b_FB_areColours 1 (some .boolean) ∈ ALL := tb2 166 rfl rfl
theorem lk_Sc_110 : Cond.methodLink "FileBoxes$Scan" 110 y_Pl_hasColours ∈ ALL := tb2 167 (by decide +kernel) rfl
theorem inst_Pl_hasColours : Cond.instanceMethod y_Pl_hasColours ∈ ALL := tb2 168 (by decide +kernel) rfl
theorem sel_Pl_hasColours : Cond.selects "FileBoxes$Plan" y_Pl_hasColours y_Pl_hasColours ∈ ALL := tb2 169 (by decide +kernel) rfl
theorem code_Pl_hasColours : Cond.code y_Pl_hasColours b_Pl_hasColours 1 (some .boolean) ∈ ALL := tb2 170 rfl rfl
theorem lk_Sc_210 : Cond.methodLink "FileBoxes$Scan" 210 y_Pl_tellColours ∈ ALL := tb2 171 (by decide +kernel) rfl
theorem inst_Pl_tellColours : Cond.instanceMethod y_Pl_tellColours ∈ ALL := tb2 172 (by decide +kernel) rfl
theorem sel_Pl_tellColours : Cond.selects "FileBoxes$Plan" y_Pl_tellColours y_Pl_tellColours ∈ ALL := tb2 173 (by decide +kernel) rfl
theorem code_Pl_tellColours : Cond.code y_Pl_tellColours b_Pl_tellColours 2 none ∈ ALL := tb2 174 rfl rfl
theorem lk_Sc_217 : Cond.methodLink "FileBoxes$Scan" 217 y_By_makeRoom ∈ ALL := tb2 175 (by decide +kernel) rfl
theorem inst_By_makeRoom : Cond.instanceMethod y_By_makeRoom ∈ ALL := tb2 176 (by decide +kernel) rfl
theorem sel_By_makeRoom : Cond.selects "FileBoxes$Bytes" y_By_makeRoom y_By_makeRoom ∈ ALL := tb2 177 (by decide +kernel) rfl
theorem code_By_makeRoom : Cond.code y_By_makeRoom b_By_makeRoom 3 none ∈ ALL := tb2 178 rfl rfl
theorem lk_By_20 : Cond.methodLink "FileBoxes$Bytes" 20 ⟨"java/lang/Math", "min", "(II)I"⟩ ∈ ALL := tb2 179 (by decide +kernel) rfl
theorem lk_By_26 : Cond.methodLink "FileBoxes$Bytes" 26 ⟨"java/lang/Math", "max", "(II)I"⟩ ∈ ALL := tb2 180 (by decide +kernel) rfl
theorem lk_By_29 : Cond.methodLink "FileBoxes$Bytes" 29 y_Ar_copyOf ∈ ALL := tb2 181 (by decide +kernel) rfl
theorem stat_Ar_copyOf : Cond.static y_Ar_copyOf ∈ ALL := tb2 182 (by decide +kernel) rfl
theorem code_Ar_copyOf : Cond.code y_Ar_copyOf b_Ar_copyOf 3 (some (.array .byte)) ∈ ALL := tb2 183 rfl rfl
theorem lk_Ar_310 : Cond.methodLink "java/util/Arrays" 310 ⟨"[B", "clone", "()Ljava/lang/Object;"⟩ ∈ ALL := tb2 184 (by decide +kernel) rfl
theorem lk_Ar_311 : Cond.classLink "java/util/Arrays" 311 "[B" ∈ ALL := tb2 190 (by decide +kernel) rfl
theorem lk_Ar_304 : Cond.methodLink "java/util/Arrays" 304 ⟨"java/lang/Math", "min", "(II)I"⟩ ∈ ALL := tb2 191 (by decide +kernel) rfl
theorem lk_Ar_150 : Cond.methodLink "java/util/Arrays" 150 ⟨"java/lang/System", "arraycopy", "(Ljava/lang/Object;ILjava/lang/Object;II)V"⟩ ∈ ALL := tb2 192 (by decide +kernel) rfl
theorem stat_arraycopy : Cond.static arraycopyName ∈ ALL := tb2 193 (by decide +kernel) rfl
theorem nat_arraycopy : Cond.native arraycopyName ∈ ALL := tb2 194 (by decide +kernel) rfl
theorem lk_Sc_220 : Cond.methodLink "FileBoxes$Scan" 220 y_By_add ∈ ALL := tb2 195 (by decide +kernel) rfl
theorem inst_By_add : Cond.instanceMethod y_By_add ∈ ALL := tb2 196 (by decide +kernel) rfl
theorem sel_By_add : Cond.selects "FileBoxes$Bytes" y_By_add y_By_add ∈ ALL := tb2 197 (by decide +kernel) rfl
theorem code_By_add : Cond.code y_By_add b_By_add 2 none ∈ ALL := tb2 198 rfl rfl
theorem lk_Sc_158 : Cond.methodLink "FileBoxes$Scan" 158 y_Sc_readPalette ∈ ALL := tb2 199 (by decide +kernel) rfl
theorem inst_Sc_readPalette : Cond.instanceMethod y_Sc_readPalette ∈ ALL := tb2 201 (by decide +kernel) rfl
theorem code_Sc_readPalette : Cond.code y_Sc_readPalette b_Sc_readPalette 5 (some .int) ∈ ALL := tb2 202 rfl rfl
theorem lk_Sc_226 : Cond.methodLink "FileBoxes$Scan" 226 y_Sc_paletteHasItsLength ∈ ALL := tb2 203 (by decide +kernel) rfl
theorem inst_Sc_paletteHasItsLength : Cond.instanceMethod y_Sc_paletteHasItsLength ∈ ALL := tb2 205 (by decide +kernel) rfl
theorem code_Sc_paletteHasItsLength : Cond.code y_Sc_paletteHasItsLength b_Sc_paletteHasItsLength 5 (some .boolean) ∈ ALL := tb2 206 rfl rfl
theorem nk_Sc_243 : Cond.methodLinkNest "FileBoxes$Scan" 243 y_FB_bytesFor "FileBoxes" ∈ NWL := List.mem_of_getElem? (i := 3) (by decide +kernel)
theorem stat_FB_bytesFor : Cond.static y_FB_bytesFor ∈ ALL := tb2 208 (by decide +kernel) rfl
theorem code_FB_bytesFor : Cond.code y_FB_bytesFor b_FB_bytesFor 1 (some .int) ∈ ALL := tb2 209 rfl rfl
theorem lk_FB_315 : Cond.methodLink "FileBoxes" 315 y_FB_bitCount ∈ ALL := tb2 210 (by decide +kernel) rfl
theorem stat_FB_bitCount : Cond.static y_FB_bitCount ∈ ALL := tb2 211 (by decide +kernel) rfl
theorem code_FB_bitCount : Cond.code y_FB_bitCount b_FB_bitCount 1 (some .int) ∈ ALL := tb2 212 rfl rfl
theorem lk_Sc_233 : Cond.methodLink "FileBoxes$Scan" 233 y_Pa_become ∈ ALL := tb2 213 (by decide +kernel) rfl
theorem lk_Sc_240 : Cond.methodLink "FileBoxes$Scan" 240 y_Sc_readNumbers ∈ ALL := tb2 214 (by decide +kernel) rfl
theorem inst_Sc_readNumbers : Cond.instanceMethod y_Sc_readNumbers ∈ ALL := tb2 216 (by decide +kernel) rfl
theorem code_Sc_readNumbers : Cond.code y_Sc_readNumbers b_Sc_readNumbers 7 none ∈ ALL := tb2 217 rfl rfl
theorem nk_Sc_252 : Cond.methodLinkNest "FileBoxes$Scan" 252 y_FB_valueIn "FileBoxes" ∈ NWL := List.mem_of_getElem? (i := 4) (by decide +kernel)
theorem stat_FB_valueIn : Cond.static y_FB_valueIn ∈ ALL := tb2 219 (by decide +kernel) rfl
theorem code_FB_valueIn : Cond.code y_FB_valueIn b_FB_valueIn 2 (some .int) ∈ ALL := tb2 220 rfl rfl
theorem nk_Sc_256 : Cond.methodLinkNest "FileBoxes$Scan" 256 y_FB_lowestBits "FileBoxes" ∈ NWL := List.mem_of_getElem? (i := 5) (by decide +kernel)
theorem stat_FB_lowestBits : Cond.static y_FB_lowestBits ∈ ALL := tb2 222 (by decide +kernel) rfl
theorem code_FB_lowestBits : Cond.code y_FB_lowestBits b_FB_lowestBits 6 (some .long) ∈ ALL := tb2 223 rfl rfl
theorem lk_FB_322 : Cond.methodLink "FileBoxes" 322 ⟨"java/lang/Math", "min", "(II)I"⟩ ∈ ALL := tb2 224 (by decide +kernel) rfl
theorem lk_Sc_260 : Cond.methodLink "FileBoxes$Scan" 260 y_Pa_setNumber ∈ ALL := tb2 225 (by decide +kernel) rfl
theorem inst_Pa_setNumber : Cond.instanceMethod y_Pa_setNumber ∈ ALL := tb2 226 (by decide +kernel) rfl
theorem sel_Pa_setNumber : Cond.selects "FileBoxes$Palette" y_Pa_setNumber y_Pa_setNumber ∈ ALL := tb2 227 (by decide +kernel) rfl
theorem code_Pa_setNumber : Cond.code y_Pa_setNumber b_Pa_setNumber 6 none ∈ ALL := tb2 228 rfl rfl
theorem lk_Sc_161 : Cond.methodLink "FileBoxes$Scan" 161 y_Sc_readMap ∈ ALL := tb2 229 (by decide +kernel) rfl
theorem inst_Sc_readMap : Cond.instanceMethod y_Sc_readMap ∈ ALL := tb2 231 (by decide +kernel) rfl
theorem code_Sc_readMap : Cond.code y_Sc_readMap b_Sc_readMap 5 (some .int) ∈ ALL := tb2 232 rfl rfl
theorem nk_Sc_264 : Cond.methodLinkNest "FileBoxes$Scan" 264 y_FB_isWay "FileBoxes" ∈ NWL := List.mem_of_getElem? (i := 6) (by decide +kernel)
theorem stat_FB_isWay : Cond.static y_FB_isWay ∈ ALL := tb2 234 (by decide +kernel) rfl
theorem code_FB_isWay : Cond.code y_FB_isWay b_FB_isWay 3 (some .boolean) ∈ ALL := tb2 235 rfl rfl
theorem lk_Sc_271 : Cond.methodLink "FileBoxes$Scan" 271 y_Li_add ∈ ALL := tb2 236 (by decide +kernel) rfl
theorem inst_Li_add : Cond.instanceMethod y_Li_add ∈ ALL := tb2 237 (by decide +kernel) rfl
theorem sel_Li_add : Cond.selects "FileBoxes$Lines" y_Li_add y_Li_add ∈ ALL := tb2 238 (by decide +kernel) rfl
theorem code_Li_add : Cond.code y_Li_add b_Li_add 4 none ∈ ALL := tb2 239 rfl rfl
theorem nk_Li_19 : Cond.methodLinkNest "FileBoxes$Lines" 19 y_FB_setIn "FileBoxes" ∈ NWL := List.mem_of_getElem? (i := 7) (by decide +kernel)
theorem lk_Sc_164 : Cond.methodLink "FileBoxes$Scan" 164 y_Sc_readMeanings ∈ ALL := tb3 1 (by decide +kernel) rfl
theorem inst_Sc_readMeanings : Cond.instanceMethod y_Sc_readMeanings ∈ ALL := tb3 3 (by decide +kernel) rfl
theorem code_Sc_readMeanings : Cond.code y_Sc_readMeanings b_Sc_readMeanings 4 (some .int) ∈ ALL := tb3 4 rfl rfl
theorem nk_Sc_274 : Cond.methodLinkNest "FileBoxes$Scan" 274 y_FB_isType "FileBoxes" ∈ NWL := List.mem_of_getElem? (i := 8) (by decide +kernel)
theorem stat_FB_isType : Cond.static y_FB_isType ∈ ALL := tb3 6 (by decide +kernel) rfl
theorem code_FB_isType : Cond.code y_FB_isType b_FB_isType 1 (some .boolean) ∈ ALL := tb3 7 rfl rfl
theorem lk_FB_211 : Cond.constant "FileBoxes" 211 65535 ∈ ALL := tb3 8 (by decide +kernel) rfl
theorem lk_Sc_167 : Cond.methodLink "FileBoxes$Scan" 167 y_Sc_enterResolution ∈ ALL := tb3 9 (by decide +kernel) rfl
theorem inst_Sc_enterResolution : Cond.instanceMethod y_Sc_enterResolution ∈ ALL := tb3 11 (by decide +kernel) rfl
theorem code_Sc_enterResolution : Cond.code y_Sc_enterResolution b_Sc_enterResolution 1 (some .int) ∈ ALL := tb3 12 rfl rfl
theorem lk_Sc_80 : Cond.methodLink "FileBoxes$Scan" 80 y_Sc_readInResolution ∈ ALL := tb3 13 (by decide +kernel) rfl
theorem inst_Sc_readInResolution : Cond.instanceMethod y_Sc_readInResolution ∈ ALL := tb3 15 (by decide +kernel) rfl
theorem code_Sc_readInResolution : Cond.code y_Sc_readInResolution b_Sc_readInResolution 1 (some .int) ∈ ALL := tb3 16 rfl rfl
theorem lk_Sc_280 : Cond.methodLink "FileBoxes$Scan" 280 y_Sc_readRatio ∈ ALL := tb3 17 (by decide +kernel) rfl
theorem inst_Sc_readRatio : Cond.instanceMethod y_Sc_readRatio ∈ ALL := tb3 19 (by decide +kernel) rfl
theorem code_Sc_readRatio : Cond.code y_Sc_readRatio b_Sc_readRatio 5 (some .int) ∈ ALL := tb3 20 rfl rfl
theorem lk_Sc_51 : Cond.methodLink "FileBoxes$Scan" 51 y_Sc_leave ∈ ALL := tb3 21 (by decide +kernel) rfl
theorem inst_Sc_leave : Cond.instanceMethod y_Sc_leave ∈ ALL := tb3 23 (by decide +kernel) rfl
theorem code_Sc_leave : Cond.code y_Sc_leave b_Sc_leave 1 (some .int) ∈ ALL := tb3 24 rfl rfl
theorem lk_Sc_100 : Cond.methodLink "FileBoxes$Scan" 100 y_Sc_endOfHead ∈ ALL := tb3 25 (by decide +kernel) rfl
theorem inst_Sc_endOfHead : Cond.instanceMethod y_Sc_endOfHead ∈ ALL := tb3 27 (by decide +kernel) rfl
theorem code_Sc_endOfHead : Cond.code y_Sc_endOfHead b_Sc_endOfHead 4 (some .int) ∈ ALL := tb3 28 rfl rfl
theorem lk_Sc_118 : Cond.methodLink "FileBoxes$Scan" 118 y_Pl_channelCount ∈ ALL := tb3 29 (by decide +kernel) rfl
theorem inst_Pl_channelCount : Cond.instanceMethod y_Pl_channelCount ∈ ALL := tb3 30 (by decide +kernel) rfl
theorem sel_Pl_channelCount : Cond.selects "FileBoxes$Plan" y_Pl_channelCount y_Pl_channelCount ∈ ALL := tb3 31 (by decide +kernel) rfl
theorem code_Pl_channelCount : Cond.code y_Pl_channelCount b_Pl_channelCount 1 (some .int) ∈ ALL := tb3 32 rfl rfl
theorem lk_Sc_121 : Cond.methodLink "FileBoxes$Scan" 121 y_Li_allFirstBelow ∈ ALL := tb3 33 (by decide +kernel) rfl
theorem inst_Li_allFirstBelow : Cond.instanceMethod y_Li_allFirstBelow ∈ ALL := tb3 34 (by decide +kernel) rfl
theorem sel_Li_allFirstBelow : Cond.selects "FileBoxes$Lines" y_Li_allFirstBelow y_Li_allFirstBelow ∈ ALL := tb3 35 (by decide +kernel) rfl
theorem code_Li_allFirstBelow : Cond.code y_Li_allFirstBelow b_Li_allFirstBelow 3 (some .boolean) ∈ ALL := tb3 36 rfl rfl
theorem lk_Li_27 : Cond.methodLink "FileBoxes$Lines" 27 y_Li_part ∈ ALL := tb3 37 (by decide +kernel) rfl
theorem inst_Li_part : Cond.instanceMethod y_Li_part ∈ ALL := tb3 38 (by decide +kernel) rfl
theorem sel_Li_part : Cond.selects "FileBoxes$Lines" y_Li_part y_Li_part ∈ ALL := tb3 39 (by decide +kernel) rfl
theorem code_Li_part : Cond.code y_Li_part b_Li_part 3 (some .int) ∈ ALL := tb3 40 rfl rfl
theorem nk_Li_23 : Cond.methodLinkNest "FileBoxes$Lines" 23 y_FB_valueIn "FileBoxes" ∈ NWL := List.mem_of_getElem? (i := 9) (by decide +kernel)
theorem lk_Sc_126 : Cond.methodLink "FileBoxes$Scan" 126 y_Li_someFirstTwice ∈ ALL := tb3 42 (by decide +kernel) rfl
theorem inst_Li_someFirstTwice : Cond.instanceMethod y_Li_someFirstTwice ∈ ALL := tb3 43 (by decide +kernel) rfl
theorem sel_Li_someFirstTwice : Cond.selects "FileBoxes$Lines" y_Li_someFirstTwice y_Li_someFirstTwice ∈ ALL := tb3 44 (by decide +kernel) rfl
theorem code_Li_someFirstTwice : Cond.code y_Li_someFirstTwice b_Li_someFirstTwice 3 (some .boolean) ∈ ALL := tb3 45 rfl rfl
theorem lk_FB_303 : Cond.methodLink "FileBoxes" 303 y_Sc_exchange ∈ ALL := tb3 46 (by decide +kernel) rfl
theorem inst_Sc_exchange : Cond.instanceMethod y_Sc_exchange ∈ ALL := tb3 47 (by decide +kernel) rfl
theorem sel_Sc_exchange : Cond.selects "FileBoxes$Scan" y_Sc_exchange y_Sc_exchange ∈ ALL := tb3 48 (by decide +kernel) rfl
theorem code_Sc_exchange : Cond.code y_Sc_exchange b_Sc_exchange 3 (some (.object "FileBoxes$Plan")) ∈ ALL := tb3 49 rfl rfl
theorem lk_La_165 : Cond.methodLink "FileBoxesLaw" 165 y_FB_place ∈ ALL := tb3 50 (by decide +kernel) rfl
theorem inst_FB_place : Cond.instanceMethod y_FB_place ∈ ALL := tb3 51 (by decide +kernel) rfl
theorem sel_FB_place : Cond.selects "FileBoxes" y_FB_place y_FB_place ∈ ALL := tb3 52 (by decide +kernel) rfl
theorem code_FB_place : Cond.code y_FB_place b_FB_place 1 (some .int) ∈ ALL := tb3 53 rfl rfl
theorem lk_La_89 : Cond.methodLink "FileBoxesLaw" 89 y_La_size ∈ ALL := tb3 54 (by decide +kernel) rfl
theorem stat_La_size : Cond.static y_La_size ∈ ALL := tb3 55 (by decide +kernel) rfl
theorem lk_La_13 : Cond.classLink "FileBoxesLaw" 13 "java/lang/IllegalArgumentException" ∈ ALL := tb3 57 (by decide +kernel) rfl
theorem lk_La_7 : Cond.methodLink "FileBoxesLaw" 7 y_FB_size ∈ ALL := tb3 58 (by decide +kernel) rfl
theorem inst_FB_size : Cond.instanceMethod y_FB_size ∈ ALL := tb3 59 (by decide +kernel) rfl
theorem sel_FB_size : Cond.selects "FileBoxes" y_FB_size y_FB_size ∈ ALL := tb3 60 (by decide +kernel) rfl
theorem code_FB_size : Cond.code y_FB_size b_FB_size 7 none ∈ ALL := tb3 61 rfl rfl
theorem lk_FB_53 : Cond.classLink "FileBoxes" 53 "java/lang/IllegalArgumentException" ∈ ALL := tb3 62 (by decide +kernel) rfl
theorem lk_FB_57 : Cond.methodLink "FileBoxes" 57 ⟨"java/lang/IllegalArgumentException", "<init>", "(Ljava/lang/String;)V"⟩ ∈ ALL := tb3 105 (by decide +kernel) rfl
theorem lk_FB_62 : Cond.methodLink "FileBoxes" 62 y_FB_areBits ∈ ALL := tb3 131 (by decide +kernel) rfl
theorem lk_FB_87 : Cond.methodLink "FileBoxes" 87 y_Ar_fillI ∈ ALL := tb3 133 (by decide +kernel) rfl
theorem lk_La_99 : Cond.methodLink "FileBoxesLaw" 99 y_La_bits ∈ ALL := tb3 134 (by decide +kernel) rfl
theorem stat_La_bits : Cond.static y_La_bits ∈ ALL := tb3 135 (by decide +kernel) rfl
theorem lk_La_19 : Cond.classLink "FileBoxesLaw" 19 "java/util/NoSuchElementException" ∈ ALL := tb3 137 (by decide +kernel) rfl
theorem lk_La_15 : Cond.methodLink "FileBoxesLaw" 15 y_FB_bits ∈ ALL := tb3 138 (by decide +kernel) rfl
theorem inst_FB_bits : Cond.instanceMethod y_FB_bits ∈ ALL := tb3 139 (by decide +kernel) rfl
theorem sel_FB_bits : Cond.selects "FileBoxes" y_FB_bits y_FB_bits ∈ ALL := tb3 140 (by decide +kernel) rfl
theorem code_FB_bits : Cond.code y_FB_bits b_FB_bits 3 none ∈ ALL := tb3 141 rfl rfl
theorem lk_FB_93 : Cond.classLink "FileBoxes" 93 "java/util/NoSuchElementException" ∈ ALL := tb3 142 (by decide +kernel) rfl
theorem lk_FB_97 : Cond.methodLink "FileBoxes" 97 ⟨"java/util/NoSuchElementException", "<init>", "(Ljava/lang/String;)V"⟩ ∈ ALL := tb3 152 (by decide +kernel) rfl
theorem lk_FB_98 : Cond.methodLink "FileBoxes" 98 y_FB_setIn ∈ ALL := tb3 158 (by decide +kernel) rfl
theorem lk_La_103 : Cond.methodLink "FileBoxesLaw" 103 y_La_colours ∈ ALL := tb3 159 (by decide +kernel) rfl
theorem stat_La_colours : Cond.static y_La_colours ∈ ALL := tb3 160 (by decide +kernel) rfl
theorem lk_La_21 : Cond.methodLink "FileBoxesLaw" 21 y_FB_colours ∈ ALL := tb3 162 (by decide +kernel) rfl
theorem inst_FB_colours : Cond.instanceMethod y_FB_colours ∈ ALL := tb3 163 (by decide +kernel) rfl
theorem sel_FB_colours : Cond.selects "FileBoxes" y_FB_colours y_FB_colours ∈ ALL := tb3 164 (by decide +kernel) rfl
theorem code_FB_colours : Cond.code y_FB_colours b_FB_colours 2 none ∈ ALL := tb3 165 rfl rfl
theorem lk_FB_102 : Cond.methodLink "FileBoxes" 102 y_FB_areColours ∈ ALL := tb3 166 (by decide +kernel) rfl
theorem lk_FB_107 : Cond.methodLink "FileBoxes" 107 y_Pl_tellColours ∈ ALL := tb3 168 (by decide +kernel) rfl
theorem lk_La_107 : Cond.methodLink "FileBoxesLaw" 107 y_La_profile ∈ ALL := tb3 169 (by decide +kernel) rfl
theorem stat_La_profile : Cond.static y_La_profile ∈ ALL := tb3 170 (by decide +kernel) rfl
theorem lk_La_29 : Cond.classLink "FileBoxesLaw" 29 "java/lang/IllegalStateException" ∈ ALL := tb3 172 (by decide +kernel) rfl
theorem lk_La_31 : Cond.classLink "FileBoxesLaw" 31 "java/lang/UnsupportedOperationException" ∈ ALL := tb3 173 (by decide +kernel) rfl
theorem lk_La_25 : Cond.methodLink "FileBoxesLaw" 25 y_FB_profile ∈ ALL := tb3 174 (by decide +kernel) rfl
theorem inst_FB_profile : Cond.instanceMethod y_FB_profile ∈ ALL := tb3 175 (by decide +kernel) rfl
theorem sel_FB_profile : Cond.selects "FileBoxes" y_FB_profile y_FB_profile ∈ ALL := tb3 176 (by decide +kernel) rfl
theorem code_FB_profile : Cond.code y_FB_profile b_FB_profile 2 (some .int) ∈ ALL := tb3 177 rfl rfl
theorem lk_FB_113 : Cond.classLink "FileBoxes" 113 "java/lang/IllegalStateException" ∈ ALL := tb3 178 (by decide +kernel) rfl
theorem lk_FB_117 : Cond.methodLink "FileBoxes" 117 ⟨"java/lang/IllegalStateException", "<init>", "(Ljava/lang/String;)V"⟩ ∈ ALL := tb3 188 (by decide +kernel) rfl
theorem lk_FB_118 : Cond.methodLink "FileBoxes" 118 y_FB_isByte ∈ ALL := tb3 194 (by decide +kernel) rfl
theorem stat_FB_isByte : Cond.static y_FB_isByte ∈ ALL := tb3 195 (by decide +kernel) rfl
theorem code_FB_isByte : Cond.code y_FB_isByte b_FB_isByte 1 (some .boolean) ∈ ALL := tb3 196 rfl rfl
theorem lk_FB_129 : Cond.classLink "FileBoxes" 129 "java/lang/UnsupportedOperationException" ∈ ALL := tb3 198 (by decide +kernel) rfl
theorem lk_FB_133 : Cond.methodLink "FileBoxes" 133 ⟨"java/lang/UnsupportedOperationException", "<init>", "(Ljava/lang/String;)V"⟩ ∈ ALL := tb3 208 (by decide +kernel) rfl
theorem lk_FB_134 : Cond.methodLink "FileBoxes" 134 y_By_makeRoom ∈ ALL := tb3 214 (by decide +kernel) rfl
theorem lk_FB_137 : Cond.methodLink "FileBoxes" 137 y_By_add ∈ ALL := tb3 215 (by decide +kernel) rfl
theorem lk_La_111 : Cond.methodLink "FileBoxesLaw" 111 y_La_palette ∈ ALL := tb3 216 (by decide +kernel) rfl
theorem stat_La_palette : Cond.static y_La_palette ∈ ALL := tb3 217 (by decide +kernel) rfl
theorem lk_La_33 : Cond.methodLink "FileBoxesLaw" 33 y_FB_palette ∈ ALL := tb3 219 (by decide +kernel) rfl
theorem inst_FB_palette : Cond.instanceMethod y_FB_palette ∈ ALL := tb3 220 (by decide +kernel) rfl
theorem sel_FB_palette : Cond.selects "FileBoxes" y_FB_palette y_FB_palette ∈ ALL := tb3 221 (by decide +kernel) rfl
theorem code_FB_palette : Cond.code y_FB_palette b_FB_palette 3 none ∈ ALL := tb3 222 rfl rfl
theorem lk_FB_150 : Cond.methodLink "FileBoxes" 150 y_Pa_become ∈ ALL := tb3 226 (by decide +kernel) rfl
theorem lk_FB_160 : Cond.methodLink "FileBoxes" 160 y_Li_empty ∈ ALL := tb3 227 (by decide +kernel) rfl
theorem lk_La_114 : Cond.methodLink "FileBoxesLaw" 114 y_La_column ∈ ALL := tb3 228 (by decide +kernel) rfl
theorem stat_La_column : Cond.static y_La_column ∈ ALL := tb3 229 (by decide +kernel) rfl
theorem lk_La_36 : Cond.methodLink "FileBoxesLaw" 36 y_FB_column ∈ ALL := tb3 231 (by decide +kernel) rfl
theorem inst_FB_column : Cond.instanceMethod y_FB_column ∈ ALL := tb3 232 (by decide +kernel) rfl
theorem sel_FB_column : Cond.selects "FileBoxes" y_FB_column y_FB_column ∈ ALL := tb3 233 (by decide +kernel) rfl
theorem code_FB_column : Cond.code y_FB_column b_FB_column 3 none ∈ ALL := tb3 234 rfl rfl
theorem lk_La_119 : Cond.methodLink "FileBoxesLaw" 119 y_La_entry ∈ ALL := tb3 236 (by decide +kernel) rfl
theorem stat_La_entry : Cond.static y_La_entry ∈ ALL := tb3 237 (by decide +kernel) rfl
theorem lk_La_39 : Cond.methodLink "FileBoxesLaw" 39 y_FB_entry ∈ ALL := tb3 239 (by decide +kernel) rfl
theorem inst_FB_entry : Cond.instanceMethod y_FB_entry ∈ ALL := tb4 0 (by decide +kernel) rfl
theorem sel_FB_entry : Cond.selects "FileBoxes" y_FB_entry y_FB_entry ∈ ALL := tb4 1 (by decide +kernel) rfl
theorem code_FB_entry : Cond.code y_FB_entry b_FB_entry 5 none ∈ ALL := tb4 2 rfl rfl
theorem lk_FB_169 : Cond.methodLink "FileBoxes" 169 y_Pa_has ∈ ALL := tb4 3 (by decide +kernel) rfl
theorem inst_Pa_has : Cond.instanceMethod y_Pa_has ∈ ALL := tb4 4 (by decide +kernel) rfl
theorem sel_Pa_has : Cond.selects "FileBoxes$Palette" y_Pa_has y_Pa_has ∈ ALL := tb4 5 (by decide +kernel) rfl
theorem code_Pa_has : Cond.code y_Pa_has b_Pa_has 3 (some .boolean) ∈ ALL := tb4 6 rfl rfl
theorem lk_FB_175 : Cond.methodLink "FileBoxes" 175 y_FB_valueIn ∈ ALL := tb4 8 (by decide +kernel) rfl
theorem lk_FB_179 : Cond.methodLink "FileBoxes" 179 y_FB_fits ∈ ALL := tb4 9 (by decide +kernel) rfl
theorem stat_FB_fits : Cond.static y_FB_fits ∈ ALL := tb4 10 (by decide +kernel) rfl
theorem code_FB_fits : Cond.code y_FB_fits b_FB_fits 3 (some .boolean) ∈ ALL := tb4 11 rfl rfl
theorem lk_FB_318 : Cond.methodLink "FileBoxes" 318 y_FB_lowestBits ∈ ALL := tb4 12 (by decide +kernel) rfl
theorem lk_FB_185 : Cond.methodLink "FileBoxes" 185 y_Pa_setNumber ∈ ALL := tb4 14 (by decide +kernel) rfl
theorem lk_La_123 : Cond.methodLink "FileBoxesLaw" 123 y_La_map ∈ ALL := tb4 15 (by decide +kernel) rfl
theorem stat_La_map : Cond.static y_La_map ∈ ALL := tb4 16 (by decide +kernel) rfl
theorem lk_La_43 : Cond.methodLink "FileBoxesLaw" 43 y_FB_map ∈ ALL := tb4 18 (by decide +kernel) rfl
theorem inst_FB_map : Cond.instanceMethod y_FB_map ∈ ALL := tb4 19 (by decide +kernel) rfl
theorem sel_FB_map : Cond.selects "FileBoxes" y_FB_map y_FB_map ∈ ALL := tb4 20 (by decide +kernel) rfl
theorem code_FB_map : Cond.code y_FB_map b_FB_map 4 (some .int) ∈ ALL := tb4 21 rfl rfl
theorem lk_FB_197 : Cond.methodLink "FileBoxes" 197 y_FB_isWay ∈ ALL := tb4 24 (by decide +kernel) rfl
theorem lk_FB_203 : Cond.methodLink "FileBoxes" 203 y_Li_add ∈ ALL := tb4 26 (by decide +kernel) rfl
theorem lk_La_127 : Cond.methodLink "FileBoxesLaw" 127 y_La_channel ∈ ALL := tb4 27 (by decide +kernel) rfl
theorem stat_La_channel : Cond.static y_La_channel ∈ ALL := tb4 28 (by decide +kernel) rfl
theorem lk_La_47 : Cond.methodLink "FileBoxesLaw" 47 y_FB_channel ∈ ALL := tb4 30 (by decide +kernel) rfl
theorem inst_FB_channel : Cond.instanceMethod y_FB_channel ∈ ALL := tb4 31 (by decide +kernel) rfl
theorem sel_FB_channel : Cond.selects "FileBoxes" y_FB_channel y_FB_channel ∈ ALL := tb4 32 (by decide +kernel) rfl
theorem code_FB_channel : Cond.code y_FB_channel b_FB_channel 4 (some .int) ∈ ALL := tb4 33 rfl rfl
theorem lk_FB_208 : Cond.methodLink "FileBoxes" 208 y_FB_isType ∈ ALL := tb4 35 (by decide +kernel) rfl
theorem lk_FB_217 : Cond.methodLink "FileBoxes" 217 y_Li_tells ∈ ALL := tb4 37 (by decide +kernel) rfl
theorem inst_Li_tells : Cond.instanceMethod y_Li_tells ∈ ALL := tb4 38 (by decide +kernel) rfl
theorem sel_Li_tells : Cond.selects "FileBoxes$Lines" y_Li_tells y_Li_tells ∈ ALL := tb4 39 (by decide +kernel) rfl
theorem code_Li_tells : Cond.code y_Li_tells b_Li_tells 3 (some .boolean) ∈ ALL := tb4 40 rfl rfl
theorem lk_La_130 : Cond.methodLink "FileBoxesLaw" 130 y_La_resolution ∈ ALL := tb4 42 (by decide +kernel) rfl
theorem stat_La_resolution : Cond.static y_La_resolution ∈ ALL := tb4 43 (by decide +kernel) rfl
theorem lk_La_50 : Cond.methodLink "FileBoxesLaw" 50 y_FB_resolution ∈ ALL := tb4 45 (by decide +kernel) rfl
theorem inst_FB_resolution : Cond.instanceMethod y_FB_resolution ∈ ALL := tb4 46 (by decide +kernel) rfl
theorem sel_FB_resolution : Cond.selects "FileBoxes" y_FB_resolution y_FB_resolution ∈ ALL := tb4 47 (by decide +kernel) rfl
theorem code_FB_resolution : Cond.code y_FB_resolution b_FB_resolution 10 none ∈ ALL := tb4 48 rfl rfl
theorem lk_FB_222 : Cond.methodLink "FileBoxes" 222 y_FB_isRatioPart ∈ ALL := tb4 49 (by decide +kernel) rfl
theorem stat_FB_isRatioPart : Cond.static y_FB_isRatioPart ∈ ALL := tb4 50 (by decide +kernel) rfl
theorem code_FB_isRatioPart : Cond.code y_FB_isRatioPart b_FB_isRatioPart 1 (some .boolean) ∈ ALL := tb4 51 rfl rfl
theorem lk_FB_227 : Cond.methodLink "FileBoxes" 227 y_FB_isPower ∈ ALL := tb4 53 (by decide +kernel) rfl
theorem stat_FB_isPower : Cond.static y_FB_isPower ∈ ALL := tb4 54 (by decide +kernel) rfl
theorem code_FB_isPower : Cond.code y_FB_isPower b_FB_isPower 1 (some .boolean) ∈ ALL := tb4 55 rfl rfl
theorem lk_La_134 : Cond.methodLink "FileBoxesLaw" 134 y_La_get ∈ ALL := tb4 57 (by decide +kernel) rfl
theorem stat_La_get : Cond.static y_La_get ∈ ALL := tb4 58 (by decide +kernel) rfl
theorem lk_La_54 : Cond.methodLink "FileBoxesLaw" 54 y_FB_get ∈ ALL := tb4 60 (by decide +kernel) rfl
theorem inst_FB_get : Cond.instanceMethod y_FB_get ∈ ALL := tb4 61 (by decide +kernel) rfl
theorem sel_FB_get : Cond.selects "FileBoxes" y_FB_get y_FB_get ∈ ALL := tb4 62 (by decide +kernel) rfl
theorem code_FB_get : Cond.code y_FB_get b_FB_get 3 (some .int) ∈ ALL := tb4 63 rfl rfl
theorem lk_FB_238 : Cond.methodLink "FileBoxes" 238 y_FB_listed ∈ ALL := tb4 64 (by decide +kernel) rfl
theorem inst_FB_listed : Cond.instanceMethod y_FB_listed ∈ ALL := tb4 66 (by decide +kernel) rfl
theorem code_FB_listed : Cond.code y_FB_listed b_FB_listed 3 (some .int) ∈ ALL := tb4 67 rfl rfl
theorem lk_FB_247 : Cond.methodLink "FileBoxes" 247 y_Pl_countOf ∈ ALL := tb4 68 (by decide +kernel) rfl
theorem inst_Pl_countOf : Cond.instanceMethod y_Pl_countOf ∈ ALL := tb4 69 (by decide +kernel) rfl
theorem sel_Pl_countOf : Cond.selects "FileBoxes$Plan" y_Pl_countOf y_Pl_countOf ∈ ALL := tb4 70 (by decide +kernel) rfl
theorem code_Pl_countOf : Cond.code y_Pl_countOf b_Pl_countOf 2 (some .int) ∈ ALL := tb4 71 rfl rfl
theorem lk_FB_253 : Cond.methodLink "FileBoxes" 253 y_By_byteAt ∈ ALL := tb4 73 (by decide +kernel) rfl
theorem lk_FB_256 : Cond.methodLink "FileBoxes" 256 y_Li_part ∈ ALL := tb4 74 (by decide +kernel) rfl
theorem lk_La_138 : Cond.methodLink "FileBoxesLaw" 138 y_La_number ∈ ALL := tb4 76 (by decide +kernel) rfl
theorem stat_La_number : Cond.static y_La_number ∈ ALL := tb4 77 (by decide +kernel) rfl
theorem lk_La_58 : Cond.methodLink "FileBoxesLaw" 58 y_FB_number ∈ ALL := tb4 79 (by decide +kernel) rfl
theorem inst_FB_number : Cond.instanceMethod y_FB_number ∈ ALL := tb4 80 (by decide +kernel) rfl
theorem sel_FB_number : Cond.selects "FileBoxes" y_FB_number y_FB_number ∈ ALL := tb4 81 (by decide +kernel) rfl
theorem code_FB_number : Cond.code y_FB_number b_FB_number 3 (some .long) ∈ ALL := tb4 82 rfl rfl
theorem lk_FB_259 : Cond.methodLink "FileBoxes" 259 y_Pa_numberAt ∈ ALL := tb4 83 (by decide +kernel) rfl
theorem inst_Pa_numberAt : Cond.instanceMethod y_Pa_numberAt ∈ ALL := tb4 84 (by decide +kernel) rfl
theorem sel_Pa_numberAt : Cond.selects "FileBoxes$Palette" y_Pa_numberAt y_Pa_numberAt ∈ ALL := tb4 85 (by decide +kernel) rfl
theorem code_Pa_numberAt : Cond.code y_Pa_numberAt b_Pa_numberAt 4 (some .long) ∈ ALL := tb4 86 rfl rfl
theorem lk_La_141 : Cond.methodLink "FileBoxesLaw" 141 y_La_shown ∈ ALL := tb4 87 (by decide +kernel) rfl
theorem stat_La_shown : Cond.static y_La_shown ∈ ALL := tb4 88 (by decide +kernel) rfl
theorem lk_La_62 : Cond.methodLink "FileBoxesLaw" 62 y_FB_shown ∈ ALL := tb4 90 (by decide +kernel) rfl
theorem inst_FB_shown : Cond.instanceMethod y_FB_shown ∈ ALL := tb4 91 (by decide +kernel) rfl
theorem sel_FB_shown : Cond.selects "FileBoxes" y_FB_shown y_FB_shown ∈ ALL := tb4 92 (by decide +kernel) rfl
theorem code_FB_shown : Cond.code y_FB_shown b_FB_shown 3 (some .long) ∈ ALL := tb4 93 rfl rfl
theorem lk_FB_263 : Cond.methodLink "FileBoxes" 263 y_Pl_channelCount ∈ ALL := tb4 94 (by decide +kernel) rfl
theorem lk_FB_269 : Cond.methodLink "FileBoxes" 269 y_Pl_sampleShown ∈ ALL := tb4 96 (by decide +kernel) rfl
theorem inst_Pl_sampleShown : Cond.instanceMethod y_Pl_sampleShown ∈ ALL := tb4 97 (by decide +kernel) rfl
theorem sel_Pl_sampleShown : Cond.selects "FileBoxes$Plan" y_Pl_sampleShown y_Pl_sampleShown ∈ ALL := tb4 98 (by decide +kernel) rfl
theorem code_Pl_sampleShown : Cond.code y_Pl_sampleShown b_Pl_sampleShown 4 (some .long) ∈ ALL := tb4 99 rfl rfl
theorem lk_Pl_90 : Cond.methodLink "FileBoxes$Plan" 90 y_Li_part ∈ ALL := tb4 100 (by decide +kernel) rfl
theorem lk_Pl_97 : Cond.methodLink "FileBoxes$Plan" 97 ⟨"java/lang/Math", "min", "(II)I"⟩ ∈ ALL := tb4 101 (by decide +kernel) rfl
theorem lk_Pl_102 : Cond.methodLink "FileBoxes$Plan" 102 ⟨"java/lang/Math", "max", "(II)I"⟩ ∈ ALL := tb4 102 (by decide +kernel) rfl
theorem lk_Pl_105 : Cond.methodLink "FileBoxes$Plan" 105 y_Pa_numberAt ∈ ALL := tb4 103 (by decide +kernel) rfl
theorem lk_La_148 : Cond.methodLink "FileBoxesLaw" 148 y_La_put ∈ ALL := tb4 104 (by decide +kernel) rfl
theorem stat_La_put : Cond.static y_La_put ∈ ALL := tb4 105 (by decide +kernel) rfl
theorem lk_La_65 : Cond.methodLink "FileBoxesLaw" 65 y_FB_put ∈ ALL := tb4 107 (by decide +kernel) rfl
theorem inst_FB_put : Cond.instanceMethod y_FB_put ∈ ALL := tb4 108 (by decide +kernel) rfl
theorem sel_FB_put : Cond.selects "FileBoxes" y_FB_put y_FB_put ∈ ALL := tb4 109 (by decide +kernel) rfl
theorem code_FB_put : Cond.code y_FB_put b_FB_put 2 (some .int) ∈ ALL := tb4 110 rfl rfl
theorem lk_La_151 : Cond.methodLink "FileBoxesLaw" 151 y_La_at ∈ ALL := tb4 112 (by decide +kernel) rfl
theorem stat_La_at : Cond.static y_La_at ∈ ALL := tb4 113 (by decide +kernel) rfl
theorem lk_La_68 : Cond.methodLink "FileBoxesLaw" 68 y_FB_at ∈ ALL := tb4 115 (by decide +kernel) rfl
theorem inst_FB_at : Cond.instanceMethod y_FB_at ∈ ALL := tb4 116 (by decide +kernel) rfl
theorem sel_FB_at : Cond.selects "FileBoxes" y_FB_at y_FB_at ∈ ALL := tb4 117 (by decide +kernel) rfl
theorem code_FB_at : Cond.code y_FB_at b_FB_at 2 (some .int) ∈ ALL := tb4 118 rfl rfl
theorem lk_La_154 : Cond.methodLink "FileBoxesLaw" 154 y_La_spoil ∈ ALL := tb4 120 (by decide +kernel) rfl
theorem stat_La_spoil : Cond.static y_La_spoil ∈ ALL := tb4 121 (by decide +kernel) rfl
theorem lk_La_71 : Cond.methodLink "FileBoxesLaw" 71 y_FB_spoil ∈ ALL := tb4 123 (by decide +kernel) rfl
theorem inst_FB_spoil : Cond.instanceMethod y_FB_spoil ∈ ALL := tb4 124 (by decide +kernel) rfl
theorem sel_FB_spoil : Cond.selects "FileBoxes" y_FB_spoil y_FB_spoil ∈ ALL := tb4 125 (by decide +kernel) rfl
theorem code_FB_spoil : Cond.code y_FB_spoil b_FB_spoil 3 none ∈ ALL := tb4 126 rfl rfl
theorem lk_FB_276 : Cond.methodLink "FileBoxes" 276 y_By_setByte ∈ ALL := tb4 127 (by decide +kernel) rfl
theorem inst_By_setByte : Cond.instanceMethod y_By_setByte ∈ ALL := tb4 128 (by decide +kernel) rfl
theorem sel_By_setByte : Cond.selects "FileBoxes$Bytes" y_By_setByte y_By_setByte ∈ ALL := tb4 129 (by decide +kernel) rfl
theorem code_By_setByte : Cond.code y_By_setByte b_By_setByte 3 none ∈ ALL := tb4 130 rfl rfl
theorem lk_La_157 : Cond.methodLink "FileBoxesLaw" 157 y_La_write ∈ ALL := tb4 131 (by decide +kernel) rfl
theorem stat_La_write : Cond.static y_La_write ∈ ALL := tb4 132 (by decide +kernel) rfl
theorem lk_La_74 : Cond.methodLink "FileBoxesLaw" 74 y_FB_write ∈ ALL := tb4 134 (by decide +kernel) rfl
theorem inst_FB_write : Cond.instanceMethod y_FB_write ∈ ALL := tb4 135 (by decide +kernel) rfl
theorem sel_FB_write : Cond.selects "FileBoxes" y_FB_write y_FB_write ∈ ALL := tb4 136 (by decide +kernel) rfl
theorem code_FB_write : Cond.code y_FB_write b_FB_write 4 (some .int) ∈ ALL := tb4 137 rfl rfl
theorem lk_FB_281 : Cond.methodLink "FileBoxes" 281 y_Pl_canBeWritten ∈ ALL := tb4 139 (by decide +kernel) rfl
theorem inst_Pl_canBeWritten : Cond.instanceMethod y_Pl_canBeWritten ∈ ALL := tb4 140 (by decide +kernel) rfl
theorem sel_Pl_canBeWritten : Cond.selects "FileBoxes$Plan" y_Pl_canBeWritten y_Pl_canBeWritten ∈ ALL := tb4 141 (by decide +kernel) rfl
theorem code_Pl_canBeWritten : Cond.code y_Pl_canBeWritten b_Pl_canBeWritten 3 (some .boolean) ∈ ALL := tb4 142 rfl rfl
theorem lk_Pl_113 : Cond.methodLink "FileBoxes$Plan" 113 y_Li_allFirstBelow ∈ ALL := tb4 143 (by decide +kernel) rfl
theorem lk_Pl_117 : Cond.methodLink "FileBoxes$Plan" 117 y_Pl_channelCount ∈ ALL := tb4 144 (by decide +kernel) rfl
theorem lk_FB_287 : Cond.methodLink "FileBoxes" 287 y_Wr_lengthOfAll ∈ ALL := tb4 146 (by decide +kernel) rfl
theorem stat_Wr_lengthOfAll : Cond.static y_Wr_lengthOfAll ∈ ALL := tb4 147 (by decide +kernel) rfl
theorem code_Wr_lengthOfAll : Cond.code y_Wr_lengthOfAll b_Wr_lengthOfAll 2 (some .int) ∈ ALL := tb4 148 rfl rfl
theorem lk_Wr_15 : Cond.methodLink "FileBoxes$Writer" 15 y_Wr_lengthOfHead ∈ ALL := tb4 149 (by decide +kernel) rfl
theorem stat_Wr_lengthOfHead : Cond.static y_Wr_lengthOfHead ∈ ALL := tb4 150 (by decide +kernel) rfl
theorem code_Wr_lengthOfHead : Cond.code y_Wr_lengthOfHead b_Wr_lengthOfHead 1 (some .int) ∈ ALL := tb4 151 rfl rfl
theorem lk_Wr_19 : Cond.methodLink "FileBoxes$Writer" 19 y_Wr_lengthOfBits ∈ ALL := tb4 152 (by decide +kernel) rfl
theorem stat_Wr_lengthOfBits : Cond.static y_Wr_lengthOfBits ∈ ALL := tb4 153 (by decide +kernel) rfl
theorem code_Wr_lengthOfBits : Cond.code y_Wr_lengthOfBits b_Wr_lengthOfBits 1 (some .int) ∈ ALL := tb4 154 rfl rfl
theorem lk_Wr_37 : Cond.methodLink "FileBoxes$Writer" 37 y_Pl_bitsAreAlike ∈ ALL := tb4 155 (by decide +kernel) rfl
theorem inst_Pl_bitsAreAlike : Cond.instanceMethod y_Pl_bitsAreAlike ∈ ALL := tb4 156 (by decide +kernel) rfl
theorem sel_Pl_bitsAreAlike : Cond.selects "FileBoxes$Plan" y_Pl_bitsAreAlike y_Pl_bitsAreAlike ∈ ALL := tb4 157 (by decide +kernel) rfl
theorem code_Pl_bitsAreAlike : Cond.code y_Pl_bitsAreAlike b_Pl_bitsAreAlike 2 (some .boolean) ∈ ALL := tb4 158 rfl rfl
theorem nk_Pl_109 : Cond.methodLinkNest "FileBoxes$Plan" 109 y_FB_valueIn "FileBoxes" ∈ NWL := List.mem_of_getElem? (i := 10) (by decide +kernel)
theorem lk_Wr_22 : Cond.methodLink "FileBoxes$Writer" 22 y_Wr_lengthOfColour ∈ ALL := tb4 160 (by decide +kernel) rfl
theorem stat_Wr_lengthOfColour : Cond.static y_Wr_lengthOfColour ∈ ALL := tb4 161 (by decide +kernel) rfl
theorem code_Wr_lengthOfColour : Cond.code y_Wr_lengthOfColour b_Wr_lengthOfColour 1 (some .int) ∈ ALL := tb4 162 rfl rfl
theorem lk_Wr_25 : Cond.methodLink "FileBoxes$Writer" 25 y_Wr_lengthOfPalette ∈ ALL := tb4 163 (by decide +kernel) rfl
theorem stat_Wr_lengthOfPalette : Cond.static y_Wr_lengthOfPalette ∈ ALL := tb4 164 (by decide +kernel) rfl
theorem code_Wr_lengthOfPalette : Cond.code y_Wr_lengthOfPalette b_Wr_lengthOfPalette 2 (some .int) ∈ ALL := tb4 165 rfl rfl
theorem lk_Wr_71 : Cond.methodLink "FileBoxes$Writer" 71 y_Pa_entryLength ∈ ALL := tb4 166 (by decide +kernel) rfl
theorem inst_Pa_entryLength : Cond.instanceMethod y_Pa_entryLength ∈ ALL := tb4 167 (by decide +kernel) rfl
theorem sel_Pa_entryLength : Cond.selects "FileBoxes$Palette" y_Pa_entryLength y_Pa_entryLength ∈ ALL := tb4 168 (by decide +kernel) rfl
theorem code_Pa_entryLength : Cond.code y_Pa_entryLength b_Pa_entryLength 3 (some .int) ∈ ALL := tb4 169 rfl rfl
theorem nk_Pa_44 : Cond.methodLinkNest "FileBoxes$Palette" 44 y_FB_valueIn "FileBoxes" ∈ NWL := List.mem_of_getElem? (i := 11) (by decide +kernel)
theorem nk_Pa_48 : Cond.methodLinkNest "FileBoxes$Palette" 48 y_FB_bytesFor "FileBoxes" ∈ NWL := List.mem_of_getElem? (i := 12) (by decide +kernel)
theorem lk_Wr_28 : Cond.methodLink "FileBoxes$Writer" 28 y_Wr_lengthOfMap ∈ ALL := tb4 172 (by decide +kernel) rfl
theorem stat_Wr_lengthOfMap : Cond.static y_Wr_lengthOfMap ∈ ALL := tb4 173 (by decide +kernel) rfl
theorem code_Wr_lengthOfMap : Cond.code y_Wr_lengthOfMap b_Wr_lengthOfMap 1 (some .int) ∈ ALL := tb4 174 rfl rfl
theorem lk_Wr_31 : Cond.methodLink "FileBoxes$Writer" 31 y_Wr_lengthOfMeanings ∈ ALL := tb4 175 (by decide +kernel) rfl
theorem stat_Wr_lengthOfMeanings : Cond.static y_Wr_lengthOfMeanings ∈ ALL := tb4 176 (by decide +kernel) rfl
theorem code_Wr_lengthOfMeanings : Cond.code y_Wr_lengthOfMeanings b_Wr_lengthOfMeanings 1 (some .int) ∈ ALL := tb4 177 rfl rfl
theorem lk_Wr_34 : Cond.methodLink "FileBoxes$Writer" 34 y_Wr_lengthOfResolution ∈ ALL := tb4 178 (by decide +kernel) rfl
theorem stat_Wr_lengthOfResolution : Cond.static y_Wr_lengthOfResolution ∈ ALL := tb4 179 (by decide +kernel) rfl
theorem code_Wr_lengthOfResolution : Cond.code y_Wr_lengthOfResolution b_Wr_lengthOfResolution 2 (some .int) ∈ ALL := tb4 180 rfl rfl
theorem lk_Wr_89 : Cond.methodLink "FileBoxes$Writer" 89 y_Wr_lengthOfRatio ∈ ALL := tb4 181 (by decide +kernel) rfl
theorem stat_Wr_lengthOfRatio : Cond.static y_Wr_lengthOfRatio ∈ ALL := tb4 182 (by decide +kernel) rfl
theorem code_Wr_lengthOfRatio : Cond.code y_Wr_lengthOfRatio b_Wr_lengthOfRatio 1 (some .int) ∈ ALL := tb4 183 rfl rfl
theorem nk_Wr_96 : Cond.methodLinkNest "FileBoxes$Writer" 96 y_FB_valueIn "FileBoxes" ∈ NWL := List.mem_of_getElem? (i := 13) (by decide +kernel)
theorem lk_FB_293 : Cond.methodLink "FileBoxes" 293 y_Wr_putAll ∈ ALL := tb4 186 (by decide +kernel) rfl
theorem inst_Wr_putAll : Cond.instanceMethod y_Wr_putAll ∈ ALL := tb4 187 (by decide +kernel) rfl
theorem sel_Wr_putAll : Cond.selects "FileBoxes$Writer" y_Wr_putAll y_Wr_putAll ∈ ALL := tb4 188 (by decide +kernel) rfl
theorem code_Wr_putAll : Cond.code y_Wr_putAll b_Wr_putAll 4 none ∈ ALL := tb4 189 rfl rfl
theorem lk_Wr_100 : Cond.constant "FileBoxes$Writer" 100 1783636000 ∈ ALL := tb4 190 (by decide +kernel) rfl
theorem lk_Wr_101 : Cond.methodLink "FileBoxes$Writer" 101 y_Wr_begin ∈ ALL := tb4 191 (by decide +kernel) rfl
theorem inst_Wr_begin : Cond.instanceMethod y_Wr_begin ∈ ALL := tb4 193 (by decide +kernel) rfl
theorem code_Wr_begin : Cond.code y_Wr_begin b_Wr_begin 3 none ∈ ALL := tb4 194 rfl rfl
theorem lk_Wr_107 : Cond.methodLink "FileBoxes$Writer" 107 y_By_addNumber ∈ ALL := tb4 195 (by decide +kernel) rfl
theorem inst_By_addNumber : Cond.instanceMethod y_By_addNumber ∈ ALL := tb4 196 (by decide +kernel) rfl
theorem sel_By_addNumber : Cond.selects "FileBoxes$Bytes" y_By_addNumber y_By_addNumber ∈ ALL := tb4 197 (by decide +kernel) rfl
theorem code_By_addNumber : Cond.code y_By_addNumber b_By_addNumber 5 none ∈ ALL := tb4 198 rfl rfl
theorem lk_By_35 : Cond.methodLink "FileBoxes$Bytes" 35 y_By_add ∈ ALL := tb4 199 (by decide +kernel) rfl
theorem lk_Wr_105 : Cond.constantLong "FileBoxes$Writer" 105 218793738 ∈ ALL := tb4 200 (by decide +kernel) rfl
theorem lk_Wr_111 : Cond.constant "FileBoxes$Writer" 111 1718909296 ∈ ALL := tb4 201 (by decide +kernel) rfl
theorem lk_Wr_112 : Cond.constantLong "FileBoxes$Writer" 112 1785737760 ∈ ALL := tb4 202 (by decide +kernel) rfl
theorem lk_Wr_114 : Cond.methodLink "FileBoxes$Writer" 114 y_Wr_putHead ∈ ALL := tb4 203 (by decide +kernel) rfl
theorem inst_Wr_putHead : Cond.instanceMethod y_Wr_putHead ∈ ALL := tb4 205 (by decide +kernel) rfl
theorem code_Wr_putHead : Cond.code y_Wr_putHead b_Wr_putHead 2 none ∈ ALL := tb4 206 rfl rfl
theorem lk_Wr_119 : Cond.constant "FileBoxes$Writer" 119 1785737832 ∈ ALL := tb4 207 (by decide +kernel) rfl
theorem lk_Wr_120 : Cond.methodLink "FileBoxes$Writer" 120 y_Wr_putSize ∈ ALL := tb4 208 (by decide +kernel) rfl
theorem inst_Wr_putSize : Cond.instanceMethod y_Wr_putSize ∈ ALL := tb4 210 (by decide +kernel) rfl
theorem code_Wr_putSize : Cond.code y_Wr_putSize b_Wr_putSize 2 none ∈ ALL := tb4 211 rfl rfl
theorem lk_Wr_141 : Cond.constant "FileBoxes$Writer" 141 1768449138 ∈ ALL := tb4 212 (by decide +kernel) rfl
theorem lk_Wr_151 : Cond.methodLink "FileBoxes$Writer" 151 y_By_add ∈ ALL := tb4 213 (by decide +kernel) rfl
theorem lk_Wr_123 : Cond.methodLink "FileBoxes$Writer" 123 y_Wr_putBits ∈ ALL := tb4 214 (by decide +kernel) rfl
theorem inst_Wr_putBits : Cond.instanceMethod y_Wr_putBits ∈ ALL := tb4 216 (by decide +kernel) rfl
theorem code_Wr_putBits : Cond.code y_Wr_putBits b_Wr_putBits 4 none ∈ ALL := tb4 217 rfl rfl
theorem lk_Wr_161 : Cond.constant "FileBoxes$Writer" 161 1651532643 ∈ ALL := tb4 218 (by decide +kernel) rfl
theorem lk_Wr_126 : Cond.methodLink "FileBoxes$Writer" 126 y_Wr_putColour ∈ ALL := tb4 219 (by decide +kernel) rfl
theorem inst_Wr_putColour : Cond.instanceMethod y_Wr_putColour ∈ ALL := tb4 221 (by decide +kernel) rfl
theorem code_Wr_putColour : Cond.code y_Wr_putColour b_Wr_putColour 3 none ∈ ALL := tb4 222 rfl rfl
theorem lk_Wr_162 : Cond.constant "FileBoxes$Writer" 162 1668246642 ∈ ALL := tb4 223 (by decide +kernel) rfl
theorem lk_Wr_166 : Cond.methodLink "FileBoxes$Writer" 166 y_By_byteAt ∈ ALL := tb4 224 (by decide +kernel) rfl
theorem lk_Wr_129 : Cond.methodLink "FileBoxes$Writer" 129 y_Wr_putPalette ∈ ALL := tb4 225 (by decide +kernel) rfl
theorem inst_Wr_putPalette : Cond.instanceMethod y_Wr_putPalette ∈ ALL := tb4 227 (by decide +kernel) rfl
theorem code_Wr_putPalette : Cond.code y_Wr_putPalette b_Wr_putPalette 5 none ∈ ALL := tb4 228 rfl rfl
theorem lk_Wr_170 : Cond.constant "FileBoxes$Writer" 170 1885564018 ∈ ALL := tb4 229 (by decide +kernel) rfl
theorem lk_Wr_172 : Cond.methodLink "FileBoxes$Writer" 172 y_Wr_putEntry ∈ ALL := tb4 230 (by decide +kernel) rfl
theorem inst_Wr_putEntry : Cond.instanceMethod y_Wr_putEntry ∈ ALL := tb4 232 (by decide +kernel) rfl
theorem code_Wr_putEntry : Cond.code y_Wr_putEntry b_Wr_putEntry 7 none ∈ ALL := tb4 233 rfl rfl
theorem lk_Wr_176 : Cond.methodLink "FileBoxes$Writer" 176 y_Pa_numberAt ∈ ALL := tb4 234 (by decide +kernel) rfl
theorem nk_Wr_180 : Cond.methodLinkNest "FileBoxes$Writer" 180 y_FB_lowestBits "FileBoxes" ∈ NWL := List.mem_of_getElem? (i := 14) (by decide +kernel)
theorem nk_Wr_184 : Cond.methodLinkNest "FileBoxes$Writer" 184 y_FB_bytesFor "FileBoxes" ∈ NWL := List.mem_of_getElem? (i := 15) (by decide +kernel)
theorem lk_Wr_132 : Cond.methodLink "FileBoxes$Writer" 132 y_Wr_putMap ∈ ALL := tb4 237 (by decide +kernel) rfl
theorem inst_Wr_putMap : Cond.instanceMethod y_Wr_putMap ∈ ALL := tb4 239 (by decide +kernel) rfl
theorem code_Wr_putMap : Cond.code y_Wr_putMap b_Wr_putMap 4 none ∈ ALL := tb5 0 rfl rfl
theorem lk_Wr_187 : Cond.constant "FileBoxes$Writer" 187 1668112752 ∈ ALL := tb5 1 (by decide +kernel) rfl
theorem lk_Wr_188 : Cond.methodLink "FileBoxes$Writer" 188 y_Li_part ∈ ALL := tb5 2 (by decide +kernel) rfl
theorem lk_Wr_135 : Cond.methodLink "FileBoxes$Writer" 135 y_Wr_putMeanings ∈ ALL := tb5 3 (by decide +kernel) rfl
theorem inst_Wr_putMeanings : Cond.instanceMethod y_Wr_putMeanings ∈ ALL := tb5 5 (by decide +kernel) rfl
theorem code_Wr_putMeanings : Cond.code y_Wr_putMeanings b_Wr_putMeanings 4 none ∈ ALL := tb5 6 rfl rfl
theorem lk_Wr_192 : Cond.constant "FileBoxes$Writer" 192 1667523942 ∈ ALL := tb5 7 (by decide +kernel) rfl
theorem lk_Wr_138 : Cond.methodLink "FileBoxes$Writer" 138 y_Wr_putResolution ∈ ALL := tb5 8 (by decide +kernel) rfl
theorem inst_Wr_putResolution : Cond.instanceMethod y_Wr_putResolution ∈ ALL := tb5 10 (by decide +kernel) rfl
theorem code_Wr_putResolution : Cond.code y_Wr_putResolution b_Wr_putResolution 3 none ∈ ALL := tb5 11 rfl rfl
theorem lk_Wr_193 : Cond.constant "FileBoxes$Writer" 193 1919251232 ∈ ALL := tb5 12 (by decide +kernel) rfl
theorem lk_Wr_194 : Cond.constant "FileBoxes$Writer" 194 1919251299 ∈ ALL := tb5 13 (by decide +kernel) rfl
theorem lk_Wr_195 : Cond.methodLink "FileBoxes$Writer" 195 y_Wr_putRatio ∈ ALL := tb5 14 (by decide +kernel) rfl
theorem inst_Wr_putRatio : Cond.instanceMethod y_Wr_putRatio ∈ ALL := tb5 16 (by decide +kernel) rfl
theorem code_Wr_putRatio : Cond.code y_Wr_putRatio b_Wr_putRatio 5 none ∈ ALL := tb5 17 rfl rfl
theorem lk_Wr_199 : Cond.constant "FileBoxes$Writer" 199 1919251300 ∈ ALL := tb5 18 (by decide +kernel) rfl
theorem lk_Wr_118 : Cond.constant "FileBoxes$Writer" 118 1785737827 ∈ ALL := tb5 19 (by decide +kernel) rfl
theorem lk_La_169 : Cond.methodLink "FileBoxesLaw" 169 y_La_stream ∈ ALL := tb5 20 (by decide +kernel) rfl
theorem stat_La_stream : Cond.static y_La_stream ∈ ALL := tb5 21 (by decide +kernel) rfl
theorem lk_La_78 : Cond.methodLink "FileBoxesLaw" 78 y_FB_stream ∈ ALL := tb5 23 (by decide +kernel) rfl
theorem inst_FB_stream : Cond.instanceMethod y_FB_stream ∈ ALL := tb5 24 (by decide +kernel) rfl
theorem sel_FB_stream : Cond.selects "FileBoxes" y_FB_stream y_FB_stream ∈ ALL := tb5 25 (by decide +kernel) rfl
theorem code_FB_stream : Cond.code y_FB_stream b_FB_stream 2 (some .int) ∈ ALL := tb5 26 rfl rfl
theorem lk_La_82 : Cond.classLink "FileBoxesLaw" 82 "FileBoxesModel" ∈ ALL := tb5 28 (by decide +kernel) rfl
theorem ins_Mo : Cond.instantiable "FileBoxesModel" 40 ∈ ALL := tb5 29 (by decide +kernel) rfl
theorem lk_La_84 : Cond.methodLink "FileBoxesLaw" 84 y_Mo_init ∈ ALL := tb5 30 (by decide +kernel) rfl
theorem inst_Mo_init : Cond.instanceMethod y_Mo_init ∈ ALL := tb5 31 (by decide +kernel) rfl
theorem code_Mo_init : Cond.code y_Mo_init b_Mo_init 1 none ∈ ALL := tb5 32 rfl rfl
theorem lk_Mo_1 : Cond.methodLink "FileBoxesModel" 1 ⟨"java/lang/Object", "<init>", "()V"⟩ ∈ ALL := tb5 33 (by decide +kernel) rfl
theorem lk_Mo_36 : Cond.constant "FileBoxesModel" 36 65536 ∈ ALL := tb5 34 (by decide +kernel) rfl
theorem lk_Mo_43 : Cond.fieldLink "FileBoxesModel" 43 "FileBoxesModel" "thrown" "I" ∈ ALL := tb5 35 (by decide +kernel) rfl
theorem lk_Mo_49 : Cond.fieldLink "FileBoxesModel" 49 "FileBoxesModel" "high" "I" ∈ ALL := tb5 36 (by decide +kernel) rfl
theorem lk_Mo_52 : Cond.fieldLink "FileBoxesModel" 52 "FileBoxesModel" "wide" "I" ∈ ALL := tb5 37 (by decide +kernel) rfl
theorem lk_Mo_55 : Cond.fieldLink "FileBoxesModel" 55 "FileBoxesModel" "components" "I" ∈ ALL := tb5 38 (by decide +kernel) rfl
theorem lk_Mo_7 : Cond.fieldLink "FileBoxesModel" 7 "FileBoxesModel" "bits" "[I" ∈ ALL := tb5 39 (by decide +kernel) rfl
theorem lk_Mo_58 : Cond.fieldLink "FileBoxesModel" 58 "FileBoxesModel" "unknown" "I" ∈ ALL := tb5 40 (by decide +kernel) rfl
theorem lk_Mo_61 : Cond.fieldLink "FileBoxesModel" 61 "FileBoxesModel" "rights" "I" ∈ ALL := tb5 41 (by decide +kernel) rfl
theorem lk_Mo_64 : Cond.fieldLink "FileBoxesModel" 64 "FileBoxesModel" "colours" "I" ∈ ALL := tb5 42 (by decide +kernel) rfl
theorem lk_Mo_13 : Cond.fieldLink "FileBoxesModel" 13 "FileBoxesModel" "profiled" "I" ∈ ALL := tb5 43 (by decide +kernel) rfl
theorem lk_Mo_17 : Cond.fieldLink "FileBoxesModel" 17 "FileBoxesModel" "profile" "[I" ∈ ALL := tb5 44 (by decide +kernel) rfl
theorem lk_Mo_67 : Cond.fieldLink "FileBoxesModel" 67 "FileBoxesModel" "entries" "I" ∈ ALL := tb5 45 (by decide +kernel) rfl
theorem lk_Mo_70 : Cond.fieldLink "FileBoxesModel" 70 "FileBoxesModel" "columns" "I" ∈ ALL := tb5 46 (by decide +kernel) rfl
theorem lk_Mo_20 : Cond.fieldLink "FileBoxesModel" 20 "FileBoxesModel" "columnBits" "[I" ∈ ALL := tb5 47 (by decide +kernel) rfl
theorem lk_Mo_23 : Cond.fieldLink "FileBoxesModel" 23 "FileBoxesModel" "numbers" "[J" ∈ ALL := tb5 48 (by decide +kernel) rfl
theorem lk_Mo_73 : Cond.fieldLink "FileBoxesModel" 73 "FileBoxesModel" "maps" "I" ∈ ALL := tb5 49 (by decide +kernel) rfl
theorem lk_Mo_27 : Cond.fieldLink "FileBoxesModel" 27 "FileBoxesModel" "map" "[I" ∈ ALL := tb5 50 (by decide +kernel) rfl
theorem lk_Mo_76 : Cond.fieldLink "FileBoxesModel" 76 "FileBoxesModel" "lines" "I" ∈ ALL := tb5 51 (by decide +kernel) rfl
theorem lk_Mo_30 : Cond.fieldLink "FileBoxesModel" 30 "FileBoxesModel" "line" "[I" ∈ ALL := tb5 52 (by decide +kernel) rfl
theorem lk_Mo_33 : Cond.fieldLink "FileBoxesModel" 33 "FileBoxesModel" "resolutions" "[I" ∈ ALL := tb5 53 (by decide +kernel) rfl
theorem lk_Mo_37 : Cond.fieldLink "FileBoxesModel" 37 "FileBoxesModel" "file" "[I" ∈ ALL := tb5 54 (by decide +kernel) rfl
theorem lk_Mo_143 : Cond.fieldLink "FileBoxesModel" 143 "FileBoxesModel" "size" "I" ∈ ALL := tb5 55 (by decide +kernel) rfl
theorem lk_Mo_146 : Cond.fieldLink "FileBoxesModel" 146 "FileBoxesModel" "scanned" "Z" ∈ ALL := tb5 56 (by decide +kernel) rfl
theorem lk_Mo_40 : Cond.fieldLink "FileBoxesModel" 40 "FileBoxesModel" "refusedAt" "I" ∈ ALL := tb5 57 (by decide +kernel) rfl
theorem lk_Mo_150 : Cond.fieldLink "FileBoxesModel" 150 "FileBoxesModel" "cursor" "I" ∈ ALL := tb5 58 (by decide +kernel) rfl
theorem lk_Mo_319 : Cond.fieldLink "FileBoxesModel" 319 "FileBoxesModel" "streamAt" "I" ∈ ALL := tb5 59 (by decide +kernel) rfl
theorem lk_Mo_322 : Cond.fieldLink "FileBoxesModel" 322 "FileBoxesModel" "streamMany" "I" ∈ ALL := tb5 60 (by decide +kernel) rfl
theorem lk_Mo_216 : Cond.fieldLink "FileBoxesModel" 216 "FileBoxesModel" "name" "I" ∈ ALL := tb5 61 (by decide +kernel) rfl
theorem lk_Mo_219 : Cond.fieldLink "FileBoxesModel" 219 "FileBoxesModel" "from" "I" ∈ ALL := tb5 62 (by decide +kernel) rfl
theorem lk_Mo_222 : Cond.fieldLink "FileBoxesModel" 222 "FileBoxesModel" "end" "I" ∈ ALL := tb5 63 (by decide +kernel) rfl
theorem lk_Mo_226 : Cond.fieldLink "FileBoxesModel" 226 "FileBoxesModel" "sizeAt" "I" ∈ ALL := tb5 64 (by decide +kernel) rfl
theorem lk_Mo_238 : Cond.fieldLink "FileBoxesModel" 238 "FileBoxesModel" "bitsAt" "I" ∈ ALL := tb5 65 (by decide +kernel) rfl
theorem lk_Mo_252 : Cond.fieldLink "FileBoxesModel" 252 "FileBoxesModel" "colourAt" "I" ∈ ALL := tb5 66 (by decide +kernel) rfl
theorem lk_Mo_261 : Cond.fieldLink "FileBoxesModel" 261 "FileBoxesModel" "colourEnd" "I" ∈ ALL := tb5 67 (by decide +kernel) rfl
theorem lk_Mo_235 : Cond.fieldLink "FileBoxesModel" 235 "FileBoxesModel" "paletteAt" "I" ∈ ALL := tb5 68 (by decide +kernel) rfl
theorem lk_Mo_241 : Cond.fieldLink "FileBoxesModel" 241 "FileBoxesModel" "mapAt" "I" ∈ ALL := tb5 69 (by decide +kernel) rfl
theorem lk_Mo_264 : Cond.fieldLink "FileBoxesModel" 264 "FileBoxesModel" "mapEnd" "I" ∈ ALL := tb5 70 (by decide +kernel) rfl
theorem lk_Mo_244 : Cond.fieldLink "FileBoxesModel" 244 "FileBoxesModel" "channelsAt" "I" ∈ ALL := tb5 71 (by decide +kernel) rfl
theorem lk_Mo_271 : Cond.fieldLink "FileBoxesModel" 271 "FileBoxesModel" "captureAt" "I" ∈ ALL := tb5 72 (by decide +kernel) rfl
theorem lk_Mo_274 : Cond.fieldLink "FileBoxesModel" 274 "FileBoxesModel" "displayAt" "I" ∈ ALL := tb5 73 (by decide +kernel) rfl
theorem lk_Mo_247 : Cond.fieldLink "FileBoxesModel" 247 "FileBoxesModel" "resolved" "Z" ∈ ALL := tb5 74 (by decide +kernel) rfl
theorem lk_La_95 : Cond.methodLink "FileBoxesLaw" 95 y_Mo_thrown ∈ ALL := tb5 156 (by decide +kernel) rfl
theorem inst_Mo_thrown : Cond.instanceMethod y_Mo_thrown ∈ ALL := tb5 157 (by decide +kernel) rfl
theorem sel_Mo_thrown : Cond.selects "FileBoxesModel" y_Mo_thrown y_Mo_thrown ∈ ALL := tb5 158 (by decide +kernel) rfl
theorem code_Mo_thrown : Cond.code y_Mo_thrown b_Mo_thrown 1 (some .int) ∈ ALL := tb5 159 rfl rfl
theorem lk_La_88 : Cond.methodLink "FileBoxesLaw" 88 y_Mo_plan ∈ ALL := tb5 160 (by decide +kernel) rfl
theorem inst_Mo_plan : Cond.instanceMethod y_Mo_plan ∈ ALL := tb5 161 (by decide +kernel) rfl
theorem sel_Mo_plan : Cond.selects "FileBoxesModel" y_Mo_plan y_Mo_plan ∈ ALL := tb5 162 (by decide +kernel) rfl
theorem code_Mo_plan : Cond.code y_Mo_plan b_Mo_plan 1 none ∈ ALL := tb5 163 rfl rfl
theorem lk_Mo_46 : Cond.methodLink "FileBoxesModel" 46 y_Mo_empty ∈ ALL := tb5 164 (by decide +kernel) rfl
theorem inst_Mo_empty : Cond.instanceMethod y_Mo_empty ∈ ALL := tb5 166 (by decide +kernel) rfl
theorem code_Mo_empty : Cond.code y_Mo_empty b_Mo_empty 2 none ∈ ALL := tb5 167 rfl rfl
theorem lk_La_94 : Cond.methodLink "FileBoxesLaw" 94 y_Mo_size ∈ ALL := tb5 168 (by decide +kernel) rfl
theorem inst_Mo_size : Cond.instanceMethod y_Mo_size ∈ ALL := tb5 169 (by decide +kernel) rfl
theorem sel_Mo_size : Cond.selects "FileBoxesModel" y_Mo_size y_Mo_size ∈ ALL := tb5 170 (by decide +kernel) rfl
theorem code_Mo_size : Cond.code y_Mo_size b_Mo_size 8 none ∈ ALL := tb5 171 rfl rfl
theorem lk_Mo_79 : Cond.constantLong "FileBoxesModel" 79 16 ∈ ALL := tb5 172 (by decide +kernel) rfl
theorem lk_Mo_81 : Cond.methodLink "FileBoxesModel" 81 y_Mo_in ∈ ALL := tb5 173 (by decide +kernel) rfl
theorem stat_Mo_in : Cond.static y_Mo_in ∈ ALL := tb5 174 (by decide +kernel) rfl
theorem code_Mo_in : Cond.code y_Mo_in b_Mo_in 6 (some .boolean) ∈ ALL := tb5 175 rfl rfl
theorem lk_Mo_85 : Cond.methodLink "FileBoxesModel" 85 y_Mo_areBits ∈ ALL := tb5 176 (by decide +kernel) rfl
theorem stat_Mo_areBits : Cond.static y_Mo_areBits ∈ ALL := tb5 177 (by decide +kernel) rfl
theorem code_Mo_areBits : Cond.code y_Mo_areBits b_Mo_areBits 1 (some .boolean) ∈ ALL := tb5 178 rfl rfl
theorem lk_Mo_89 : Cond.methodLink "FileBoxesModel" 89 y_Mo_refuse ∈ ALL := tb5 179 (by decide +kernel) rfl
theorem inst_Mo_refuse : Cond.instanceMethod y_Mo_refuse ∈ ALL := tb5 181 (by decide +kernel) rfl
theorem code_Mo_refuse : Cond.code y_Mo_refuse b_Mo_refuse 2 (some .boolean) ∈ ALL := tb5 182 rfl rfl
theorem lk_La_102 : Cond.methodLink "FileBoxesLaw" 102 y_Mo_bits ∈ ALL := tb5 183 (by decide +kernel) rfl
theorem inst_Mo_bits : Cond.instanceMethod y_Mo_bits ∈ ALL := tb5 184 (by decide +kernel) rfl
theorem sel_Mo_bits : Cond.selects "FileBoxesModel" y_Mo_bits y_Mo_bits ∈ ALL := tb5 185 (by decide +kernel) rfl
theorem code_Mo_bits : Cond.code y_Mo_bits b_Mo_bits 3 none ∈ ALL := tb5 186 rfl rfl
theorem lk_La_106 : Cond.methodLink "FileBoxesLaw" 106 y_Mo_colours ∈ ALL := tb5 187 (by decide +kernel) rfl
theorem inst_Mo_colours : Cond.instanceMethod y_Mo_colours ∈ ALL := tb5 188 (by decide +kernel) rfl
theorem sel_Mo_colours : Cond.selects "FileBoxesModel" y_Mo_colours y_Mo_colours ∈ ALL := tb5 189 (by decide +kernel) rfl
theorem code_Mo_colours : Cond.code y_Mo_colours b_Mo_colours 2 none ∈ ALL := tb5 190 rfl rfl
theorem lk_Mo_92 : Cond.constantLong "FileBoxesModel" 92 18 ∈ ALL := tb5 191 (by decide +kernel) rfl
theorem lk_La_110 : Cond.methodLink "FileBoxesLaw" 110 y_Mo_profile ∈ ALL := tb5 192 (by decide +kernel) rfl
theorem inst_Mo_profile : Cond.instanceMethod y_Mo_profile ∈ ALL := tb5 193 (by decide +kernel) rfl
theorem sel_Mo_profile : Cond.selects "FileBoxesModel" y_Mo_profile y_Mo_profile ∈ ALL := tb5 194 (by decide +kernel) rfl
theorem code_Mo_profile : Cond.code y_Mo_profile b_Mo_profile 2 (some .int) ∈ ALL := tb5 195 rfl rfl
theorem lk_Mo_94 : Cond.constantLong "FileBoxesModel" 94 255 ∈ ALL := tb5 196 (by decide +kernel) rfl
theorem lk_La_113 : Cond.methodLink "FileBoxesLaw" 113 y_Mo_palette ∈ ALL := tb5 197 (by decide +kernel) rfl
theorem inst_Mo_palette : Cond.instanceMethod y_Mo_palette ∈ ALL := tb5 198 (by decide +kernel) rfl
theorem sel_Mo_palette : Cond.selects "FileBoxesModel" y_Mo_palette y_Mo_palette ∈ ALL := tb5 199 (by decide +kernel) rfl
theorem code_Mo_palette : Cond.code y_Mo_palette b_Mo_palette 4 none ∈ ALL := tb5 200 rfl rfl
theorem lk_Mo_96 : Cond.constantLong "FileBoxesModel" 96 1024 ∈ ALL := tb5 201 (by decide +kernel) rfl
theorem lk_Mo_98 : Cond.constantLong "FileBoxesModel" 98 8 ∈ ALL := tb5 202 (by decide +kernel) rfl
theorem lk_La_116 : Cond.methodLink "FileBoxesLaw" 116 y_Mo_column ∈ ALL := tb5 203 (by decide +kernel) rfl
theorem inst_Mo_column : Cond.instanceMethod y_Mo_column ∈ ALL := tb5 204 (by decide +kernel) rfl
theorem sel_Mo_column : Cond.selects "FileBoxesModel" y_Mo_column y_Mo_column ∈ ALL := tb5 205 (by decide +kernel) rfl
theorem code_Mo_column : Cond.code y_Mo_column b_Mo_column 3 none ∈ ALL := tb5 206 rfl rfl
theorem lk_La_122 : Cond.methodLink "FileBoxesLaw" 122 y_Mo_entry ∈ ALL := tb5 207 (by decide +kernel) rfl
theorem inst_Mo_entry : Cond.instanceMethod y_Mo_entry ∈ ALL := tb5 208 (by decide +kernel) rfl
theorem sel_Mo_entry : Cond.selects "FileBoxesModel" y_Mo_entry y_Mo_entry ∈ ALL := tb5 209 (by decide +kernel) rfl
theorem code_Mo_entry : Cond.code y_Mo_entry b_Mo_entry 10 none ∈ ALL := tb5 210 rfl rfl
theorem lk_Mo_100 : Cond.methodLink "FileBoxesModel" 100 y_Mo_isNumber ∈ ALL := tb5 211 (by decide +kernel) rfl
theorem inst_Mo_isNumber : Cond.instanceMethod y_Mo_isNumber ∈ ALL := tb5 213 (by decide +kernel) rfl
theorem code_Mo_isNumber : Cond.code y_Mo_isNumber b_Mo_isNumber 3 (some .boolean) ∈ ALL := tb5 214 rfl rfl
theorem lk_La_126 : Cond.methodLink "FileBoxesLaw" 126 y_Mo_map ∈ ALL := tb5 215 (by decide +kernel) rfl
theorem inst_Mo_map : Cond.instanceMethod y_Mo_map ∈ ALL := tb5 216 (by decide +kernel) rfl
theorem sel_Mo_map : Cond.selects "FileBoxesModel" y_Mo_map y_Mo_map ∈ ALL := tb5 217 (by decide +kernel) rfl
theorem code_Mo_map : Cond.code y_Mo_map b_Mo_map 5 (some .int) ∈ ALL := tb5 218 rfl rfl
theorem lk_Mo_104 : Cond.constantLong "FileBoxesModel" 104 15 ∈ ALL := tb5 219 (by decide +kernel) rfl
theorem lk_La_129 : Cond.methodLink "FileBoxesLaw" 129 y_Mo_channel ∈ ALL := tb5 220 (by decide +kernel) rfl
theorem inst_Mo_channel : Cond.instanceMethod y_Mo_channel ∈ ALL := tb5 221 (by decide +kernel) rfl
theorem sel_Mo_channel : Cond.selects "FileBoxesModel" y_Mo_channel y_Mo_channel ∈ ALL := tb5 222 (by decide +kernel) rfl
theorem code_Mo_channel : Cond.code y_Mo_channel b_Mo_channel 5 (some .int) ∈ ALL := tb5 223 rfl rfl
theorem lk_Mo_109 : Cond.methodLink "FileBoxesModel" 109 y_Mo_isType ∈ ALL := tb5 224 (by decide +kernel) rfl
theorem stat_Mo_isType : Cond.static y_Mo_isType ∈ ALL := tb5 225 (by decide +kernel) rfl
theorem code_Mo_isType : Cond.code y_Mo_isType b_Mo_isType 1 (some .boolean) ∈ ALL := tb5 226 rfl rfl
theorem lk_Mo_106 : Cond.constantLong "FileBoxesModel" 106 2 ∈ ALL := tb5 227 (by decide +kernel) rfl
theorem lk_Mo_108 : Cond.constant "FileBoxesModel" 108 65535 ∈ ALL := tb5 228 (by decide +kernel) rfl
theorem lk_Mo_112 : Cond.constantLong "FileBoxesModel" 112 65535 ∈ ALL := tb5 229 (by decide +kernel) rfl
theorem lk_Mo_114 : Cond.methodLink "FileBoxesModel" 114 y_Mo_isTold ∈ ALL := tb5 230 (by decide +kernel) rfl
theorem inst_Mo_isTold : Cond.instanceMethod y_Mo_isTold ∈ ALL := tb5 232 (by decide +kernel) rfl
theorem code_Mo_isTold : Cond.code y_Mo_isTold b_Mo_isTold 4 (some .boolean) ∈ ALL := tb5 233 rfl rfl
theorem lk_Mo_117 : Cond.methodLink "FileBoxesModel" 117 y_Mo_tell ∈ ALL := tb5 234 (by decide +kernel) rfl
theorem inst_Mo_tell : Cond.instanceMethod y_Mo_tell ∈ ALL := tb5 236 (by decide +kernel) rfl
theorem code_Mo_tell : Cond.code y_Mo_tell b_Mo_tell 4 none ∈ ALL := tb5 237 rfl rfl
theorem lk_La_133 : Cond.methodLink "FileBoxesLaw" 133 y_Mo_resolution ∈ ALL := tb5 238 (by decide +kernel) rfl
theorem inst_Mo_resolution : Cond.instanceMethod y_Mo_resolution ∈ ALL := tb5 239 (by decide +kernel) rfl
theorem sel_Mo_resolution : Cond.selects "FileBoxesModel" y_Mo_resolution y_Mo_resolution ∈ ALL := tb6 0 (by decide +kernel) rfl
theorem code_Mo_resolution : Cond.code y_Mo_resolution b_Mo_resolution 11 none ∈ ALL := tb6 1 rfl rfl
theorem lk_Mo_121 : Cond.constantLong "FileBoxesModel" 121 (-128) ∈ ALL := tb6 2 (by decide +kernel) rfl
theorem lk_Mo_123 : Cond.constantLong "FileBoxesModel" 123 127 ∈ ALL := tb6 3 (by decide +kernel) rfl
theorem lk_La_137 : Cond.methodLink "FileBoxesLaw" 137 y_Mo_get ∈ ALL := tb6 4 (by decide +kernel) rfl
theorem inst_Mo_get : Cond.instanceMethod y_Mo_get ∈ ALL := tb6 5 (by decide +kernel) rfl
theorem sel_Mo_get : Cond.selects "FileBoxesModel" y_Mo_get y_Mo_get ∈ ALL := tb6 6 (by decide +kernel) rfl
theorem code_Mo_get : Cond.code y_Mo_get b_Mo_get 5 (some .int) ∈ ALL := tb6 7 rfl rfl
theorem lk_Mo_125 : Cond.constantLong "FileBoxesModel" 125 10 ∈ ALL := tb6 8 (by decide +kernel) rfl
theorem lk_Mo_127 : Cond.constantLong "FileBoxesModel" 127 30 ∈ ALL := tb6 9 (by decide +kernel) rfl
theorem lk_Mo_129 : Cond.constantLong "FileBoxesModel" 129 35 ∈ ALL := tb6 10 (by decide +kernel) rfl
theorem lk_Mo_131 : Cond.constantLong "FileBoxesModel" 131 40 ∈ ALL := tb6 11 (by decide +kernel) rfl
theorem lk_Mo_133 : Cond.constantLong "FileBoxesModel" 133 45 ∈ ALL := tb6 12 (by decide +kernel) rfl
theorem lk_Mo_135 : Cond.methodLink "FileBoxesModel" 135 y_Mo_countOf ∈ ALL := tb6 13 (by decide +kernel) rfl
theorem inst_Mo_countOf : Cond.instanceMethod y_Mo_countOf ∈ ALL := tb6 15 (by decide +kernel) rfl
theorem code_Mo_countOf : Cond.code y_Mo_countOf b_Mo_countOf 2 (some .int) ∈ ALL := tb6 16 rfl rfl
theorem lk_Mo_139 : Cond.methodLink "FileBoxesModel" 139 y_Mo_told ∈ ALL := tb6 17 (by decide +kernel) rfl
theorem inst_Mo_told : Cond.instanceMethod y_Mo_told ∈ ALL := tb6 19 (by decide +kernel) rfl
theorem code_Mo_told : Cond.code y_Mo_told b_Mo_told 3 (some .int) ∈ ALL := tb6 20 rfl rfl
theorem lk_La_140 : Cond.methodLink "FileBoxesLaw" 140 y_Mo_number ∈ ALL := tb6 21 (by decide +kernel) rfl
theorem inst_Mo_number : Cond.instanceMethod y_Mo_number ∈ ALL := tb6 22 (by decide +kernel) rfl
theorem sel_Mo_number : Cond.selects "FileBoxesModel" y_Mo_number y_Mo_number ∈ ALL := tb6 23 (by decide +kernel) rfl
theorem code_Mo_number : Cond.code y_Mo_number b_Mo_number 3 (some .long) ∈ ALL := tb6 24 rfl rfl
theorem lk_La_143 : Cond.methodLink "FileBoxesLaw" 143 y_Mo_shown ∈ ALL := tb6 25 (by decide +kernel) rfl
theorem inst_Mo_shown : Cond.instanceMethod y_Mo_shown ∈ ALL := tb6 26 (by decide +kernel) rfl
theorem sel_Mo_shown : Cond.selects "FileBoxesModel" y_Mo_shown y_Mo_shown ∈ ALL := tb6 27 (by decide +kernel) rfl
theorem code_Mo_shown : Cond.code y_Mo_shown b_Mo_shown 5 (some .long) ∈ ALL := tb6 28 rfl rfl
theorem lk_La_147 : Cond.methodLink "FileBoxesLaw" 147 y_Mo_clear ∈ ALL := tb6 29 (by decide +kernel) rfl
theorem inst_Mo_clear : Cond.instanceMethod y_Mo_clear ∈ ALL := tb6 30 (by decide +kernel) rfl
theorem sel_Mo_clear : Cond.selects "FileBoxesModel" y_Mo_clear y_Mo_clear ∈ ALL := tb6 31 (by decide +kernel) rfl
theorem code_Mo_clear : Cond.code y_Mo_clear b_Mo_clear 1 none ∈ ALL := tb6 32 rfl rfl
theorem lk_La_150 : Cond.methodLink "FileBoxesLaw" 150 y_Mo_put ∈ ALL := tb6 33 (by decide +kernel) rfl
theorem inst_Mo_put : Cond.instanceMethod y_Mo_put ∈ ALL := tb6 34 (by decide +kernel) rfl
theorem sel_Mo_put : Cond.selects "FileBoxesModel" y_Mo_put y_Mo_put ∈ ALL := tb6 35 (by decide +kernel) rfl
theorem code_Mo_put : Cond.code y_Mo_put b_Mo_put 2 (some .int) ∈ ALL := tb6 36 rfl rfl
theorem lk_La_153 : Cond.methodLink "FileBoxesLaw" 153 y_Mo_at ∈ ALL := tb6 37 (by decide +kernel) rfl
theorem inst_Mo_at : Cond.instanceMethod y_Mo_at ∈ ALL := tb6 38 (by decide +kernel) rfl
theorem sel_Mo_at : Cond.selects "FileBoxesModel" y_Mo_at y_Mo_at ∈ ALL := tb6 39 (by decide +kernel) rfl
theorem code_Mo_at : Cond.code y_Mo_at b_Mo_at 2 (some .int) ∈ ALL := tb6 40 rfl rfl
theorem lk_La_156 : Cond.methodLink "FileBoxesLaw" 156 y_Mo_spoil ∈ ALL := tb6 41 (by decide +kernel) rfl
theorem inst_Mo_spoil : Cond.instanceMethod y_Mo_spoil ∈ ALL := tb6 42 (by decide +kernel) rfl
theorem sel_Mo_spoil : Cond.selects "FileBoxesModel" y_Mo_spoil y_Mo_spoil ∈ ALL := tb6 43 (by decide +kernel) rfl
theorem code_Mo_spoil : Cond.code y_Mo_spoil b_Mo_spoil 3 none ∈ ALL := tb6 44 rfl rfl
theorem lk_La_160 : Cond.methodLink "FileBoxesLaw" 160 y_Mo_write ∈ ALL := tb6 45 (by decide +kernel) rfl
theorem inst_Mo_write : Cond.instanceMethod y_Mo_write ∈ ALL := tb6 46 (by decide +kernel) rfl
theorem sel_Mo_write : Cond.selects "FileBoxesModel" y_Mo_write y_Mo_write ∈ ALL := tb6 47 (by decide +kernel) rfl
theorem code_Mo_write : Cond.code y_Mo_write b_Mo_write 5 (some .int) ∈ ALL := tb6 48 rfl rfl
theorem lk_Mo_193 : Cond.constantLong "FileBoxesModel" 193 65536 ∈ ALL := tb6 49 (by decide +kernel) rfl
theorem lk_Mo_195 : Cond.methodLink "FileBoxesModel" 195 y_Mo_isWhole ∈ ALL := tb6 50 (by decide +kernel) rfl
theorem inst_Mo_isWhole : Cond.instanceMethod y_Mo_isWhole ∈ ALL := tb6 52 (by decide +kernel) rfl
theorem code_Mo_isWhole : Cond.code y_Mo_isWhole b_Mo_isWhole 4 (some .boolean) ∈ ALL := tb6 53 rfl rfl
theorem lk_Mo_198 : Cond.constant "FileBoxesModel" 198 1783636000 ∈ ALL := tb6 54 (by decide +kernel) rfl
theorem lk_Mo_163 : Cond.methodLink "FileBoxesModel" 163 y_Mo_box ∈ ALL := tb6 55 (by decide +kernel) rfl
theorem inst_Mo_box : Cond.instanceMethod y_Mo_box ∈ ALL := tb6 57 (by decide +kernel) rfl
theorem code_Mo_box : Cond.code y_Mo_box b_Mo_box 3 none ∈ ALL := tb6 58 rfl rfl
theorem lk_Mo_153 : Cond.methodLink "FileBoxesModel" 153 y_Mo_add ∈ ALL := tb6 59 (by decide +kernel) rfl
theorem inst_Mo_add : Cond.instanceMethod y_Mo_add ∈ ALL := tb6 61 (by decide +kernel) rfl
theorem code_Mo_add : Cond.code y_Mo_add b_Mo_add 5 none ∈ ALL := tb6 62 rfl rfl
theorem lk_Mo_199 : Cond.constantLong "FileBoxesModel" 199 218793738 ∈ ALL := tb6 63 (by decide +kernel) rfl
theorem lk_Mo_201 : Cond.constant "FileBoxesModel" 201 1718909296 ∈ ALL := tb6 64 (by decide +kernel) rfl
theorem lk_Mo_202 : Cond.constantLong "FileBoxesModel" 202 1785737760 ∈ ALL := tb6 65 (by decide +kernel) rfl
theorem lk_Mo_204 : Cond.methodLink "FileBoxesModel" 204 y_Mo_addHead ∈ ALL := tb6 66 (by decide +kernel) rfl
theorem inst_Mo_addHead : Cond.instanceMethod y_Mo_addHead ∈ ALL := tb6 68 (by decide +kernel) rfl
theorem code_Mo_addHead : Cond.code y_Mo_addHead b_Mo_addHead 6 none ∈ ALL := tb6 69 rfl rfl
theorem lk_Mo_173 : Cond.methodLink "FileBoxesModel" 173 y_Mo_areAlike ∈ ALL := tb6 70 (by decide +kernel) rfl
theorem inst_Mo_areAlike : Cond.instanceMethod y_Mo_areAlike ∈ ALL := tb6 72 (by decide +kernel) rfl
theorem code_Mo_areAlike : Cond.code y_Mo_areAlike b_Mo_areAlike 3 (some .boolean) ∈ ALL := tb6 73 rfl rfl
theorem lk_Mo_160 : Cond.methodLink "FileBoxesModel" 160 y_Mo_isResolved ∈ ALL := tb6 74 (by decide +kernel) rfl
theorem inst_Mo_isResolved : Cond.instanceMethod y_Mo_isResolved ∈ ALL := tb6 76 (by decide +kernel) rfl
theorem code_Mo_isResolved : Cond.code y_Mo_isResolved b_Mo_isResolved 2 (some .boolean) ∈ ALL := tb6 77 rfl rfl
theorem lk_Mo_168 : Cond.methodLink "FileBoxesModel" 168 y_Mo_paletteSize ∈ ALL := tb6 78 (by decide +kernel) rfl
theorem inst_Mo_paletteSize : Cond.instanceMethod y_Mo_paletteSize ∈ ALL := tb6 80 (by decide +kernel) rfl
theorem code_Mo_paletteSize : Cond.code y_Mo_paletteSize b_Mo_paletteSize 3 (some .int) ∈ ALL := tb6 81 rfl rfl
theorem lk_Mo_157 : Cond.methodLink "FileBoxesModel" 157 y_Mo_bytesOf ∈ ALL := tb6 82 (by decide +kernel) rfl
theorem stat_Mo_bytesOf : Cond.static y_Mo_bytesOf ∈ ALL := tb6 83 (by decide +kernel) rfl
theorem code_Mo_bytesOf : Cond.code y_Mo_bytesOf b_Mo_bytesOf 1 (some .int) ∈ ALL := tb6 84 rfl rfl
theorem lk_Mo_177 : Cond.constant "FileBoxesModel" 177 1785737832 ∈ ALL := tb6 85 (by decide +kernel) rfl
theorem lk_Mo_178 : Cond.constant "FileBoxesModel" 178 1768449138 ∈ ALL := tb6 86 (by decide +kernel) rfl
theorem lk_Mo_179 : Cond.constantLong "FileBoxesModel" 179 7 ∈ ALL := tb6 87 (by decide +kernel) rfl
theorem lk_Mo_181 : Cond.constant "FileBoxesModel" 181 1651532643 ∈ ALL := tb6 88 (by decide +kernel) rfl
theorem lk_Mo_182 : Cond.constant "FileBoxesModel" 182 1668246642 ∈ ALL := tb6 89 (by decide +kernel) rfl
theorem lk_Mo_183 : Cond.methodLink "FileBoxesModel" 183 y_Mo_addPalette ∈ ALL := tb6 90 (by decide +kernel) rfl
theorem inst_Mo_addPalette : Cond.instanceMethod y_Mo_addPalette ∈ ALL := tb6 92 (by decide +kernel) rfl
theorem code_Mo_addPalette : Cond.code y_Mo_addPalette b_Mo_addPalette 5 none ∈ ALL := tb6 93 rfl rfl
theorem lk_Mo_167 : Cond.constant "FileBoxesModel" 167 1885564018 ∈ ALL := tb6 94 (by decide +kernel) rfl
theorem lk_Mo_172 : Cond.constant "FileBoxesModel" 172 1668112752 ∈ ALL := tb6 95 (by decide +kernel) rfl
theorem lk_Mo_186 : Cond.constant "FileBoxesModel" 186 1667523942 ∈ ALL := tb6 96 (by decide +kernel) rfl
theorem lk_Mo_187 : Cond.constant "FileBoxesModel" 187 1919251232 ∈ ALL := tb6 97 (by decide +kernel) rfl
theorem lk_Mo_188 : Cond.constant "FileBoxesModel" 188 1919251299 ∈ ALL := tb6 98 (by decide +kernel) rfl
theorem lk_Mo_189 : Cond.methodLink "FileBoxesModel" 189 y_Mo_addResolution ∈ ALL := tb6 99 (by decide +kernel) rfl
theorem inst_Mo_addResolution : Cond.instanceMethod y_Mo_addResolution ∈ ALL := tb6 101 (by decide +kernel) rfl
theorem code_Mo_addResolution : Cond.code y_Mo_addResolution b_Mo_addResolution 4 none ∈ ALL := tb6 102 rfl rfl
theorem lk_Mo_192 : Cond.constant "FileBoxesModel" 192 1919251300 ∈ ALL := tb6 103 (by decide +kernel) rfl
theorem lk_Mo_207 : Cond.constantLong "FileBoxesModel" 207 1785737827 ∈ ALL := tb6 104 (by decide +kernel) rfl
theorem lk_La_164 : Cond.methodLink "FileBoxesLaw" 164 y_Mo_scan ∈ ALL := tb6 105 (by decide +kernel) rfl
theorem inst_Mo_scan : Cond.instanceMethod y_Mo_scan ∈ ALL := tb6 106 (by decide +kernel) rfl
theorem sel_Mo_scan : Cond.selects "FileBoxesModel" y_Mo_scan y_Mo_scan ∈ ALL := tb6 107 (by decide +kernel) rfl
theorem code_Mo_scan : Cond.code y_Mo_scan b_Mo_scan 2 (some .int) ∈ ALL := tb6 108 rfl rfl
theorem lk_Mo_328 : Cond.methodLink "FileBoxesModel" 328 y_Mo_walk ∈ ALL := tb6 109 (by decide +kernel) rfl
theorem inst_Mo_walk : Cond.instanceMethod y_Mo_walk ∈ ALL := tb6 111 (by decide +kernel) rfl
theorem code_Mo_walk : Cond.code y_Mo_walk b_Mo_walk 7 (some .int) ∈ ALL := tb6 112 rfl rfl
theorem lk_Mo_312 : Cond.methodLink "FileBoxesModel" 312 y_Mo_forget ∈ ALL := tb6 113 (by decide +kernel) rfl
theorem inst_Mo_forget : Cond.instanceMethod y_Mo_forget ∈ ALL := tb6 115 (by decide +kernel) rfl
theorem code_Mo_forget : Cond.code y_Mo_forget b_Mo_forget 1 none ∈ ALL := tb6 116 rfl rfl
theorem lk_Mo_267 : Cond.methodLink "FileBoxesModel" 267 y_Mo_frame ∈ ALL := tb6 117 (by decide +kernel) rfl
theorem inst_Mo_frame : Cond.instanceMethod y_Mo_frame ∈ ALL := tb6 119 (by decide +kernel) rfl
theorem code_Mo_frame : Cond.code y_Mo_frame b_Mo_frame 6 (some .int) ∈ ALL := tb6 120 rfl rfl
theorem lk_Mo_212 : Cond.methodLink "FileBoxesModel" 212 y_Mo_u4 ∈ ALL := tb6 121 (by decide +kernel) rfl
theorem inst_Mo_u4 : Cond.instanceMethod y_Mo_u4 ∈ ALL := tb6 123 (by decide +kernel) rfl
theorem code_Mo_u4 : Cond.code y_Mo_u4 b_Mo_u4 2 (some .long) ∈ ALL := tb6 124 rfl rfl
theorem lk_Mo_209 : Cond.methodLink "FileBoxesModel" 209 y_Mo_u2 ∈ ALL := tb6 125 (by decide +kernel) rfl
theorem inst_Mo_u2 : Cond.instanceMethod y_Mo_u2 ∈ ALL := tb6 127 (by decide +kernel) rfl
theorem code_Mo_u2 : Cond.code y_Mo_u2 b_Mo_u2 2 (some .int) ∈ ALL := tb6 128 rfl rfl
theorem lk_Mo_315 : Cond.methodLink "FileBoxesModel" 315 y_Mo_atTop ∈ ALL := tb6 129 (by decide +kernel) rfl
theorem inst_Mo_atTop : Cond.instanceMethod y_Mo_atTop ∈ ALL := tb6 131 (by decide +kernel) rfl
theorem code_Mo_atTop : Cond.code y_Mo_atTop b_Mo_atTop 5 (some .int) ∈ ALL := tb6 132 rfl rfl
theorem lk_Mo_309 : Cond.methodLink "FileBoxesModel" 309 y_Mo_isKind ∈ ALL := tb6 133 (by decide +kernel) rfl
theorem inst_Mo_isKind : Cond.instanceMethod y_Mo_isKind ∈ ALL := tb6 135 (by decide +kernel) rfl
theorem code_Mo_isKind : Cond.code y_Mo_isKind b_Mo_isKind 3 (some .boolean) ∈ ALL := tb6 136 rfl rfl
theorem lk_Mo_308 : Cond.constant "FileBoxesModel" 308 1785737760 ∈ ALL := tb6 137 (by decide +kernel) rfl
theorem lk_Mo_225 : Cond.constant "FileBoxesModel" 225 1785737827 ∈ ALL := tb6 138 (by decide +kernel) rfl
theorem lk_Mo_277 : Cond.methodLink "FileBoxesModel" 277 y_Mo_no ∈ ALL := tb6 139 (by decide +kernel) rfl
theorem inst_Mo_no : Cond.instanceMethod y_Mo_no ∈ ALL := tb6 141 (by decide +kernel) rfl
theorem code_Mo_no : Cond.code y_Mo_no b_Mo_no 3 (some .int) ∈ ALL := tb6 142 rfl rfl
theorem lk_Mo_325 : Cond.methodLink "FileBoxesModel" 325 y_Mo_inHead ∈ ALL := tb6 143 (by decide +kernel) rfl
theorem inst_Mo_inHead : Cond.instanceMethod y_Mo_inHead ∈ ALL := tb6 145 (by decide +kernel) rfl
theorem code_Mo_inHead : Cond.code y_Mo_inHead b_Mo_inHead 6 (some .int) ∈ ALL := tb6 146 rfl rfl
theorem lk_Mo_283 : Cond.methodLink "FileBoxesModel" 283 y_Mo_isWrong ∈ ALL := tb6 147 (by decide +kernel) rfl
theorem inst_Mo_isWrong : Cond.instanceMethod y_Mo_isWrong ∈ ALL := tb6 149 (by decide +kernel) rfl
theorem code_Mo_isWrong : Cond.code y_Mo_isWrong b_Mo_isWrong 3 (some .boolean) ∈ ALL := tb6 150 rfl rfl
theorem lk_Mo_232 : Cond.methodLink "FileBoxesModel" 232 y_Mo_isTop ∈ ALL := tb6 151 (by decide +kernel) rfl
theorem inst_Mo_isTop : Cond.instanceMethod y_Mo_isTop ∈ ALL := tb6 153 (by decide +kernel) rfl
theorem code_Mo_isTop : Cond.code y_Mo_isTop b_Mo_isTop 1 (some .boolean) ∈ ALL := tb6 154 rfl rfl
theorem lk_Mo_287 : Cond.methodLink "FileBoxesModel" 287 y_Mo_fitsHead ∈ ALL := tb6 155 (by decide +kernel) rfl
theorem inst_Mo_fitsHead : Cond.instanceMethod y_Mo_fitsHead ∈ ALL := tb6 157 (by decide +kernel) rfl
theorem code_Mo_fitsHead : Cond.code y_Mo_fitsHead b_Mo_fitsHead 2 (some .boolean) ∈ ALL := tb6 158 rfl rfl
theorem lk_Mo_229 : Cond.methodLink "FileBoxesModel" 229 y_Mo_fitsPalette ∈ ALL := tb6 159 (by decide +kernel) rfl
theorem inst_Mo_fitsPalette : Cond.instanceMethod y_Mo_fitsPalette ∈ ALL := tb6 161 (by decide +kernel) rfl
theorem code_Mo_fitsPalette : Cond.code y_Mo_fitsPalette b_Mo_fitsPalette 5 (some .boolean) ∈ ALL := tb6 162 rfl rfl
theorem lk_Mo_290 : Cond.methodLink "FileBoxesModel" 290 y_Mo_isTwice ∈ ALL := tb6 163 (by decide +kernel) rfl
theorem inst_Mo_isTwice : Cond.instanceMethod y_Mo_isTwice ∈ ALL := tb6 165 (by decide +kernel) rfl
theorem code_Mo_isTwice : Cond.code y_Mo_isTwice b_Mo_isTwice 1 (some .boolean) ∈ ALL := tb6 166 rfl rfl
theorem lk_Mo_293 : Cond.methodLink "FileBoxesModel" 293 y_Mo_isGreat ∈ ALL := tb6 167 (by decide +kernel) rfl
theorem inst_Mo_isGreat : Cond.instanceMethod y_Mo_isGreat ∈ ALL := tb6 169 (by decide +kernel) rfl
theorem code_Mo_isGreat : Cond.code y_Mo_isGreat b_Mo_isGreat 2 (some .boolean) ∈ ALL := tb6 170 rfl rfl
theorem lk_Mo_250 : Cond.constantLong "FileBoxesModel" 250 2147483647 ∈ ALL := tb6 171 (by decide +kernel) rfl
theorem lk_Mo_296 : Cond.methodLink "FileBoxesModel" 296 y_Mo_isValue ∈ ALL := tb6 172 (by decide +kernel) rfl
theorem inst_Mo_isValue : Cond.instanceMethod y_Mo_isValue ∈ ALL := tb6 174 (by decide +kernel) rfl
theorem code_Mo_isValue : Cond.code y_Mo_isValue b_Mo_isValue 3 (some .boolean) ∈ ALL := tb6 175 rfl rfl
theorem lk_Mo_255 : Cond.methodLink "FileBoxesModel" 255 y_Mo_areColumns ∈ ALL := tb6 176 (by decide +kernel) rfl
theorem inst_Mo_areColumns : Cond.instanceMethod y_Mo_areColumns ∈ ALL := tb6 178 (by decide +kernel) rfl
theorem code_Mo_areColumns : Cond.code y_Mo_areColumns b_Mo_areColumns 3 (some .boolean) ∈ ALL := tb6 179 rfl rfl
theorem lk_Mo_258 : Cond.methodLink "FileBoxesModel" 258 y_Mo_isMap ∈ ALL := tb6 180 (by decide +kernel) rfl
theorem inst_Mo_isMap : Cond.instanceMethod y_Mo_isMap ∈ ALL := tb6 182 (by decide +kernel) rfl
theorem code_Mo_isMap : Cond.code y_Mo_isMap b_Mo_isMap 4 (some .boolean) ∈ ALL := tb6 183 rfl rfl
theorem lk_Mo_299 : Cond.methodLink "FileBoxesModel" 299 y_Mo_note ∈ ALL := tb6 184 (by decide +kernel) rfl
theorem inst_Mo_note : Cond.instanceMethod y_Mo_note ∈ ALL := tb6 186 (by decide +kernel) rfl
theorem code_Mo_note : Cond.code y_Mo_note b_Mo_note 1 none ∈ ALL := tb6 187 rfl rfl
theorem lk_Mo_302 : Cond.methodLink "FileBoxesModel" 302 y_Mo_inResolution ∈ ALL := tb6 188 (by decide +kernel) rfl
theorem inst_Mo_inResolution : Cond.instanceMethod y_Mo_inResolution ∈ ALL := tb6 190 (by decide +kernel) rfl
theorem code_Mo_inResolution : Cond.code y_Mo_inResolution b_Mo_inResolution 5 (some .int) ∈ ALL := tb6 191 rfl rfl
theorem lk_Mo_305 : Cond.methodLink "FileBoxesModel" 305 y_Mo_behindHead ∈ ALL := tb6 192 (by decide +kernel) rfl
theorem inst_Mo_behindHead : Cond.instanceMethod y_Mo_behindHead ∈ ALL := tb6 194 (by decide +kernel) rfl
theorem code_Mo_behindHead : Cond.code y_Mo_behindHead b_Mo_behindHead 6 (some .int) ∈ ALL := tb6 195 rfl rfl
theorem lk_Mo_280 : Cond.methodLink "FileBoxesModel" 280 y_Mo_channelsThere ∈ ALL := tb6 196 (by decide +kernel) rfl
theorem inst_Mo_channelsThere : Cond.instanceMethod y_Mo_channelsThere ∈ ALL := tb6 198 (by decide +kernel) rfl
theorem code_Mo_channelsThere : Cond.code y_Mo_channelsThere b_Mo_channelsThere 1 (some .int) ∈ ALL := tb6 199 rfl rfl
theorem lk_Mo_331 : Cond.methodLink "FileBoxesModel" 331 y_Mo_make ∈ ALL := tb6 200 (by decide +kernel) rfl
theorem inst_Mo_make : Cond.instanceMethod y_Mo_make ∈ ALL := tb6 202 (by decide +kernel) rfl
theorem code_Mo_make : Cond.code y_Mo_make b_Mo_make 4 none ∈ ALL := tb6 203 rfl rfl
theorem lk_Mo_334 : Cond.methodLink "FileBoxesModel" 334 y_Mo_makePalette ∈ ALL := tb6 204 (by decide +kernel) rfl
theorem inst_Mo_makePalette : Cond.instanceMethod y_Mo_makePalette ∈ ALL := tb6 206 (by decide +kernel) rfl
theorem code_Mo_makePalette : Cond.code y_Mo_makePalette b_Mo_makePalette 7 none ∈ ALL := tb6 207 rfl rfl
theorem lk_Mo_337 : Cond.methodLink "FileBoxesModel" 337 y_Mo_makeResolution ∈ ALL := tb6 208 (by decide +kernel) rfl
theorem inst_Mo_makeResolution : Cond.instanceMethod y_Mo_makeResolution ∈ ALL := tb6 210 (by decide +kernel) rfl
theorem code_Mo_makeResolution : Cond.code y_Mo_makeResolution b_Mo_makeResolution 4 none ∈ ALL := tb6 211 rfl rfl
theorem lk_La_168 : Cond.methodLink "FileBoxesLaw" 168 y_Mo_place ∈ ALL := tb6 212 (by decide +kernel) rfl
theorem inst_Mo_place : Cond.instanceMethod y_Mo_place ∈ ALL := tb6 213 (by decide +kernel) rfl
theorem sel_Mo_place : Cond.selects "FileBoxesModel" y_Mo_place y_Mo_place ∈ ALL := tb6 214 (by decide +kernel) rfl
theorem code_Mo_place : Cond.code y_Mo_place b_Mo_place 1 (some .int) ∈ ALL := tb6 215 rfl rfl
theorem lk_La_171 : Cond.methodLink "FileBoxesLaw" 171 y_Mo_stream ∈ ALL := tb6 216 (by decide +kernel) rfl
theorem inst_Mo_stream : Cond.instanceMethod y_Mo_stream ∈ ALL := tb6 217 (by decide +kernel) rfl
theorem sel_Mo_stream : Cond.selects "FileBoxesModel" y_Mo_stream y_Mo_stream ∈ ALL := tb6 218 (by decide +kernel) rfl
theorem code_Mo_stream : Cond.code y_Mo_stream b_Mo_stream 2 (some .int) ∈ ALL := tb6 219 rfl rfl
theorem lk_La_117 : Cond.constantLong "FileBoxesLaw" 117 4294967295 ∈ ALL := tb6 220 (by decide +kernel) rfl
theorem hd_By_init : y_By_init.cls ≠ "java/lang/invoke/MethodHandle" ∧ y_By_init.cls ≠ "java/lang/invoke/VarHandle" ∧ (parseMethodDescriptor y_By_init.desc).map (fun d => d.parameters.length) = some 1 := by decide +kernel
theorem hd_By_makeRoom : y_By_makeRoom.cls ≠ "java/lang/invoke/MethodHandle" ∧ y_By_makeRoom.cls ≠ "java/lang/invoke/VarHandle" ∧ (parseMethodDescriptor y_By_makeRoom.desc).map (fun d => d.parameters.length) = some 1 := by decide +kernel
theorem hd_By_add : y_By_add.cls ≠ "java/lang/invoke/MethodHandle" ∧ y_By_add.cls ≠ "java/lang/invoke/VarHandle" ∧ (parseMethodDescriptor y_By_add.desc).map (fun d => d.parameters.length) = some 1 := by decide +kernel
theorem hd_By_addNumber : y_By_addNumber.cls ≠ "java/lang/invoke/MethodHandle" ∧ y_By_addNumber.cls ≠ "java/lang/invoke/VarHandle" ∧ (parseMethodDescriptor y_By_addNumber.desc).map (fun d => d.parameters.length) = some 2 := by decide +kernel
theorem hd_By_setByte : y_By_setByte.cls ≠ "java/lang/invoke/MethodHandle" ∧ y_By_setByte.cls ≠ "java/lang/invoke/VarHandle" ∧ (parseMethodDescriptor y_By_setByte.desc).map (fun d => d.parameters.length) = some 2 := by decide +kernel
theorem hd_By_byteAt : y_By_byteAt.cls ≠ "java/lang/invoke/MethodHandle" ∧ y_By_byteAt.cls ≠ "java/lang/invoke/VarHandle" ∧ (parseMethodDescriptor y_By_byteAt.desc).map (fun d => d.parameters.length) = some 1 := by decide +kernel
theorem hd_By_numberAt : y_By_numberAt.cls ≠ "java/lang/invoke/MethodHandle" ∧ y_By_numberAt.cls ≠ "java/lang/invoke/VarHandle" ∧ (parseMethodDescriptor y_By_numberAt.desc).map (fun d => d.parameters.length) = some 2 := by decide +kernel
theorem hd_By_intAt : y_By_intAt.cls ≠ "java/lang/invoke/MethodHandle" ∧ y_By_intAt.cls ≠ "java/lang/invoke/VarHandle" ∧ (parseMethodDescriptor y_By_intAt.desc).map (fun d => d.parameters.length) = some 2 := by decide +kernel
theorem hd_Li_init : y_Li_init.cls ≠ "java/lang/invoke/MethodHandle" ∧ y_Li_init.cls ≠ "java/lang/invoke/VarHandle" ∧ (parseMethodDescriptor y_Li_init.desc).map (fun d => d.parameters.length) = some 0 := by decide +kernel
theorem hd_Li_empty : y_Li_empty.cls ≠ "java/lang/invoke/MethodHandle" ∧ y_Li_empty.cls ≠ "java/lang/invoke/VarHandle" ∧ (parseMethodDescriptor y_Li_empty.desc).map (fun d => d.parameters.length) = some 0 := by decide +kernel
theorem hd_Li_add : y_Li_add.cls ≠ "java/lang/invoke/MethodHandle" ∧ y_Li_add.cls ≠ "java/lang/invoke/VarHandle" ∧ (parseMethodDescriptor y_Li_add.desc).map (fun d => d.parameters.length) = some 3 := by decide +kernel
theorem hd_Li_part : y_Li_part.cls ≠ "java/lang/invoke/MethodHandle" ∧ y_Li_part.cls ≠ "java/lang/invoke/VarHandle" ∧ (parseMethodDescriptor y_Li_part.desc).map (fun d => d.parameters.length) = some 2 := by decide +kernel
theorem hd_Li_tells : y_Li_tells.cls ≠ "java/lang/invoke/MethodHandle" ∧ y_Li_tells.cls ≠ "java/lang/invoke/VarHandle" ∧ (parseMethodDescriptor y_Li_tells.desc).map (fun d => d.parameters.length) = some 1 := by decide +kernel
theorem hd_Li_allFirstBelow : y_Li_allFirstBelow.cls ≠ "java/lang/invoke/MethodHandle" ∧ y_Li_allFirstBelow.cls ≠ "java/lang/invoke/VarHandle" ∧ (parseMethodDescriptor y_Li_allFirstBelow.desc).map (fun d => d.parameters.length) = some 1 := by decide +kernel
theorem hd_Li_someFirstTwice : y_Li_someFirstTwice.cls ≠ "java/lang/invoke/MethodHandle" ∧ y_Li_someFirstTwice.cls ≠ "java/lang/invoke/VarHandle" ∧ (parseMethodDescriptor y_Li_someFirstTwice.desc).map (fun d => d.parameters.length) = some 0 := by decide +kernel
theorem hd_Pa_init : y_Pa_init.cls ≠ "java/lang/invoke/MethodHandle" ∧ y_Pa_init.cls ≠ "java/lang/invoke/VarHandle" ∧ (parseMethodDescriptor y_Pa_init.desc).map (fun d => d.parameters.length) = some 0 := by decide +kernel
theorem hd_Pa_become : y_Pa_become.cls ≠ "java/lang/invoke/MethodHandle" ∧ y_Pa_become.cls ≠ "java/lang/invoke/VarHandle" ∧ (parseMethodDescriptor y_Pa_become.desc).map (fun d => d.parameters.length) = some 2 := by decide +kernel
theorem hd_Pa_has : y_Pa_has.cls ≠ "java/lang/invoke/MethodHandle" ∧ y_Pa_has.cls ≠ "java/lang/invoke/VarHandle" ∧ (parseMethodDescriptor y_Pa_has.desc).map (fun d => d.parameters.length) = some 2 := by decide +kernel
theorem hd_Pa_numberAt : y_Pa_numberAt.cls ≠ "java/lang/invoke/MethodHandle" ∧ y_Pa_numberAt.cls ≠ "java/lang/invoke/VarHandle" ∧ (parseMethodDescriptor y_Pa_numberAt.desc).map (fun d => d.parameters.length) = some 2 := by decide +kernel
theorem hd_Pa_setNumber : y_Pa_setNumber.cls ≠ "java/lang/invoke/MethodHandle" ∧ y_Pa_setNumber.cls ≠ "java/lang/invoke/VarHandle" ∧ (parseMethodDescriptor y_Pa_setNumber.desc).map (fun d => d.parameters.length) = some 3 := by decide +kernel
theorem hd_Pa_entryLength : y_Pa_entryLength.cls ≠ "java/lang/invoke/MethodHandle" ∧ y_Pa_entryLength.cls ≠ "java/lang/invoke/VarHandle" ∧ (parseMethodDescriptor y_Pa_entryLength.desc).map (fun d => d.parameters.length) = some 0 := by decide +kernel
theorem hd_Pl_init : y_Pl_init.cls ≠ "java/lang/invoke/MethodHandle" ∧ y_Pl_init.cls ≠ "java/lang/invoke/VarHandle" ∧ (parseMethodDescriptor y_Pl_init.desc).map (fun d => d.parameters.length) = some 0 := by decide +kernel
theorem hd_Pl_empty : y_Pl_empty.cls ≠ "java/lang/invoke/MethodHandle" ∧ y_Pl_empty.cls ≠ "java/lang/invoke/VarHandle" ∧ (parseMethodDescriptor y_Pl_empty.desc).map (fun d => d.parameters.length) = some 0 := by decide +kernel
theorem hd_Pl_tellColours : y_Pl_tellColours.cls ≠ "java/lang/invoke/MethodHandle" ∧ y_Pl_tellColours.cls ≠ "java/lang/invoke/VarHandle" ∧ (parseMethodDescriptor y_Pl_tellColours.desc).map (fun d => d.parameters.length) = some 1 := by decide +kernel
theorem hd_Pl_hasColours : y_Pl_hasColours.cls ≠ "java/lang/invoke/MethodHandle" ∧ y_Pl_hasColours.cls ≠ "java/lang/invoke/VarHandle" ∧ (parseMethodDescriptor y_Pl_hasColours.desc).map (fun d => d.parameters.length) = some 0 := by decide +kernel
theorem hd_Pl_countOf : y_Pl_countOf.cls ≠ "java/lang/invoke/MethodHandle" ∧ y_Pl_countOf.cls ≠ "java/lang/invoke/VarHandle" ∧ (parseMethodDescriptor y_Pl_countOf.desc).map (fun d => d.parameters.length) = some 1 := by decide +kernel
theorem hd_Pl_channelCount : y_Pl_channelCount.cls ≠ "java/lang/invoke/MethodHandle" ∧ y_Pl_channelCount.cls ≠ "java/lang/invoke/VarHandle" ∧ (parseMethodDescriptor y_Pl_channelCount.desc).map (fun d => d.parameters.length) = some 0 := by decide +kernel
theorem hd_Pl_sampleShown : y_Pl_sampleShown.cls ≠ "java/lang/invoke/MethodHandle" ∧ y_Pl_sampleShown.cls ≠ "java/lang/invoke/VarHandle" ∧ (parseMethodDescriptor y_Pl_sampleShown.desc).map (fun d => d.parameters.length) = some 2 := by decide +kernel
theorem hd_Pl_bitsAreAlike : y_Pl_bitsAreAlike.cls ≠ "java/lang/invoke/MethodHandle" ∧ y_Pl_bitsAreAlike.cls ≠ "java/lang/invoke/VarHandle" ∧ (parseMethodDescriptor y_Pl_bitsAreAlike.desc).map (fun d => d.parameters.length) = some 0 := by decide +kernel
theorem hd_Pl_canBeWritten : y_Pl_canBeWritten.cls ≠ "java/lang/invoke/MethodHandle" ∧ y_Pl_canBeWritten.cls ≠ "java/lang/invoke/VarHandle" ∧ (parseMethodDescriptor y_Pl_canBeWritten.desc).map (fun d => d.parameters.length) = some 0 := by decide +kernel
theorem hd_Wr_init : y_Wr_init.cls ≠ "java/lang/invoke/MethodHandle" ∧ y_Wr_init.cls ≠ "java/lang/invoke/VarHandle" ∧ (parseMethodDescriptor y_Wr_init.desc).map (fun d => d.parameters.length) = some 1 := by decide +kernel
theorem hd_Wr_lengthOfAll : y_Wr_lengthOfAll.cls ≠ "java/lang/invoke/MethodHandle" ∧ y_Wr_lengthOfAll.cls ≠ "java/lang/invoke/VarHandle" ∧ (parseMethodDescriptor y_Wr_lengthOfAll.desc).map (fun d => d.parameters.length) = some 2 := by decide +kernel
theorem hd_Wr_lengthOfHead : y_Wr_lengthOfHead.cls ≠ "java/lang/invoke/MethodHandle" ∧ y_Wr_lengthOfHead.cls ≠ "java/lang/invoke/VarHandle" ∧ (parseMethodDescriptor y_Wr_lengthOfHead.desc).map (fun d => d.parameters.length) = some 1 := by decide +kernel
theorem hd_Wr_lengthOfBits : y_Wr_lengthOfBits.cls ≠ "java/lang/invoke/MethodHandle" ∧ y_Wr_lengthOfBits.cls ≠ "java/lang/invoke/VarHandle" ∧ (parseMethodDescriptor y_Wr_lengthOfBits.desc).map (fun d => d.parameters.length) = some 1 := by decide +kernel
theorem hd_Wr_lengthOfColour : y_Wr_lengthOfColour.cls ≠ "java/lang/invoke/MethodHandle" ∧ y_Wr_lengthOfColour.cls ≠ "java/lang/invoke/VarHandle" ∧ (parseMethodDescriptor y_Wr_lengthOfColour.desc).map (fun d => d.parameters.length) = some 1 := by decide +kernel
theorem hd_Wr_lengthOfPalette : y_Wr_lengthOfPalette.cls ≠ "java/lang/invoke/MethodHandle" ∧ y_Wr_lengthOfPalette.cls ≠ "java/lang/invoke/VarHandle" ∧ (parseMethodDescriptor y_Wr_lengthOfPalette.desc).map (fun d => d.parameters.length) = some 1 := by decide +kernel
theorem hd_Wr_lengthOfMap : y_Wr_lengthOfMap.cls ≠ "java/lang/invoke/MethodHandle" ∧ y_Wr_lengthOfMap.cls ≠ "java/lang/invoke/VarHandle" ∧ (parseMethodDescriptor y_Wr_lengthOfMap.desc).map (fun d => d.parameters.length) = some 1 := by decide +kernel
theorem hd_Wr_lengthOfMeanings : y_Wr_lengthOfMeanings.cls ≠ "java/lang/invoke/MethodHandle" ∧ y_Wr_lengthOfMeanings.cls ≠ "java/lang/invoke/VarHandle" ∧ (parseMethodDescriptor y_Wr_lengthOfMeanings.desc).map (fun d => d.parameters.length) = some 1 := by decide +kernel
theorem hd_Wr_lengthOfResolution : y_Wr_lengthOfResolution.cls ≠ "java/lang/invoke/MethodHandle" ∧ y_Wr_lengthOfResolution.cls ≠ "java/lang/invoke/VarHandle" ∧ (parseMethodDescriptor y_Wr_lengthOfResolution.desc).map (fun d => d.parameters.length) = some 1 := by decide +kernel
theorem hd_Wr_lengthOfRatio : y_Wr_lengthOfRatio.cls ≠ "java/lang/invoke/MethodHandle" ∧ y_Wr_lengthOfRatio.cls ≠ "java/lang/invoke/VarHandle" ∧ (parseMethodDescriptor y_Wr_lengthOfRatio.desc).map (fun d => d.parameters.length) = some 1 := by decide +kernel
theorem hd_Wr_putAll : y_Wr_putAll.cls ≠ "java/lang/invoke/MethodHandle" ∧ y_Wr_putAll.cls ≠ "java/lang/invoke/VarHandle" ∧ (parseMethodDescriptor y_Wr_putAll.desc).map (fun d => d.parameters.length) = some 3 := by decide +kernel
theorem hd_Wr_begin : y_Wr_begin.cls ≠ "java/lang/invoke/MethodHandle" ∧ y_Wr_begin.cls ≠ "java/lang/invoke/VarHandle" ∧ (parseMethodDescriptor y_Wr_begin.desc).map (fun d => d.parameters.length) = some 2 := by decide +kernel
theorem hd_Wr_putHead : y_Wr_putHead.cls ≠ "java/lang/invoke/MethodHandle" ∧ y_Wr_putHead.cls ≠ "java/lang/invoke/VarHandle" ∧ (parseMethodDescriptor y_Wr_putHead.desc).map (fun d => d.parameters.length) = some 1 := by decide +kernel
theorem hd_Wr_putSize : y_Wr_putSize.cls ≠ "java/lang/invoke/MethodHandle" ∧ y_Wr_putSize.cls ≠ "java/lang/invoke/VarHandle" ∧ (parseMethodDescriptor y_Wr_putSize.desc).map (fun d => d.parameters.length) = some 1 := by decide +kernel
theorem hd_Wr_putBits : y_Wr_putBits.cls ≠ "java/lang/invoke/MethodHandle" ∧ y_Wr_putBits.cls ≠ "java/lang/invoke/VarHandle" ∧ (parseMethodDescriptor y_Wr_putBits.desc).map (fun d => d.parameters.length) = some 1 := by decide +kernel
theorem hd_Wr_putColour : y_Wr_putColour.cls ≠ "java/lang/invoke/MethodHandle" ∧ y_Wr_putColour.cls ≠ "java/lang/invoke/VarHandle" ∧ (parseMethodDescriptor y_Wr_putColour.desc).map (fun d => d.parameters.length) = some 1 := by decide +kernel
theorem hd_Wr_putPalette : y_Wr_putPalette.cls ≠ "java/lang/invoke/MethodHandle" ∧ y_Wr_putPalette.cls ≠ "java/lang/invoke/VarHandle" ∧ (parseMethodDescriptor y_Wr_putPalette.desc).map (fun d => d.parameters.length) = some 1 := by decide +kernel
theorem hd_Wr_putEntry : y_Wr_putEntry.cls ≠ "java/lang/invoke/MethodHandle" ∧ y_Wr_putEntry.cls ≠ "java/lang/invoke/VarHandle" ∧ (parseMethodDescriptor y_Wr_putEntry.desc).map (fun d => d.parameters.length) = some 2 := by decide +kernel
theorem hd_Wr_putMap : y_Wr_putMap.cls ≠ "java/lang/invoke/MethodHandle" ∧ y_Wr_putMap.cls ≠ "java/lang/invoke/VarHandle" ∧ (parseMethodDescriptor y_Wr_putMap.desc).map (fun d => d.parameters.length) = some 1 := by decide +kernel
theorem hd_Wr_putMeanings : y_Wr_putMeanings.cls ≠ "java/lang/invoke/MethodHandle" ∧ y_Wr_putMeanings.cls ≠ "java/lang/invoke/VarHandle" ∧ (parseMethodDescriptor y_Wr_putMeanings.desc).map (fun d => d.parameters.length) = some 1 := by decide +kernel
theorem hd_Wr_putResolution : y_Wr_putResolution.cls ≠ "java/lang/invoke/MethodHandle" ∧ y_Wr_putResolution.cls ≠ "java/lang/invoke/VarHandle" ∧ (parseMethodDescriptor y_Wr_putResolution.desc).map (fun d => d.parameters.length) = some 1 := by decide +kernel
theorem hd_Wr_putRatio : y_Wr_putRatio.cls ≠ "java/lang/invoke/MethodHandle" ∧ y_Wr_putRatio.cls ≠ "java/lang/invoke/VarHandle" ∧ (parseMethodDescriptor y_Wr_putRatio.desc).map (fun d => d.parameters.length) = some 2 := by decide +kernel
theorem hd_Sc_init : y_Sc_init.cls ≠ "java/lang/invoke/MethodHandle" ∧ y_Sc_init.cls ≠ "java/lang/invoke/VarHandle" ∧ (parseMethodDescriptor y_Sc_init.desc).map (fun d => d.parameters.length) = some 1 := by decide +kernel
theorem hd_Sc_exchange : y_Sc_exchange.cls ≠ "java/lang/invoke/MethodHandle" ∧ y_Sc_exchange.cls ≠ "java/lang/invoke/VarHandle" ∧ (parseMethodDescriptor y_Sc_exchange.desc).map (fun d => d.parameters.length) = some 1 := by decide +kernel
theorem hd_Sc_readFile : y_Sc_readFile.cls ≠ "java/lang/invoke/MethodHandle" ∧ y_Sc_readFile.cls ≠ "java/lang/invoke/VarHandle" ∧ (parseMethodDescriptor y_Sc_readFile.desc).map (fun d => d.parameters.length) = some 0 := by decide +kernel
theorem hd_Sc_limit : y_Sc_limit.cls ≠ "java/lang/invoke/MethodHandle" ∧ y_Sc_limit.cls ≠ "java/lang/invoke/VarHandle" ∧ (parseMethodDescriptor y_Sc_limit.desc).map (fun d => d.parameters.length) = some 0 := by decide +kernel
theorem hd_Sc_readBox : y_Sc_readBox.cls ≠ "java/lang/invoke/MethodHandle" ∧ y_Sc_readBox.cls ≠ "java/lang/invoke/VarHandle" ∧ (parseMethodDescriptor y_Sc_readBox.desc).map (fun d => d.parameters.length) = some 0 := by decide +kernel
theorem hd_Sc_open : y_Sc_open.cls ≠ "java/lang/invoke/MethodHandle" ∧ y_Sc_open.cls ≠ "java/lang/invoke/VarHandle" ∧ (parseMethodDescriptor y_Sc_open.desc).map (fun d => d.parameters.length) = some 0 := by decide +kernel
theorem hd_Sc_leave : y_Sc_leave.cls ≠ "java/lang/invoke/MethodHandle" ∧ y_Sc_leave.cls ≠ "java/lang/invoke/VarHandle" ∧ (parseMethodDescriptor y_Sc_leave.desc).map (fun d => d.parameters.length) = some 0 := by decide +kernel
theorem hd_Sc_endOfHead : y_Sc_endOfHead.cls ≠ "java/lang/invoke/MethodHandle" ∧ y_Sc_endOfHead.cls ≠ "java/lang/invoke/VarHandle" ∧ (parseMethodDescriptor y_Sc_endOfHead.desc).map (fun d => d.parameters.length) = some 0 := by decide +kernel
theorem hd_Sc_was : y_Sc_was.cls ≠ "java/lang/invoke/MethodHandle" ∧ y_Sc_was.cls ≠ "java/lang/invoke/VarHandle" ∧ (parseMethodDescriptor y_Sc_was.desc).map (fun d => d.parameters.length) = some 1 := by decide +kernel
theorem hd_Sc_content : y_Sc_content.cls ≠ "java/lang/invoke/MethodHandle" ∧ y_Sc_content.cls ≠ "java/lang/invoke/VarHandle" ∧ (parseMethodDescriptor y_Sc_content.desc).map (fun d => d.parameters.length) = some 0 := by decide +kernel
theorem hd_Sc_readInFile : y_Sc_readInFile.cls ≠ "java/lang/invoke/MethodHandle" ∧ y_Sc_readInFile.cls ≠ "java/lang/invoke/VarHandle" ∧ (parseMethodDescriptor y_Sc_readInFile.desc).map (fun d => d.parameters.length) = some 0 := by decide +kernel
theorem hd_Sc_readSign : y_Sc_readSign.cls ≠ "java/lang/invoke/MethodHandle" ∧ y_Sc_readSign.cls ≠ "java/lang/invoke/VarHandle" ∧ (parseMethodDescriptor y_Sc_readSign.desc).map (fun d => d.parameters.length) = some 0 := by decide +kernel
theorem hd_Sc_readKind : y_Sc_readKind.cls ≠ "java/lang/invoke/MethodHandle" ∧ y_Sc_readKind.cls ≠ "java/lang/invoke/VarHandle" ∧ (parseMethodDescriptor y_Sc_readKind.desc).map (fun d => d.parameters.length) = some 0 := by decide +kernel
theorem hd_Sc_enterHead : y_Sc_enterHead.cls ≠ "java/lang/invoke/MethodHandle" ∧ y_Sc_enterHead.cls ≠ "java/lang/invoke/VarHandle" ∧ (parseMethodDescriptor y_Sc_enterHead.desc).map (fun d => d.parameters.length) = some 0 := by decide +kernel
theorem hd_Sc_readStream : y_Sc_readStream.cls ≠ "java/lang/invoke/MethodHandle" ∧ y_Sc_readStream.cls ≠ "java/lang/invoke/VarHandle" ∧ (parseMethodDescriptor y_Sc_readStream.desc).map (fun d => d.parameters.length) = some 0 := by decide +kernel
theorem hd_Sc_readInHead : y_Sc_readInHead.cls ≠ "java/lang/invoke/MethodHandle" ∧ y_Sc_readInHead.cls ≠ "java/lang/invoke/VarHandle" ∧ (parseMethodDescriptor y_Sc_readInHead.desc).map (fun d => d.parameters.length) = some 0 := by decide +kernel
theorem hd_Sc_readSize : y_Sc_readSize.cls ≠ "java/lang/invoke/MethodHandle" ∧ y_Sc_readSize.cls ≠ "java/lang/invoke/VarHandle" ∧ (parseMethodDescriptor y_Sc_readSize.desc).map (fun d => d.parameters.length) = some 0 := by decide +kernel
theorem hd_Sc_readBits : y_Sc_readBits.cls ≠ "java/lang/invoke/MethodHandle" ∧ y_Sc_readBits.cls ≠ "java/lang/invoke/VarHandle" ∧ (parseMethodDescriptor y_Sc_readBits.desc).map (fun d => d.parameters.length) = some 0 := by decide +kernel
theorem hd_Sc_readColour : y_Sc_readColour.cls ≠ "java/lang/invoke/MethodHandle" ∧ y_Sc_readColour.cls ≠ "java/lang/invoke/VarHandle" ∧ (parseMethodDescriptor y_Sc_readColour.desc).map (fun d => d.parameters.length) = some 0 := by decide +kernel
theorem hd_Sc_readColours : y_Sc_readColours.cls ≠ "java/lang/invoke/MethodHandle" ∧ y_Sc_readColours.cls ≠ "java/lang/invoke/VarHandle" ∧ (parseMethodDescriptor y_Sc_readColours.desc).map (fun d => d.parameters.length) = some 0 := by decide +kernel
theorem hd_Sc_readPalette : y_Sc_readPalette.cls ≠ "java/lang/invoke/MethodHandle" ∧ y_Sc_readPalette.cls ≠ "java/lang/invoke/VarHandle" ∧ (parseMethodDescriptor y_Sc_readPalette.desc).map (fun d => d.parameters.length) = some 0 := by decide +kernel
theorem hd_Sc_paletteHasItsLength : y_Sc_paletteHasItsLength.cls ≠ "java/lang/invoke/MethodHandle" ∧ y_Sc_paletteHasItsLength.cls ≠ "java/lang/invoke/VarHandle" ∧ (parseMethodDescriptor y_Sc_paletteHasItsLength.desc).map (fun d => d.parameters.length) = some 0 := by decide +kernel
theorem hd_Sc_readNumbers : y_Sc_readNumbers.cls ≠ "java/lang/invoke/MethodHandle" ∧ y_Sc_readNumbers.cls ≠ "java/lang/invoke/VarHandle" ∧ (parseMethodDescriptor y_Sc_readNumbers.desc).map (fun d => d.parameters.length) = some 0 := by decide +kernel
theorem hd_Sc_readMap : y_Sc_readMap.cls ≠ "java/lang/invoke/MethodHandle" ∧ y_Sc_readMap.cls ≠ "java/lang/invoke/VarHandle" ∧ (parseMethodDescriptor y_Sc_readMap.desc).map (fun d => d.parameters.length) = some 0 := by decide +kernel
theorem hd_Sc_readMeanings : y_Sc_readMeanings.cls ≠ "java/lang/invoke/MethodHandle" ∧ y_Sc_readMeanings.cls ≠ "java/lang/invoke/VarHandle" ∧ (parseMethodDescriptor y_Sc_readMeanings.desc).map (fun d => d.parameters.length) = some 0 := by decide +kernel
theorem hd_Sc_enterResolution : y_Sc_enterResolution.cls ≠ "java/lang/invoke/MethodHandle" ∧ y_Sc_enterResolution.cls ≠ "java/lang/invoke/VarHandle" ∧ (parseMethodDescriptor y_Sc_enterResolution.desc).map (fun d => d.parameters.length) = some 0 := by decide +kernel
theorem hd_Sc_readInResolution : y_Sc_readInResolution.cls ≠ "java/lang/invoke/MethodHandle" ∧ y_Sc_readInResolution.cls ≠ "java/lang/invoke/VarHandle" ∧ (parseMethodDescriptor y_Sc_readInResolution.desc).map (fun d => d.parameters.length) = some 0 := by decide +kernel
theorem hd_Sc_readRatio : y_Sc_readRatio.cls ≠ "java/lang/invoke/MethodHandle" ∧ y_Sc_readRatio.cls ≠ "java/lang/invoke/VarHandle" ∧ (parseMethodDescriptor y_Sc_readRatio.desc).map (fun d => d.parameters.length) = some 2 := by decide +kernel
theorem hd_FB_init : y_FB_init.cls ≠ "java/lang/invoke/MethodHandle" ∧ y_FB_init.cls ≠ "java/lang/invoke/VarHandle" ∧ (parseMethodDescriptor y_FB_init.desc).map (fun d => d.parameters.length) = some 0 := by decide +kernel
theorem hd_FB_plan : y_FB_plan.cls ≠ "java/lang/invoke/MethodHandle" ∧ y_FB_plan.cls ≠ "java/lang/invoke/VarHandle" ∧ (parseMethodDescriptor y_FB_plan.desc).map (fun d => d.parameters.length) = some 0 := by decide +kernel
theorem hd_FB_size : y_FB_size.cls ≠ "java/lang/invoke/MethodHandle" ∧ y_FB_size.cls ≠ "java/lang/invoke/VarHandle" ∧ (parseMethodDescriptor y_FB_size.desc).map (fun d => d.parameters.length) = some 6 := by decide +kernel
theorem hd_FB_bits : y_FB_bits.cls ≠ "java/lang/invoke/MethodHandle" ∧ y_FB_bits.cls ≠ "java/lang/invoke/VarHandle" ∧ (parseMethodDescriptor y_FB_bits.desc).map (fun d => d.parameters.length) = some 2 := by decide +kernel
theorem hd_FB_colours : y_FB_colours.cls ≠ "java/lang/invoke/MethodHandle" ∧ y_FB_colours.cls ≠ "java/lang/invoke/VarHandle" ∧ (parseMethodDescriptor y_FB_colours.desc).map (fun d => d.parameters.length) = some 1 := by decide +kernel
theorem hd_FB_profile : y_FB_profile.cls ≠ "java/lang/invoke/MethodHandle" ∧ y_FB_profile.cls ≠ "java/lang/invoke/VarHandle" ∧ (parseMethodDescriptor y_FB_profile.desc).map (fun d => d.parameters.length) = some 1 := by decide +kernel
theorem hd_FB_palette : y_FB_palette.cls ≠ "java/lang/invoke/MethodHandle" ∧ y_FB_palette.cls ≠ "java/lang/invoke/VarHandle" ∧ (parseMethodDescriptor y_FB_palette.desc).map (fun d => d.parameters.length) = some 2 := by decide +kernel
theorem hd_FB_column : y_FB_column.cls ≠ "java/lang/invoke/MethodHandle" ∧ y_FB_column.cls ≠ "java/lang/invoke/VarHandle" ∧ (parseMethodDescriptor y_FB_column.desc).map (fun d => d.parameters.length) = some 2 := by decide +kernel
theorem hd_FB_entry : y_FB_entry.cls ≠ "java/lang/invoke/MethodHandle" ∧ y_FB_entry.cls ≠ "java/lang/invoke/VarHandle" ∧ (parseMethodDescriptor y_FB_entry.desc).map (fun d => d.parameters.length) = some 3 := by decide +kernel
theorem hd_FB_map : y_FB_map.cls ≠ "java/lang/invoke/MethodHandle" ∧ y_FB_map.cls ≠ "java/lang/invoke/VarHandle" ∧ (parseMethodDescriptor y_FB_map.desc).map (fun d => d.parameters.length) = some 3 := by decide +kernel
theorem hd_FB_channel : y_FB_channel.cls ≠ "java/lang/invoke/MethodHandle" ∧ y_FB_channel.cls ≠ "java/lang/invoke/VarHandle" ∧ (parseMethodDescriptor y_FB_channel.desc).map (fun d => d.parameters.length) = some 3 := by decide +kernel
theorem hd_FB_resolution : y_FB_resolution.cls ≠ "java/lang/invoke/MethodHandle" ∧ y_FB_resolution.cls ≠ "java/lang/invoke/VarHandle" ∧ (parseMethodDescriptor y_FB_resolution.desc).map (fun d => d.parameters.length) = some 7 := by decide +kernel
theorem hd_FB_get : y_FB_get.cls ≠ "java/lang/invoke/MethodHandle" ∧ y_FB_get.cls ≠ "java/lang/invoke/VarHandle" ∧ (parseMethodDescriptor y_FB_get.desc).map (fun d => d.parameters.length) = some 2 := by decide +kernel
theorem hd_FB_listed : y_FB_listed.cls ≠ "java/lang/invoke/MethodHandle" ∧ y_FB_listed.cls ≠ "java/lang/invoke/VarHandle" ∧ (parseMethodDescriptor y_FB_listed.desc).map (fun d => d.parameters.length) = some 2 := by decide +kernel
theorem hd_FB_number : y_FB_number.cls ≠ "java/lang/invoke/MethodHandle" ∧ y_FB_number.cls ≠ "java/lang/invoke/VarHandle" ∧ (parseMethodDescriptor y_FB_number.desc).map (fun d => d.parameters.length) = some 2 := by decide +kernel
theorem hd_FB_shown : y_FB_shown.cls ≠ "java/lang/invoke/MethodHandle" ∧ y_FB_shown.cls ≠ "java/lang/invoke/VarHandle" ∧ (parseMethodDescriptor y_FB_shown.desc).map (fun d => d.parameters.length) = some 2 := by decide +kernel
theorem hd_FB_clear : y_FB_clear.cls ≠ "java/lang/invoke/MethodHandle" ∧ y_FB_clear.cls ≠ "java/lang/invoke/VarHandle" ∧ (parseMethodDescriptor y_FB_clear.desc).map (fun d => d.parameters.length) = some 0 := by decide +kernel
theorem hd_FB_put : y_FB_put.cls ≠ "java/lang/invoke/MethodHandle" ∧ y_FB_put.cls ≠ "java/lang/invoke/VarHandle" ∧ (parseMethodDescriptor y_FB_put.desc).map (fun d => d.parameters.length) = some 1 := by decide +kernel
theorem hd_FB_at : y_FB_at.cls ≠ "java/lang/invoke/MethodHandle" ∧ y_FB_at.cls ≠ "java/lang/invoke/VarHandle" ∧ (parseMethodDescriptor y_FB_at.desc).map (fun d => d.parameters.length) = some 1 := by decide +kernel
theorem hd_FB_spoil : y_FB_spoil.cls ≠ "java/lang/invoke/MethodHandle" ∧ y_FB_spoil.cls ≠ "java/lang/invoke/VarHandle" ∧ (parseMethodDescriptor y_FB_spoil.desc).map (fun d => d.parameters.length) = some 2 := by decide +kernel
theorem hd_FB_write : y_FB_write.cls ≠ "java/lang/invoke/MethodHandle" ∧ y_FB_write.cls ≠ "java/lang/invoke/VarHandle" ∧ (parseMethodDescriptor y_FB_write.desc).map (fun d => d.parameters.length) = some 2 := by decide +kernel
theorem hd_FB_scan : y_FB_scan.cls ≠ "java/lang/invoke/MethodHandle" ∧ y_FB_scan.cls ≠ "java/lang/invoke/VarHandle" ∧ (parseMethodDescriptor y_FB_scan.desc).map (fun d => d.parameters.length) = some 0 := by decide +kernel
theorem hd_FB_place : y_FB_place.cls ≠ "java/lang/invoke/MethodHandle" ∧ y_FB_place.cls ≠ "java/lang/invoke/VarHandle" ∧ (parseMethodDescriptor y_FB_place.desc).map (fun d => d.parameters.length) = some 0 := by decide +kernel
theorem hd_FB_stream : y_FB_stream.cls ≠ "java/lang/invoke/MethodHandle" ∧ y_FB_stream.cls ≠ "java/lang/invoke/VarHandle" ∧ (parseMethodDescriptor y_FB_stream.desc).map (fun d => d.parameters.length) = some 1 := by decide +kernel
theorem hd_FB_valueIn : y_FB_valueIn.cls ≠ "java/lang/invoke/MethodHandle" ∧ y_FB_valueIn.cls ≠ "java/lang/invoke/VarHandle" ∧ (parseMethodDescriptor y_FB_valueIn.desc).map (fun d => d.parameters.length) = some 2 := by decide +kernel
theorem hd_FB_setIn : y_FB_setIn.cls ≠ "java/lang/invoke/MethodHandle" ∧ y_FB_setIn.cls ≠ "java/lang/invoke/VarHandle" ∧ (parseMethodDescriptor y_FB_setIn.desc).map (fun d => d.parameters.length) = some 3 := by decide +kernel
theorem hd_FB_isByte : y_FB_isByte.cls ≠ "java/lang/invoke/MethodHandle" ∧ y_FB_isByte.cls ≠ "java/lang/invoke/VarHandle" ∧ (parseMethodDescriptor y_FB_isByte.desc).map (fun d => d.parameters.length) = some 1 := by decide +kernel
theorem hd_FB_areBits : y_FB_areBits.cls ≠ "java/lang/invoke/MethodHandle" ∧ y_FB_areBits.cls ≠ "java/lang/invoke/VarHandle" ∧ (parseMethodDescriptor y_FB_areBits.desc).map (fun d => d.parameters.length) = some 1 := by decide +kernel
theorem hd_FB_areColours : y_FB_areColours.cls ≠ "java/lang/invoke/MethodHandle" ∧ y_FB_areColours.cls ≠ "java/lang/invoke/VarHandle" ∧ (parseMethodDescriptor y_FB_areColours.desc).map (fun d => d.parameters.length) = some 1 := by decide +kernel
theorem hd_FB_isWay : y_FB_isWay.cls ≠ "java/lang/invoke/MethodHandle" ∧ y_FB_isWay.cls ≠ "java/lang/invoke/VarHandle" ∧ (parseMethodDescriptor y_FB_isWay.desc).map (fun d => d.parameters.length) = some 3 := by decide +kernel
theorem hd_FB_isType : y_FB_isType.cls ≠ "java/lang/invoke/MethodHandle" ∧ y_FB_isType.cls ≠ "java/lang/invoke/VarHandle" ∧ (parseMethodDescriptor y_FB_isType.desc).map (fun d => d.parameters.length) = some 1 := by decide +kernel
theorem hd_FB_isRatioPart : y_FB_isRatioPart.cls ≠ "java/lang/invoke/MethodHandle" ∧ y_FB_isRatioPart.cls ≠ "java/lang/invoke/VarHandle" ∧ (parseMethodDescriptor y_FB_isRatioPart.desc).map (fun d => d.parameters.length) = some 1 := by decide +kernel
theorem hd_FB_isPower : y_FB_isPower.cls ≠ "java/lang/invoke/MethodHandle" ∧ y_FB_isPower.cls ≠ "java/lang/invoke/VarHandle" ∧ (parseMethodDescriptor y_FB_isPower.desc).map (fun d => d.parameters.length) = some 1 := by decide +kernel
theorem hd_FB_bitCount : y_FB_bitCount.cls ≠ "java/lang/invoke/MethodHandle" ∧ y_FB_bitCount.cls ≠ "java/lang/invoke/VarHandle" ∧ (parseMethodDescriptor y_FB_bitCount.desc).map (fun d => d.parameters.length) = some 1 := by decide +kernel
theorem hd_FB_bytesFor : y_FB_bytesFor.cls ≠ "java/lang/invoke/MethodHandle" ∧ y_FB_bytesFor.cls ≠ "java/lang/invoke/VarHandle" ∧ (parseMethodDescriptor y_FB_bytesFor.desc).map (fun d => d.parameters.length) = some 1 := by decide +kernel
theorem hd_FB_fits : y_FB_fits.cls ≠ "java/lang/invoke/MethodHandle" ∧ y_FB_fits.cls ≠ "java/lang/invoke/VarHandle" ∧ (parseMethodDescriptor y_FB_fits.desc).map (fun d => d.parameters.length) = some 2 := by decide +kernel
theorem hd_FB_lowestBits : y_FB_lowestBits.cls ≠ "java/lang/invoke/MethodHandle" ∧ y_FB_lowestBits.cls ≠ "java/lang/invoke/VarHandle" ∧ (parseMethodDescriptor y_FB_lowestBits.desc).map (fun d => d.parameters.length) = some 2 := by decide +kernel
theorem hd_Mo_init : y_Mo_init.cls ≠ "java/lang/invoke/MethodHandle" ∧ y_Mo_init.cls ≠ "java/lang/invoke/VarHandle" ∧ (parseMethodDescriptor y_Mo_init.desc).map (fun d => d.parameters.length) = some 0 := by decide +kernel
theorem hd_Mo_thrown : y_Mo_thrown.cls ≠ "java/lang/invoke/MethodHandle" ∧ y_Mo_thrown.cls ≠ "java/lang/invoke/VarHandle" ∧ (parseMethodDescriptor y_Mo_thrown.desc).map (fun d => d.parameters.length) = some 0 := by decide +kernel
theorem hd_Mo_refuse : y_Mo_refuse.cls ≠ "java/lang/invoke/MethodHandle" ∧ y_Mo_refuse.cls ≠ "java/lang/invoke/VarHandle" ∧ (parseMethodDescriptor y_Mo_refuse.desc).map (fun d => d.parameters.length) = some 1 := by decide +kernel
theorem hd_Mo_in : y_Mo_in.cls ≠ "java/lang/invoke/MethodHandle" ∧ y_Mo_in.cls ≠ "java/lang/invoke/VarHandle" ∧ (parseMethodDescriptor y_Mo_in.desc).map (fun d => d.parameters.length) = some 3 := by decide +kernel
theorem hd_Mo_areBits : y_Mo_areBits.cls ≠ "java/lang/invoke/MethodHandle" ∧ y_Mo_areBits.cls ≠ "java/lang/invoke/VarHandle" ∧ (parseMethodDescriptor y_Mo_areBits.desc).map (fun d => d.parameters.length) = some 1 := by decide +kernel
theorem hd_Mo_plan : y_Mo_plan.cls ≠ "java/lang/invoke/MethodHandle" ∧ y_Mo_plan.cls ≠ "java/lang/invoke/VarHandle" ∧ (parseMethodDescriptor y_Mo_plan.desc).map (fun d => d.parameters.length) = some 0 := by decide +kernel
theorem hd_Mo_empty : y_Mo_empty.cls ≠ "java/lang/invoke/MethodHandle" ∧ y_Mo_empty.cls ≠ "java/lang/invoke/VarHandle" ∧ (parseMethodDescriptor y_Mo_empty.desc).map (fun d => d.parameters.length) = some 0 := by decide +kernel
theorem hd_Mo_size : y_Mo_size.cls ≠ "java/lang/invoke/MethodHandle" ∧ y_Mo_size.cls ≠ "java/lang/invoke/VarHandle" ∧ (parseMethodDescriptor y_Mo_size.desc).map (fun d => d.parameters.length) = some 6 := by decide +kernel
theorem hd_Mo_bits : y_Mo_bits.cls ≠ "java/lang/invoke/MethodHandle" ∧ y_Mo_bits.cls ≠ "java/lang/invoke/VarHandle" ∧ (parseMethodDescriptor y_Mo_bits.desc).map (fun d => d.parameters.length) = some 2 := by decide +kernel
theorem hd_Mo_colours : y_Mo_colours.cls ≠ "java/lang/invoke/MethodHandle" ∧ y_Mo_colours.cls ≠ "java/lang/invoke/VarHandle" ∧ (parseMethodDescriptor y_Mo_colours.desc).map (fun d => d.parameters.length) = some 1 := by decide +kernel
theorem hd_Mo_profile : y_Mo_profile.cls ≠ "java/lang/invoke/MethodHandle" ∧ y_Mo_profile.cls ≠ "java/lang/invoke/VarHandle" ∧ (parseMethodDescriptor y_Mo_profile.desc).map (fun d => d.parameters.length) = some 1 := by decide +kernel
theorem hd_Mo_palette : y_Mo_palette.cls ≠ "java/lang/invoke/MethodHandle" ∧ y_Mo_palette.cls ≠ "java/lang/invoke/VarHandle" ∧ (parseMethodDescriptor y_Mo_palette.desc).map (fun d => d.parameters.length) = some 2 := by decide +kernel
theorem hd_Mo_column : y_Mo_column.cls ≠ "java/lang/invoke/MethodHandle" ∧ y_Mo_column.cls ≠ "java/lang/invoke/VarHandle" ∧ (parseMethodDescriptor y_Mo_column.desc).map (fun d => d.parameters.length) = some 2 := by decide +kernel
theorem hd_Mo_isNumber : y_Mo_isNumber.cls ≠ "java/lang/invoke/MethodHandle" ∧ y_Mo_isNumber.cls ≠ "java/lang/invoke/VarHandle" ∧ (parseMethodDescriptor y_Mo_isNumber.desc).map (fun d => d.parameters.length) = some 2 := by decide +kernel
theorem hd_Mo_entry : y_Mo_entry.cls ≠ "java/lang/invoke/MethodHandle" ∧ y_Mo_entry.cls ≠ "java/lang/invoke/VarHandle" ∧ (parseMethodDescriptor y_Mo_entry.desc).map (fun d => d.parameters.length) = some 3 := by decide +kernel
theorem hd_Mo_map : y_Mo_map.cls ≠ "java/lang/invoke/MethodHandle" ∧ y_Mo_map.cls ≠ "java/lang/invoke/VarHandle" ∧ (parseMethodDescriptor y_Mo_map.desc).map (fun d => d.parameters.length) = some 3 := by decide +kernel
theorem hd_Mo_isType : y_Mo_isType.cls ≠ "java/lang/invoke/MethodHandle" ∧ y_Mo_isType.cls ≠ "java/lang/invoke/VarHandle" ∧ (parseMethodDescriptor y_Mo_isType.desc).map (fun d => d.parameters.length) = some 1 := by decide +kernel
theorem hd_Mo_isTold : y_Mo_isTold.cls ≠ "java/lang/invoke/MethodHandle" ∧ y_Mo_isTold.cls ≠ "java/lang/invoke/VarHandle" ∧ (parseMethodDescriptor y_Mo_isTold.desc).map (fun d => d.parameters.length) = some 1 := by decide +kernel
theorem hd_Mo_channel : y_Mo_channel.cls ≠ "java/lang/invoke/MethodHandle" ∧ y_Mo_channel.cls ≠ "java/lang/invoke/VarHandle" ∧ (parseMethodDescriptor y_Mo_channel.desc).map (fun d => d.parameters.length) = some 3 := by decide +kernel
theorem hd_Mo_tell : y_Mo_tell.cls ≠ "java/lang/invoke/MethodHandle" ∧ y_Mo_tell.cls ≠ "java/lang/invoke/VarHandle" ∧ (parseMethodDescriptor y_Mo_tell.desc).map (fun d => d.parameters.length) = some 3 := by decide +kernel
theorem hd_Mo_resolution : y_Mo_resolution.cls ≠ "java/lang/invoke/MethodHandle" ∧ y_Mo_resolution.cls ≠ "java/lang/invoke/VarHandle" ∧ (parseMethodDescriptor y_Mo_resolution.desc).map (fun d => d.parameters.length) = some 7 := by decide +kernel
theorem hd_Mo_countOf : y_Mo_countOf.cls ≠ "java/lang/invoke/MethodHandle" ∧ y_Mo_countOf.cls ≠ "java/lang/invoke/VarHandle" ∧ (parseMethodDescriptor y_Mo_countOf.desc).map (fun d => d.parameters.length) = some 1 := by decide +kernel
theorem hd_Mo_told : y_Mo_told.cls ≠ "java/lang/invoke/MethodHandle" ∧ y_Mo_told.cls ≠ "java/lang/invoke/VarHandle" ∧ (parseMethodDescriptor y_Mo_told.desc).map (fun d => d.parameters.length) = some 2 := by decide +kernel
theorem hd_Mo_get : y_Mo_get.cls ≠ "java/lang/invoke/MethodHandle" ∧ y_Mo_get.cls ≠ "java/lang/invoke/VarHandle" ∧ (parseMethodDescriptor y_Mo_get.desc).map (fun d => d.parameters.length) = some 2 := by decide +kernel
theorem hd_Mo_number : y_Mo_number.cls ≠ "java/lang/invoke/MethodHandle" ∧ y_Mo_number.cls ≠ "java/lang/invoke/VarHandle" ∧ (parseMethodDescriptor y_Mo_number.desc).map (fun d => d.parameters.length) = some 2 := by decide +kernel
theorem hd_Mo_shown : y_Mo_shown.cls ≠ "java/lang/invoke/MethodHandle" ∧ y_Mo_shown.cls ≠ "java/lang/invoke/VarHandle" ∧ (parseMethodDescriptor y_Mo_shown.desc).map (fun d => d.parameters.length) = some 2 := by decide +kernel
theorem hd_Mo_clear : y_Mo_clear.cls ≠ "java/lang/invoke/MethodHandle" ∧ y_Mo_clear.cls ≠ "java/lang/invoke/VarHandle" ∧ (parseMethodDescriptor y_Mo_clear.desc).map (fun d => d.parameters.length) = some 0 := by decide +kernel
theorem hd_Mo_put : y_Mo_put.cls ≠ "java/lang/invoke/MethodHandle" ∧ y_Mo_put.cls ≠ "java/lang/invoke/VarHandle" ∧ (parseMethodDescriptor y_Mo_put.desc).map (fun d => d.parameters.length) = some 1 := by decide +kernel
theorem hd_Mo_at : y_Mo_at.cls ≠ "java/lang/invoke/MethodHandle" ∧ y_Mo_at.cls ≠ "java/lang/invoke/VarHandle" ∧ (parseMethodDescriptor y_Mo_at.desc).map (fun d => d.parameters.length) = some 1 := by decide +kernel
theorem hd_Mo_spoil : y_Mo_spoil.cls ≠ "java/lang/invoke/MethodHandle" ∧ y_Mo_spoil.cls ≠ "java/lang/invoke/VarHandle" ∧ (parseMethodDescriptor y_Mo_spoil.desc).map (fun d => d.parameters.length) = some 2 := by decide +kernel
theorem hd_Mo_add : y_Mo_add.cls ≠ "java/lang/invoke/MethodHandle" ∧ y_Mo_add.cls ≠ "java/lang/invoke/VarHandle" ∧ (parseMethodDescriptor y_Mo_add.desc).map (fun d => d.parameters.length) = some 2 := by decide +kernel
theorem hd_Mo_box : y_Mo_box.cls ≠ "java/lang/invoke/MethodHandle" ∧ y_Mo_box.cls ≠ "java/lang/invoke/VarHandle" ∧ (parseMethodDescriptor y_Mo_box.desc).map (fun d => d.parameters.length) = some 2 := by decide +kernel
theorem hd_Mo_bytesOf : y_Mo_bytesOf.cls ≠ "java/lang/invoke/MethodHandle" ∧ y_Mo_bytesOf.cls ≠ "java/lang/invoke/VarHandle" ∧ (parseMethodDescriptor y_Mo_bytesOf.desc).map (fun d => d.parameters.length) = some 1 := by decide +kernel
theorem hd_Mo_areAlike : y_Mo_areAlike.cls ≠ "java/lang/invoke/MethodHandle" ∧ y_Mo_areAlike.cls ≠ "java/lang/invoke/VarHandle" ∧ (parseMethodDescriptor y_Mo_areAlike.desc).map (fun d => d.parameters.length) = some 0 := by decide +kernel
theorem hd_Mo_paletteSize : y_Mo_paletteSize.cls ≠ "java/lang/invoke/MethodHandle" ∧ y_Mo_paletteSize.cls ≠ "java/lang/invoke/VarHandle" ∧ (parseMethodDescriptor y_Mo_paletteSize.desc).map (fun d => d.parameters.length) = some 0 := by decide +kernel
theorem hd_Mo_isResolved : y_Mo_isResolved.cls ≠ "java/lang/invoke/MethodHandle" ∧ y_Mo_isResolved.cls ≠ "java/lang/invoke/VarHandle" ∧ (parseMethodDescriptor y_Mo_isResolved.desc).map (fun d => d.parameters.length) = some 1 := by decide +kernel
theorem hd_Mo_addResolution : y_Mo_addResolution.cls ≠ "java/lang/invoke/MethodHandle" ∧ y_Mo_addResolution.cls ≠ "java/lang/invoke/VarHandle" ∧ (parseMethodDescriptor y_Mo_addResolution.desc).map (fun d => d.parameters.length) = some 2 := by decide +kernel
theorem hd_Mo_addPalette : y_Mo_addPalette.cls ≠ "java/lang/invoke/MethodHandle" ∧ y_Mo_addPalette.cls ≠ "java/lang/invoke/VarHandle" ∧ (parseMethodDescriptor y_Mo_addPalette.desc).map (fun d => d.parameters.length) = some 0 := by decide +kernel
theorem hd_Mo_addHead : y_Mo_addHead.cls ≠ "java/lang/invoke/MethodHandle" ∧ y_Mo_addHead.cls ≠ "java/lang/invoke/VarHandle" ∧ (parseMethodDescriptor y_Mo_addHead.desc).map (fun d => d.parameters.length) = some 0 := by decide +kernel
theorem hd_Mo_isWhole : y_Mo_isWhole.cls ≠ "java/lang/invoke/MethodHandle" ∧ y_Mo_isWhole.cls ≠ "java/lang/invoke/VarHandle" ∧ (parseMethodDescriptor y_Mo_isWhole.desc).map (fun d => d.parameters.length) = some 0 := by decide +kernel
theorem hd_Mo_write : y_Mo_write.cls ≠ "java/lang/invoke/MethodHandle" ∧ y_Mo_write.cls ≠ "java/lang/invoke/VarHandle" ∧ (parseMethodDescriptor y_Mo_write.desc).map (fun d => d.parameters.length) = some 2 := by decide +kernel
theorem hd_Mo_u2 : y_Mo_u2.cls ≠ "java/lang/invoke/MethodHandle" ∧ y_Mo_u2.cls ≠ "java/lang/invoke/VarHandle" ∧ (parseMethodDescriptor y_Mo_u2.desc).map (fun d => d.parameters.length) = some 1 := by decide +kernel
theorem hd_Mo_u4 : y_Mo_u4.cls ≠ "java/lang/invoke/MethodHandle" ∧ y_Mo_u4.cls ≠ "java/lang/invoke/VarHandle" ∧ (parseMethodDescriptor y_Mo_u4.desc).map (fun d => d.parameters.length) = some 1 := by decide +kernel
theorem hd_Mo_no : y_Mo_no.cls ≠ "java/lang/invoke/MethodHandle" ∧ y_Mo_no.cls ≠ "java/lang/invoke/VarHandle" ∧ (parseMethodDescriptor y_Mo_no.desc).map (fun d => d.parameters.length) = some 2 := by decide +kernel
theorem hd_Mo_frame : y_Mo_frame.cls ≠ "java/lang/invoke/MethodHandle" ∧ y_Mo_frame.cls ≠ "java/lang/invoke/VarHandle" ∧ (parseMethodDescriptor y_Mo_frame.desc).map (fun d => d.parameters.length) = some 3 := by decide +kernel
theorem hd_Mo_isTop : y_Mo_isTop.cls ≠ "java/lang/invoke/MethodHandle" ∧ y_Mo_isTop.cls ≠ "java/lang/invoke/VarHandle" ∧ (parseMethodDescriptor y_Mo_isTop.desc).map (fun d => d.parameters.length) = some 0 := by decide +kernel
theorem hd_Mo_fitsPalette : y_Mo_fitsPalette.cls ≠ "java/lang/invoke/MethodHandle" ∧ y_Mo_fitsPalette.cls ≠ "java/lang/invoke/VarHandle" ∧ (parseMethodDescriptor y_Mo_fitsPalette.desc).map (fun d => d.parameters.length) = some 0 := by decide +kernel
theorem hd_Mo_fitsHead : y_Mo_fitsHead.cls ≠ "java/lang/invoke/MethodHandle" ∧ y_Mo_fitsHead.cls ≠ "java/lang/invoke/VarHandle" ∧ (parseMethodDescriptor y_Mo_fitsHead.desc).map (fun d => d.parameters.length) = some 0 := by decide +kernel
theorem hd_Mo_isWrong : y_Mo_isWrong.cls ≠ "java/lang/invoke/MethodHandle" ∧ y_Mo_isWrong.cls ≠ "java/lang/invoke/VarHandle" ∧ (parseMethodDescriptor y_Mo_isWrong.desc).map (fun d => d.parameters.length) = some 1 := by decide +kernel
theorem hd_Mo_isTwice : y_Mo_isTwice.cls ≠ "java/lang/invoke/MethodHandle" ∧ y_Mo_isTwice.cls ≠ "java/lang/invoke/VarHandle" ∧ (parseMethodDescriptor y_Mo_isTwice.desc).map (fun d => d.parameters.length) = some 0 := by decide +kernel
theorem hd_Mo_isGreat : y_Mo_isGreat.cls ≠ "java/lang/invoke/MethodHandle" ∧ y_Mo_isGreat.cls ≠ "java/lang/invoke/VarHandle" ∧ (parseMethodDescriptor y_Mo_isGreat.desc).map (fun d => d.parameters.length) = some 0 := by decide +kernel
theorem hd_Mo_areColumns : y_Mo_areColumns.cls ≠ "java/lang/invoke/MethodHandle" ∧ y_Mo_areColumns.cls ≠ "java/lang/invoke/VarHandle" ∧ (parseMethodDescriptor y_Mo_areColumns.desc).map (fun d => d.parameters.length) = some 0 := by decide +kernel
theorem hd_Mo_isMap : y_Mo_isMap.cls ≠ "java/lang/invoke/MethodHandle" ∧ y_Mo_isMap.cls ≠ "java/lang/invoke/VarHandle" ∧ (parseMethodDescriptor y_Mo_isMap.desc).map (fun d => d.parameters.length) = some 0 := by decide +kernel
theorem hd_Mo_isValue : y_Mo_isValue.cls ≠ "java/lang/invoke/MethodHandle" ∧ y_Mo_isValue.cls ≠ "java/lang/invoke/VarHandle" ∧ (parseMethodDescriptor y_Mo_isValue.desc).map (fun d => d.parameters.length) = some 0 := by decide +kernel
theorem hd_Mo_note : y_Mo_note.cls ≠ "java/lang/invoke/MethodHandle" ∧ y_Mo_note.cls ≠ "java/lang/invoke/VarHandle" ∧ (parseMethodDescriptor y_Mo_note.desc).map (fun d => d.parameters.length) = some 0 := by decide +kernel
theorem hd_Mo_inResolution : y_Mo_inResolution.cls ≠ "java/lang/invoke/MethodHandle" ∧ y_Mo_inResolution.cls ≠ "java/lang/invoke/VarHandle" ∧ (parseMethodDescriptor y_Mo_inResolution.desc).map (fun d => d.parameters.length) = some 0 := by decide +kernel
theorem hd_Mo_channelsThere : y_Mo_channelsThere.cls ≠ "java/lang/invoke/MethodHandle" ∧ y_Mo_channelsThere.cls ≠ "java/lang/invoke/VarHandle" ∧ (parseMethodDescriptor y_Mo_channelsThere.desc).map (fun d => d.parameters.length) = some 0 := by decide +kernel
theorem hd_Mo_behindHead : y_Mo_behindHead.cls ≠ "java/lang/invoke/MethodHandle" ∧ y_Mo_behindHead.cls ≠ "java/lang/invoke/VarHandle" ∧ (parseMethodDescriptor y_Mo_behindHead.desc).map (fun d => d.parameters.length) = some 0 := by decide +kernel
theorem hd_Mo_inHead : y_Mo_inHead.cls ≠ "java/lang/invoke/MethodHandle" ∧ y_Mo_inHead.cls ≠ "java/lang/invoke/VarHandle" ∧ (parseMethodDescriptor y_Mo_inHead.desc).map (fun d => d.parameters.length) = some 1 := by decide +kernel
theorem hd_Mo_isKind : y_Mo_isKind.cls ≠ "java/lang/invoke/MethodHandle" ∧ y_Mo_isKind.cls ≠ "java/lang/invoke/VarHandle" ∧ (parseMethodDescriptor y_Mo_isKind.desc).map (fun d => d.parameters.length) = some 0 := by decide +kernel
theorem hd_Mo_atTop : y_Mo_atTop.cls ≠ "java/lang/invoke/MethodHandle" ∧ y_Mo_atTop.cls ≠ "java/lang/invoke/VarHandle" ∧ (parseMethodDescriptor y_Mo_atTop.desc).map (fun d => d.parameters.length) = some 3 := by decide +kernel
theorem hd_Mo_forget : y_Mo_forget.cls ≠ "java/lang/invoke/MethodHandle" ∧ y_Mo_forget.cls ≠ "java/lang/invoke/VarHandle" ∧ (parseMethodDescriptor y_Mo_forget.desc).map (fun d => d.parameters.length) = some 0 := by decide +kernel
theorem hd_Mo_walk : y_Mo_walk.cls ≠ "java/lang/invoke/MethodHandle" ∧ y_Mo_walk.cls ≠ "java/lang/invoke/VarHandle" ∧ (parseMethodDescriptor y_Mo_walk.desc).map (fun d => d.parameters.length) = some 0 := by decide +kernel
theorem hd_Mo_scan : y_Mo_scan.cls ≠ "java/lang/invoke/MethodHandle" ∧ y_Mo_scan.cls ≠ "java/lang/invoke/VarHandle" ∧ (parseMethodDescriptor y_Mo_scan.desc).map (fun d => d.parameters.length) = some 0 := by decide +kernel
theorem hd_Mo_place : y_Mo_place.cls ≠ "java/lang/invoke/MethodHandle" ∧ y_Mo_place.cls ≠ "java/lang/invoke/VarHandle" ∧ (parseMethodDescriptor y_Mo_place.desc).map (fun d => d.parameters.length) = some 0 := by decide +kernel
theorem hd_Mo_stream : y_Mo_stream.cls ≠ "java/lang/invoke/MethodHandle" ∧ y_Mo_stream.cls ≠ "java/lang/invoke/VarHandle" ∧ (parseMethodDescriptor y_Mo_stream.desc).map (fun d => d.parameters.length) = some 1 := by decide +kernel
theorem hd_Mo_makePalette : y_Mo_makePalette.cls ≠ "java/lang/invoke/MethodHandle" ∧ y_Mo_makePalette.cls ≠ "java/lang/invoke/VarHandle" ∧ (parseMethodDescriptor y_Mo_makePalette.desc).map (fun d => d.parameters.length) = some 0 := by decide +kernel
theorem hd_Mo_makeResolution : y_Mo_makeResolution.cls ≠ "java/lang/invoke/MethodHandle" ∧ y_Mo_makeResolution.cls ≠ "java/lang/invoke/VarHandle" ∧ (parseMethodDescriptor y_Mo_makeResolution.desc).map (fun d => d.parameters.length) = some 2 := by decide +kernel
theorem hd_Mo_make : y_Mo_make.cls ≠ "java/lang/invoke/MethodHandle" ∧ y_Mo_make.cls ≠ "java/lang/invoke/VarHandle" ∧ (parseMethodDescriptor y_Mo_make.desc).map (fun d => d.parameters.length) = some 0 := by decide +kernel
theorem hd_Ar_copyOf : y_Ar_copyOf.cls ≠ "java/lang/invoke/MethodHandle" ∧ y_Ar_copyOf.cls ≠ "java/lang/invoke/VarHandle" ∧ (parseMethodDescriptor y_Ar_copyOf.desc).map (fun d => d.parameters.length) = some 2 := by decide +kernel
theorem hd_Ar_fillI : y_Ar_fillI.cls ≠ "java/lang/invoke/MethodHandle" ∧ y_Ar_fillI.cls ≠ "java/lang/invoke/VarHandle" ∧ (parseMethodDescriptor y_Ar_fillI.desc).map (fun d => d.parameters.length) = some 2 := by decide +kernel
theorem hd_Ar_fillJ : y_Ar_fillJ.cls ≠ "java/lang/invoke/MethodHandle" ∧ y_Ar_fillJ.cls ≠ "java/lang/invoke/VarHandle" ∧ (parseMethodDescriptor y_Ar_fillJ.desc).map (fun d => d.parameters.length) = some 2 := by decide +kernel
theorem hd_La_size : y_La_size.cls ≠ "java/lang/invoke/MethodHandle" ∧ y_La_size.cls ≠ "java/lang/invoke/VarHandle" ∧ (parseMethodDescriptor y_La_size.desc).map (fun d => d.parameters.length) = some 7 := by decide +kernel
theorem hd_La_bits : y_La_bits.cls ≠ "java/lang/invoke/MethodHandle" ∧ y_La_bits.cls ≠ "java/lang/invoke/VarHandle" ∧ (parseMethodDescriptor y_La_bits.desc).map (fun d => d.parameters.length) = some 3 := by decide +kernel
theorem hd_La_colours : y_La_colours.cls ≠ "java/lang/invoke/MethodHandle" ∧ y_La_colours.cls ≠ "java/lang/invoke/VarHandle" ∧ (parseMethodDescriptor y_La_colours.desc).map (fun d => d.parameters.length) = some 2 := by decide +kernel
theorem hd_La_profile : y_La_profile.cls ≠ "java/lang/invoke/MethodHandle" ∧ y_La_profile.cls ≠ "java/lang/invoke/VarHandle" ∧ (parseMethodDescriptor y_La_profile.desc).map (fun d => d.parameters.length) = some 3 := by decide +kernel
theorem hd_La_palette : y_La_palette.cls ≠ "java/lang/invoke/MethodHandle" ∧ y_La_palette.cls ≠ "java/lang/invoke/VarHandle" ∧ (parseMethodDescriptor y_La_palette.desc).map (fun d => d.parameters.length) = some 3 := by decide +kernel
theorem hd_La_column : y_La_column.cls ≠ "java/lang/invoke/MethodHandle" ∧ y_La_column.cls ≠ "java/lang/invoke/VarHandle" ∧ (parseMethodDescriptor y_La_column.desc).map (fun d => d.parameters.length) = some 3 := by decide +kernel
theorem hd_La_entry : y_La_entry.cls ≠ "java/lang/invoke/MethodHandle" ∧ y_La_entry.cls ≠ "java/lang/invoke/VarHandle" ∧ (parseMethodDescriptor y_La_entry.desc).map (fun d => d.parameters.length) = some 4 := by decide +kernel
theorem hd_La_map : y_La_map.cls ≠ "java/lang/invoke/MethodHandle" ∧ y_La_map.cls ≠ "java/lang/invoke/VarHandle" ∧ (parseMethodDescriptor y_La_map.desc).map (fun d => d.parameters.length) = some 5 := by decide +kernel
theorem hd_La_channel : y_La_channel.cls ≠ "java/lang/invoke/MethodHandle" ∧ y_La_channel.cls ≠ "java/lang/invoke/VarHandle" ∧ (parseMethodDescriptor y_La_channel.desc).map (fun d => d.parameters.length) = some 5 := by decide +kernel
theorem hd_La_resolution : y_La_resolution.cls ≠ "java/lang/invoke/MethodHandle" ∧ y_La_resolution.cls ≠ "java/lang/invoke/VarHandle" ∧ (parseMethodDescriptor y_La_resolution.desc).map (fun d => d.parameters.length) = some 8 := by decide +kernel
theorem hd_La_get : y_La_get.cls ≠ "java/lang/invoke/MethodHandle" ∧ y_La_get.cls ≠ "java/lang/invoke/VarHandle" ∧ (parseMethodDescriptor y_La_get.desc).map (fun d => d.parameters.length) = some 4 := by decide +kernel
theorem hd_La_number : y_La_number.cls ≠ "java/lang/invoke/MethodHandle" ∧ y_La_number.cls ≠ "java/lang/invoke/VarHandle" ∧ (parseMethodDescriptor y_La_number.desc).map (fun d => d.parameters.length) = some 4 := by decide +kernel
theorem hd_La_shown : y_La_shown.cls ≠ "java/lang/invoke/MethodHandle" ∧ y_La_shown.cls ≠ "java/lang/invoke/VarHandle" ∧ (parseMethodDescriptor y_La_shown.desc).map (fun d => d.parameters.length) = some 4 := by decide +kernel
theorem hd_La_put : y_La_put.cls ≠ "java/lang/invoke/MethodHandle" ∧ y_La_put.cls ≠ "java/lang/invoke/VarHandle" ∧ (parseMethodDescriptor y_La_put.desc).map (fun d => d.parameters.length) = some 3 := by decide +kernel
theorem hd_La_at : y_La_at.cls ≠ "java/lang/invoke/MethodHandle" ∧ y_La_at.cls ≠ "java/lang/invoke/VarHandle" ∧ (parseMethodDescriptor y_La_at.desc).map (fun d => d.parameters.length) = some 3 := by decide +kernel
theorem hd_La_spoil : y_La_spoil.cls ≠ "java/lang/invoke/MethodHandle" ∧ y_La_spoil.cls ≠ "java/lang/invoke/VarHandle" ∧ (parseMethodDescriptor y_La_spoil.desc).map (fun d => d.parameters.length) = some 3 := by decide +kernel
theorem hd_La_write : y_La_write.cls ≠ "java/lang/invoke/MethodHandle" ∧ y_La_write.cls ≠ "java/lang/invoke/VarHandle" ∧ (parseMethodDescriptor y_La_write.desc).map (fun d => d.parameters.length) = some 4 := by decide +kernel
theorem hd_La_stream : y_La_stream.cls ≠ "java/lang/invoke/MethodHandle" ∧ y_La_stream.cls ≠ "java/lang/invoke/VarHandle" ∧ (parseMethodDescriptor y_La_stream.desc).map (fun d => d.parameters.length) = some 3 := by decide +kernel
theorem i_By : ∀ w ∈ u_ws R_By F_By 3, w ∈ ALL := by
  have h : ∀ w ∈ u_ws R_By F_By 3, w ∈ tables_1 ∧ goodWord w = true := by decide +kernel
  exact fun w hw => all_of (List.mem_append_right _ (h w hw).1) (h w hw).2
theorem i_Li : ∀ w ∈ u_ws R_Li F_Li 2, w ∈ ALL := by
  have h : ∀ w ∈ u_ws R_Li F_Li 2, w ∈ tables_1 ∧ goodWord w = true := by decide +kernel
  exact fun w hw => all_of (List.mem_append_right _ (h w hw).1) (h w hw).2
theorem i_Pa : ∀ w ∈ u_ws R_Pa F_Pa 4, w ∈ ALL := by
  have h : ∀ w ∈ u_ws R_Pa F_Pa 4, w ∈ tables_1 ∧ goodWord w = true := by decide +kernel
  exact fun w hw => all_of (List.mem_append_right _ (h w hw).1) (h w hw).2
theorem i_Pl : ∀ w ∈ u_ws R_Pl F_Pl 14, w ∈ ALL := by
  have h : ∀ w ∈ u_ws R_Pl F_Pl 14, w ∈ tables_1 ∧ goodWord w = true := by decide +kernel
  exact fun w hw => all_of (List.mem_append_right _ (h w hw).1) (h w hw).2
theorem i_Wr : ∀ w ∈ u_ws R_Wr F_Wr 1, w ∈ ALL := by
  have h : ∀ w ∈ u_ws R_Wr F_Wr 1, w ∈ tables_1 ∧ goodWord w = true := by decide +kernel
  exact fun w hw => all_of (List.mem_append_right _ (h w hw).1) (h w hw).2
theorem i_Sc : ∀ w ∈ u_ws R_Sc F_Sc 16, w ∈ ALL := by
  have h : ∀ w ∈ u_ws R_Sc F_Sc 16, w ∈ tables_1 ∧ goodWord w = true := by decide +kernel
  exact fun w hw => all_of (List.mem_append_right _ (h w hw).1) (h w hw).2
theorem i_FB : ∀ w ∈ u_ws R_FB F_FB 6, w ∈ ALL := by
  have h : ∀ w ∈ u_ws R_FB F_FB 6, w ∈ tables_1 ∧ goodWord w = true := by decide +kernel
  exact fun w hw => all_of (List.mem_append_right _ (h w hw).1) (h w hw).2
theorem i_Mo : ∀ w ∈ u_ws R_Mo F_Mo 40, w ∈ ALL := by
  have h : ∀ w ∈ u_ws R_Mo F_Mo 40, w ∈ tables_1 ∧ goodWord w = true := by decide +kernel
  exact fun w hw => all_of (List.mem_append_right _ (h w hw).1) (h w hw).2
theorem sel_p {w : Cond} (i : Nat) (h : (k2_sels lw_privs)[i]? = some w) (hg : goodWord w = true) : w ∈ ALL := all_of (List.mem_append_left _ (List.mem_of_getElem? h)) hg
theorem sel_Sc_limit : Cond.selects "FileBoxes$Scan" y_Sc_limit y_Sc_limit ∈ ALL := sel_p 0 (by decide +kernel) rfl
theorem sel_Sc_readBox : Cond.selects "FileBoxes$Scan" y_Sc_readBox y_Sc_readBox ∈ ALL := sel_p 1 (by decide +kernel) rfl
theorem sel_Sc_open : Cond.selects "FileBoxes$Scan" y_Sc_open y_Sc_open ∈ ALL := sel_p 2 (by decide +kernel) rfl
theorem sel_Sc_readInFile : Cond.selects "FileBoxes$Scan" y_Sc_readInFile y_Sc_readInFile ∈ ALL := sel_p 3 (by decide +kernel) rfl
theorem sel_Sc_readSign : Cond.selects "FileBoxes$Scan" y_Sc_readSign y_Sc_readSign ∈ ALL := sel_p 4 (by decide +kernel) rfl
theorem sel_Sc_content : Cond.selects "FileBoxes$Scan" y_Sc_content y_Sc_content ∈ ALL := sel_p 5 (by decide +kernel) rfl
theorem sel_Sc_readKind : Cond.selects "FileBoxes$Scan" y_Sc_readKind y_Sc_readKind ∈ ALL := sel_p 6 (by decide +kernel) rfl
theorem sel_Sc_enterHead : Cond.selects "FileBoxes$Scan" y_Sc_enterHead y_Sc_enterHead ∈ ALL := sel_p 7 (by decide +kernel) rfl
theorem sel_Sc_was : Cond.selects "FileBoxes$Scan" y_Sc_was y_Sc_was ∈ ALL := sel_p 8 (by decide +kernel) rfl
theorem sel_Sc_readStream : Cond.selects "FileBoxes$Scan" y_Sc_readStream y_Sc_readStream ∈ ALL := sel_p 9 (by decide +kernel) rfl
theorem sel_Sc_readInHead : Cond.selects "FileBoxes$Scan" y_Sc_readInHead y_Sc_readInHead ∈ ALL := sel_p 10 (by decide +kernel) rfl
theorem sel_Sc_readSize : Cond.selects "FileBoxes$Scan" y_Sc_readSize y_Sc_readSize ∈ ALL := sel_p 11 (by decide +kernel) rfl
theorem sel_Sc_readBits : Cond.selects "FileBoxes$Scan" y_Sc_readBits y_Sc_readBits ∈ ALL := sel_p 12 (by decide +kernel) rfl
theorem sel_Sc_readColour : Cond.selects "FileBoxes$Scan" y_Sc_readColour y_Sc_readColour ∈ ALL := sel_p 13 (by decide +kernel) rfl
theorem sel_Sc_readColours : Cond.selects "FileBoxes$Scan" y_Sc_readColours y_Sc_readColours ∈ ALL := sel_p 14 (by decide +kernel) rfl
theorem sel_Sc_readPalette : Cond.selects "FileBoxes$Scan" y_Sc_readPalette y_Sc_readPalette ∈ ALL := sel_p 15 (by decide +kernel) rfl
theorem sel_Sc_paletteHasItsLength : Cond.selects "FileBoxes$Scan" y_Sc_paletteHasItsLength y_Sc_paletteHasItsLength ∈ ALL := sel_p 16 (by decide +kernel) rfl
theorem sel_Sc_readNumbers : Cond.selects "FileBoxes$Scan" y_Sc_readNumbers y_Sc_readNumbers ∈ ALL := sel_p 17 (by decide +kernel) rfl
theorem sel_Sc_readMap : Cond.selects "FileBoxes$Scan" y_Sc_readMap y_Sc_readMap ∈ ALL := sel_p 18 (by decide +kernel) rfl
theorem sel_Sc_readMeanings : Cond.selects "FileBoxes$Scan" y_Sc_readMeanings y_Sc_readMeanings ∈ ALL := sel_p 19 (by decide +kernel) rfl
theorem sel_Sc_enterResolution : Cond.selects "FileBoxes$Scan" y_Sc_enterResolution y_Sc_enterResolution ∈ ALL := sel_p 20 (by decide +kernel) rfl
theorem sel_Sc_readInResolution : Cond.selects "FileBoxes$Scan" y_Sc_readInResolution y_Sc_readInResolution ∈ ALL := sel_p 21 (by decide +kernel) rfl
theorem sel_Sc_readRatio : Cond.selects "FileBoxes$Scan" y_Sc_readRatio y_Sc_readRatio ∈ ALL := sel_p 22 (by decide +kernel) rfl
theorem sel_Sc_leave : Cond.selects "FileBoxes$Scan" y_Sc_leave y_Sc_leave ∈ ALL := sel_p 23 (by decide +kernel) rfl
theorem sel_Sc_endOfHead : Cond.selects "FileBoxes$Scan" y_Sc_endOfHead y_Sc_endOfHead ∈ ALL := sel_p 24 (by decide +kernel) rfl
theorem sel_FB_listed : Cond.selects "FileBoxes" y_FB_listed y_FB_listed ∈ ALL := sel_p 26 (by decide +kernel) rfl
theorem sel_Wr_begin : Cond.selects "FileBoxes$Writer" y_Wr_begin y_Wr_begin ∈ ALL := sel_p 27 (by decide +kernel) rfl
theorem sel_Wr_putHead : Cond.selects "FileBoxes$Writer" y_Wr_putHead y_Wr_putHead ∈ ALL := sel_p 28 (by decide +kernel) rfl
theorem sel_Wr_putSize : Cond.selects "FileBoxes$Writer" y_Wr_putSize y_Wr_putSize ∈ ALL := sel_p 29 (by decide +kernel) rfl
theorem sel_Wr_putBits : Cond.selects "FileBoxes$Writer" y_Wr_putBits y_Wr_putBits ∈ ALL := sel_p 30 (by decide +kernel) rfl
theorem sel_Wr_putColour : Cond.selects "FileBoxes$Writer" y_Wr_putColour y_Wr_putColour ∈ ALL := sel_p 31 (by decide +kernel) rfl
theorem sel_Wr_putPalette : Cond.selects "FileBoxes$Writer" y_Wr_putPalette y_Wr_putPalette ∈ ALL := sel_p 32 (by decide +kernel) rfl
theorem sel_Wr_putEntry : Cond.selects "FileBoxes$Writer" y_Wr_putEntry y_Wr_putEntry ∈ ALL := sel_p 33 (by decide +kernel) rfl
theorem sel_Wr_putMap : Cond.selects "FileBoxes$Writer" y_Wr_putMap y_Wr_putMap ∈ ALL := sel_p 34 (by decide +kernel) rfl
theorem sel_Wr_putMeanings : Cond.selects "FileBoxes$Writer" y_Wr_putMeanings y_Wr_putMeanings ∈ ALL := sel_p 35 (by decide +kernel) rfl
theorem sel_Wr_putResolution : Cond.selects "FileBoxes$Writer" y_Wr_putResolution y_Wr_putResolution ∈ ALL := sel_p 36 (by decide +kernel) rfl
theorem sel_Wr_putRatio : Cond.selects "FileBoxes$Writer" y_Wr_putRatio y_Wr_putRatio ∈ ALL := sel_p 37 (by decide +kernel) rfl
theorem sel_Mo_empty : Cond.selects "FileBoxesModel" y_Mo_empty y_Mo_empty ∈ ALL := sel_p 38 (by decide +kernel) rfl
theorem sel_Mo_refuse : Cond.selects "FileBoxesModel" y_Mo_refuse y_Mo_refuse ∈ ALL := sel_p 39 (by decide +kernel) rfl
theorem sel_Mo_isNumber : Cond.selects "FileBoxesModel" y_Mo_isNumber y_Mo_isNumber ∈ ALL := sel_p 40 (by decide +kernel) rfl
theorem sel_Mo_isTold : Cond.selects "FileBoxesModel" y_Mo_isTold y_Mo_isTold ∈ ALL := sel_p 41 (by decide +kernel) rfl
theorem sel_Mo_tell : Cond.selects "FileBoxesModel" y_Mo_tell y_Mo_tell ∈ ALL := sel_p 42 (by decide +kernel) rfl
theorem sel_Mo_countOf : Cond.selects "FileBoxesModel" y_Mo_countOf y_Mo_countOf ∈ ALL := sel_p 43 (by decide +kernel) rfl
theorem sel_Mo_told : Cond.selects "FileBoxesModel" y_Mo_told y_Mo_told ∈ ALL := sel_p 44 (by decide +kernel) rfl
theorem sel_Mo_isWhole : Cond.selects "FileBoxesModel" y_Mo_isWhole y_Mo_isWhole ∈ ALL := sel_p 45 (by decide +kernel) rfl
theorem sel_Mo_box : Cond.selects "FileBoxesModel" y_Mo_box y_Mo_box ∈ ALL := sel_p 46 (by decide +kernel) rfl
theorem sel_Mo_add : Cond.selects "FileBoxesModel" y_Mo_add y_Mo_add ∈ ALL := sel_p 47 (by decide +kernel) rfl
theorem sel_Mo_addHead : Cond.selects "FileBoxesModel" y_Mo_addHead y_Mo_addHead ∈ ALL := sel_p 48 (by decide +kernel) rfl
theorem sel_Mo_areAlike : Cond.selects "FileBoxesModel" y_Mo_areAlike y_Mo_areAlike ∈ ALL := sel_p 49 (by decide +kernel) rfl
theorem sel_Mo_isResolved : Cond.selects "FileBoxesModel" y_Mo_isResolved y_Mo_isResolved ∈ ALL := sel_p 50 (by decide +kernel) rfl
theorem sel_Mo_paletteSize : Cond.selects "FileBoxesModel" y_Mo_paletteSize y_Mo_paletteSize ∈ ALL := sel_p 51 (by decide +kernel) rfl
theorem sel_Mo_addPalette : Cond.selects "FileBoxesModel" y_Mo_addPalette y_Mo_addPalette ∈ ALL := sel_p 52 (by decide +kernel) rfl
theorem sel_Mo_addResolution : Cond.selects "FileBoxesModel" y_Mo_addResolution y_Mo_addResolution ∈ ALL := sel_p 53 (by decide +kernel) rfl
theorem sel_Mo_walk : Cond.selects "FileBoxesModel" y_Mo_walk y_Mo_walk ∈ ALL := sel_p 54 (by decide +kernel) rfl
theorem sel_Mo_forget : Cond.selects "FileBoxesModel" y_Mo_forget y_Mo_forget ∈ ALL := sel_p 55 (by decide +kernel) rfl
theorem sel_Mo_frame : Cond.selects "FileBoxesModel" y_Mo_frame y_Mo_frame ∈ ALL := sel_p 56 (by decide +kernel) rfl
theorem sel_Mo_u4 : Cond.selects "FileBoxesModel" y_Mo_u4 y_Mo_u4 ∈ ALL := sel_p 57 (by decide +kernel) rfl
theorem sel_Mo_u2 : Cond.selects "FileBoxesModel" y_Mo_u2 y_Mo_u2 ∈ ALL := sel_p 58 (by decide +kernel) rfl
theorem sel_Mo_atTop : Cond.selects "FileBoxesModel" y_Mo_atTop y_Mo_atTop ∈ ALL := sel_p 59 (by decide +kernel) rfl
theorem sel_Mo_isKind : Cond.selects "FileBoxesModel" y_Mo_isKind y_Mo_isKind ∈ ALL := sel_p 60 (by decide +kernel) rfl
theorem sel_Mo_no : Cond.selects "FileBoxesModel" y_Mo_no y_Mo_no ∈ ALL := sel_p 61 (by decide +kernel) rfl
theorem sel_Mo_inHead : Cond.selects "FileBoxesModel" y_Mo_inHead y_Mo_inHead ∈ ALL := sel_p 62 (by decide +kernel) rfl
theorem sel_Mo_isWrong : Cond.selects "FileBoxesModel" y_Mo_isWrong y_Mo_isWrong ∈ ALL := sel_p 63 (by decide +kernel) rfl
theorem sel_Mo_isTop : Cond.selects "FileBoxesModel" y_Mo_isTop y_Mo_isTop ∈ ALL := sel_p 64 (by decide +kernel) rfl
theorem sel_Mo_fitsHead : Cond.selects "FileBoxesModel" y_Mo_fitsHead y_Mo_fitsHead ∈ ALL := sel_p 65 (by decide +kernel) rfl
theorem sel_Mo_fitsPalette : Cond.selects "FileBoxesModel" y_Mo_fitsPalette y_Mo_fitsPalette ∈ ALL := sel_p 66 (by decide +kernel) rfl
theorem sel_Mo_isTwice : Cond.selects "FileBoxesModel" y_Mo_isTwice y_Mo_isTwice ∈ ALL := sel_p 67 (by decide +kernel) rfl
theorem sel_Mo_isGreat : Cond.selects "FileBoxesModel" y_Mo_isGreat y_Mo_isGreat ∈ ALL := sel_p 68 (by decide +kernel) rfl
theorem sel_Mo_isValue : Cond.selects "FileBoxesModel" y_Mo_isValue y_Mo_isValue ∈ ALL := sel_p 69 (by decide +kernel) rfl
theorem sel_Mo_areColumns : Cond.selects "FileBoxesModel" y_Mo_areColumns y_Mo_areColumns ∈ ALL := sel_p 70 (by decide +kernel) rfl
theorem sel_Mo_isMap : Cond.selects "FileBoxesModel" y_Mo_isMap y_Mo_isMap ∈ ALL := sel_p 71 (by decide +kernel) rfl
theorem sel_Mo_note : Cond.selects "FileBoxesModel" y_Mo_note y_Mo_note ∈ ALL := sel_p 72 (by decide +kernel) rfl
theorem sel_Mo_inResolution : Cond.selects "FileBoxesModel" y_Mo_inResolution y_Mo_inResolution ∈ ALL := sel_p 73 (by decide +kernel) rfl
theorem sel_Mo_behindHead : Cond.selects "FileBoxesModel" y_Mo_behindHead y_Mo_behindHead ∈ ALL := sel_p 74 (by decide +kernel) rfl
theorem sel_Mo_channelsThere : Cond.selects "FileBoxesModel" y_Mo_channelsThere y_Mo_channelsThere ∈ ALL := sel_p 75 (by decide +kernel) rfl
theorem sel_Mo_make : Cond.selects "FileBoxesModel" y_Mo_make y_Mo_make ∈ ALL := sel_p 76 (by decide +kernel) rfl
theorem sel_Mo_makePalette : Cond.selects "FileBoxesModel" y_Mo_makePalette y_Mo_makePalette ∈ ALL := sel_p 77 (by decide +kernel) rfl
theorem sel_Mo_makeResolution : Cond.selects "FileBoxesModel" y_Mo_makeResolution y_Mo_makeResolution ∈ ALL := sel_p 78 (by decide +kernel) rfl
