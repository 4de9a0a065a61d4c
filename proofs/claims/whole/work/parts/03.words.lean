theorem tw_0 : (.selects "DrawCommands$Told" y_T_forgetOne y_T_forgetOne : Cond) ∈ TB := tb_0 0 rfl rfl
theorem tw_1 : (.selects "DrawCommands$Told" y_T_placeOf y_T_placeOf : Cond) ∈ TB := tb_0 1 rfl rfl
theorem tw_2 : (.selects "DrawCommands" y_D_startAnew y_D_startAnew : Cond) ∈ TB := tb_0 2 rfl rfl
theorem tw_4 : (.selects "DrawCommands" y_D_refusalHere y_D_refusalHere : Cond) ∈ TB := tb_0 4 rfl rfl
theorem tw_5 : (.selects "DrawCommands" y_D_readCommand y_D_readCommand : Cond) ∈ TB := tb_0 5 rfl rfl
theorem tw_6 : (.selects "DrawCommands" y_D_sourceLength y_D_sourceLength : Cond) ∈ TB := tb_0 6 rfl rfl
theorem tw_7 : (.selects "DrawCommands" y_D_readBeyondTheEnd y_D_readBeyondTheEnd : Cond) ∈ TB := tb_0 7 rfl rfl
theorem tw_8 : (.selects "DrawCommands" y_D_sourceWord y_D_sourceWord : Cond) ∈ TB := tb_0 8 rfl rfl
theorem tw_9 : (.selects "DrawCommands" y_D_argumentsHere y_D_argumentsHere : Cond) ∈ TB := tb_0 9 rfl rfl
theorem tw_10 : (.selects "DrawCommands" y_D_placesAreThere y_D_placesAreThere : Cond) ∈ TB := tb_0 10 rfl rfl
theorem tw_11 : (.selects "DrawCommands" y_D_stateAllows y_D_stateAllows : Cond) ∈ TB := tb_0 11 rfl rfl
theorem tw_12 : (.selects "DrawCommands" y_D_carryOut y_D_carryOut : Cond) ∈ TB := tb_0 12 rfl rfl
theorem tw_13 : (.selects "DrawCommands" y_D_keepUniforms y_D_keepUniforms : Cond) ∈ TB := tb_0 13 rfl rfl
theorem tw_14 : (.selects "DrawCommands" y_D_storeWords y_D_storeWords : Cond) ∈ TB := tb_0 14 rfl rfl
theorem tw_15 : (.selects "DrawCommandsModel" y_M_nothingTold y_M_nothingTold : Cond) ∈ TB := tb_0 15 rfl rfl
theorem tw_16 : (.selects "DrawCommandsModel" y_M_refuse y_M_refuse : Cond) ∈ TB := tb_0 16 rfl rfl
theorem tw_17 : (.selects "DrawCommandsModel" y_M_anew y_M_anew : Cond) ∈ TB := tb_0 17 rfl rfl
theorem tw_18 : (.selects "DrawCommandsModel" y_M_look y_M_look : Cond) ∈ TB := tb_0 18 rfl rfl
theorem tw_19 : (.selects "DrawCommandsModel" y_M_isThere y_M_isThere : Cond) ∈ TB := tb_0 19 rfl rfl
theorem tw_20 : (.selects "DrawCommandsModel" y_M_read y_M_read : Cond) ∈ TB := tb_0 20 rfl rfl
theorem tw_21 : (.selects "DrawCommandsModel" y_M_length y_M_length : Cond) ∈ TB := tb_0 21 rfl rfl
theorem tw_22 : (.selects "DrawCommandsModel" y_M_liesRight y_M_liesRight : Cond) ∈ TB := tb_0 22 rfl rfl
theorem tw_23 : (.selects "DrawCommandsModel" y_M_isInMemory y_M_isInMemory : Cond) ∈ TB := tb_0 23 rfl rfl
theorem tw_24 : (.selects "DrawCommandsModel" y_M_fitsState y_M_fitsState : Cond) ∈ TB := tb_0 24 rfl rfl
theorem tw_25 : (.selects "DrawCommandsModel" y_M_perform y_M_perform : Cond) ∈ TB := tb_0 25 rfl rfl
theorem tw_26 : (.selects "DrawCommandsModel" y_M_keep y_M_keep : Cond) ∈ TB := tb_0 26 rfl rfl
theorem tw_27 : (.initialized "DrawCommandsLaw" : Cond) ∈ TB := tb_1 0 rfl rfl
theorem tw_28 : (.initialized "DrawCommands" : Cond) ∈ TB := tb_1 1 rfl rfl
theorem tw_29 : (.initialized "DrawCommands$Told" : Cond) ∈ TB := tb_1 2 rfl rfl
theorem tw_30 : (.initialized "DrawCommands$Shape" : Cond) ∈ TB := tb_1 3 rfl rfl
theorem tw_31 : (.initialized "java/lang/Math" : Cond) ∈ TB := tb_1 4 rfl rfl
theorem tw_32 : (.initialized "DrawCommands$Command" : Cond) ∈ TB := tb_1 5 rfl rfl
theorem tw_33 : (.initialized "DrawCommands$Run" : Cond) ∈ TB := tb_1 6 rfl rfl
theorem tw_34 : (.initialized "DrawCommandsModel" : Cond) ∈ TB := tb_1 7 rfl rfl
theorem tw_35 : (.initialized "java/lang/Throwable" : Cond) ∈ TB := tb_1 8 rfl rfl
theorem tw_36 : (.initialized "java/lang/Exception" : Cond) ∈ TB := tb_1 9 rfl rfl
theorem tw_37 : (.initialized "java/lang/RuntimeException" : Cond) ∈ TB := tb_1 10 rfl rfl
theorem tw_38 : (.initialized "java/lang/IndexOutOfBoundsException" : Cond) ∈ TB := tb_1 11 rfl rfl
theorem tw_39 : (.initialized "java/lang/IllegalArgumentException" : Cond) ∈ TB := tb_1 12 rfl rfl
theorem tw_40 : (.initialized "java/lang/UnsupportedOperationException" : Cond) ∈ TB := tb_1 13 rfl rfl
theorem tw_41 : (.initialized "java/lang/IllegalStateException" : Cond) ∈ TB := tb_1 14 rfl rfl
theorem tw_42 : (.classLink "DrawCommandsLaw" 8 "DrawCommands" : Cond) ∈ TB := tb_1 15 rfl rfl
theorem tw_43 : (.instantiable "DrawCommands" 8 : Cond) ∈ TB := tb_1 16 rfl rfl
theorem tw_44 : (.methodLink "DrawCommandsLaw" 43 y_D_init : Cond) ∈ TB := tb_1 17 rfl rfl
theorem tw_45 : (.instanceMethod y_D_init : Cond) ∈ TB := tb_1 18 rfl rfl
theorem tw_46 : (.code y_D_init prog_1_method_1_code 1 (Option.none : Option Jvm.ClassFile.FieldType) : Cond) ∈ TB := tb_1 19 rfl rfl
theorem tw_47 : (.methodLink "DrawCommands" 1 objectInit : Cond) ∈ TB := tb_1 20 rfl rfl
theorem tw_48 : (.instanceMethod objectInit : Cond) ∈ TB := tb_1 21 rfl rfl
theorem tw_49 : (.code objectInit object_method_1_code 1 (Option.none : Option Jvm.ClassFile.FieldType) : Cond) ∈ TB := tb_1 22 rfl rfl
theorem tw_50 : (.classLink "DrawCommands" 16 "DrawCommands$Told" : Cond) ∈ TB := tb_1 23 rfl rfl
theorem tw_51 : (.instantiable "DrawCommands$Told" 2 : Cond) ∈ TB := tb_1 24 rfl rfl
theorem tw_52 : (.methodLink "DrawCommands" 18 y_T_init : Cond) ∈ TB := tb_1 25 rfl rfl
theorem tw_53 : (.instanceMethod y_T_init : Cond) ∈ TB := tb_1 26 rfl rfl
theorem tw_54 : (.code y_T_init prog_5_method_1_code 3 (Option.none : Option Jvm.ClassFile.FieldType) : Cond) ∈ TB := tb_1 27 rfl rfl
theorem tw_55 : (.methodLink "DrawCommands$Told" 3 objectInit : Cond) ∈ TB := tb_1 28 rfl rfl
theorem tw_57 : (.static y_D_write : Cond) ∈ TB := tb_1 30 rfl rfl
theorem tw_58 : (.code y_D_write prog_1_method_25_code 3 (Option.none : Option Jvm.ClassFile.FieldType) : Cond) ∈ TB := tb_1 31 rfl rfl
theorem tw_59 : (.methodLink "DrawCommands$Told" 21 y_S_holders : Cond) ∈ TB := tb_1 32 rfl rfl
theorem tw_60 : (.static y_S_holders : Cond) ∈ TB := tb_1 33 rfl rfl
theorem tw_61 : (.code y_S_holders prog_4_method_4_code 1 (Option.some Jvm.ClassFile.FieldType.int) : Cond) ∈ TB := tb_1 34 rfl rfl
theorem tw_62 : (.fieldLink "DrawCommands$Shape" 23 "DrawCommands$Shape" "HOLDERS" "[I" : Cond) ∈ TB := tb_1 35 rfl rfl
theorem tw_65 : (.static y_D_read : Cond) ∈ TB := tb_1 38 rfl rfl
theorem tw_66 : (.code y_D_read prog_1_method_24_code 2 (Option.some Jvm.ClassFile.FieldType.int) : Cond) ∈ TB := tb_1 39 rfl rfl
theorem tw_67 : (.methodLink "DrawCommands$Told" 25 y_S_fixed : Cond) ∈ TB := tb_1 40 rfl rfl
theorem tw_68 : (.static y_S_fixed : Cond) ∈ TB := tb_1 41 rfl rfl
theorem tw_69 : (.code y_S_fixed prog_4_method_3_code 1 (Option.some Jvm.ClassFile.FieldType.int) : Cond) ∈ TB := tb_1 42 rfl rfl
theorem tw_70 : (.methodLink "DrawCommands$Shape" 11 y_S_isKind : Cond) ∈ TB := tb_1 43 rfl rfl
theorem tw_71 : (.static y_S_isKind : Cond) ∈ TB := tb_1 44 rfl rfl
theorem tw_72 : (.code y_S_isKind prog_4_method_2_code 1 (Option.some Jvm.ClassFile.FieldType.boolean) : Cond) ∈ TB := tb_1 45 rfl rfl
theorem tw_73 : (.fieldLink "DrawCommands$Shape" 15 "DrawCommands$Shape" "FIRST" "[I" : Cond) ∈ TB := tb_1 46 rfl rfl
theorem tw_75 : (.methodLink "DrawCommands$Told" 28 (⟨"java/lang/Math", "max", "(II)I"⟩ : MethodName) : Cond) ∈ TB := tb_1 48 rfl rfl
theorem tw_76 : (.static (⟨"java/lang/Math", "max", "(II)I"⟩ : MethodName) : Cond) ∈ TB := tb_1 49 rfl rfl
theorem tw_77 : (.code (⟨"java/lang/Math", "max", "(II)I"⟩ : MethodName) prog_12_method_65_code 2 (Option.some Jvm.ClassFile.FieldType.int) : Cond) ∈ TB := tb_1 50 rfl rfl
theorem tw_78 : (.methodLink "DrawCommands$Told" 37 y_T_forget : Cond) ∈ TB := tb_1 51 rfl rfl
theorem tw_79 : (.instanceMethod y_T_forget : Cond) ∈ TB := tb_1 52 rfl rfl
theorem tw_80 : (.selects "DrawCommands$Told" y_T_forget y_T_forget : Cond) ∈ TB := tb_1 53 rfl rfl
theorem tw_81 : (.code y_T_forget prog_5_method_2_code 4 (Option.none : Option Jvm.ClassFile.FieldType) : Cond) ∈ TB := tb_1 54 rfl rfl
theorem tw_82 : (.methodLink "DrawCommands$Told" 40 y_T_forgetOne : Cond) ∈ TB := tb_1 55 rfl rfl
theorem tw_84 : (.instanceMethod y_T_forgetOne : Cond) ∈ TB := tb_1 57 rfl rfl
theorem tw_85 : (.code y_T_forgetOne prog_5_method_3_code 6 (Option.none : Option Jvm.ClassFile.FieldType) : Cond) ∈ TB := tb_1 58 rfl rfl
theorem tw_86 : (.methodLink "DrawCommands$Told" 44 y_T_placeOf : Cond) ∈ TB := tb_1 59 rfl rfl
theorem tw_88 : (.instanceMethod y_T_placeOf : Cond) ∈ TB := tb_1 61 rfl rfl
theorem tw_89 : (.code y_T_placeOf prog_5_method_9_code 4 (Option.some Jvm.ClassFile.FieldType.int) : Cond) ∈ TB := tb_1 62 rfl rfl
theorem tw_91 : (.methodLink "DrawCommands$Told" 48 y_S_untold : Cond) ∈ TB := tb_1 64 rfl rfl
theorem tw_92 : (.static y_S_untold : Cond) ∈ TB := tb_1 65 rfl rfl
theorem tw_93 : (.code y_S_untold prog_4_method_6_code 2 (Option.some Jvm.ClassFile.FieldType.int) : Cond) ∈ TB := tb_1 66 rfl rfl
theorem tw_94 : (.methodLink "DrawCommands$Shape" 26 y_S_column : Cond) ∈ TB := tb_1 67 rfl rfl
theorem tw_95 : (.static y_S_column : Cond) ∈ TB := tb_1 68 rfl rfl
theorem tw_96 : (.code y_S_column prog_4_method_7_code 3 (Option.some Jvm.ClassFile.FieldType.int) : Cond) ∈ TB := tb_1 69 rfl rfl
theorem tw_97 : (.fieldLink "DrawCommands$Shape" 30 "DrawCommands$Shape" "ARGUMENTS" "[I" : Cond) ∈ TB := tb_1 70 rfl rfl
theorem tw_99 : (.methodLink "DrawCommands$Told" 51 y_T_namesItsHolder : Cond) ∈ TB := tb_1 72 rfl rfl
theorem tw_100 : (.static y_T_namesItsHolder : Cond) ∈ TB := tb_1 73 rfl rfl
theorem tw_101 : (.code y_T_namesItsHolder prog_5_method_8_code 1 (Option.some Jvm.ClassFile.FieldType.boolean) : Cond) ∈ TB := tb_1 74 rfl rfl
theorem tw_102 : (.fieldLink "DrawCommands$Told" 11 "DrawCommands$Told" "starts" "[I" : Cond) ∈ TB := tb_1 75 rfl rfl
theorem tw_103 : (.fieldLink "DrawCommands$Told" 34 "DrawCommands$Told" "words" "[I" : Cond) ∈ TB := tb_1 76 rfl rfl
theorem tw_104 : (.laysFinal "DrawCommands$Told" "DrawCommands$Told" "starts" "[I" : Cond) ∈ TB := tb_1 77 rfl rfl
theorem tw_106 : (.laysFinal "DrawCommands$Told" "DrawCommands$Told" "words" "[I" : Cond) ∈ TB := tb_1 79 rfl rfl
theorem tw_109 : (.arrayClass Jvm.ClassFile.FieldType.int : Cond) ∈ TB := tb_1 82 rfl rfl
theorem tw_110 : (.classLink "DrawCommands" 23 "DrawCommands$Command" : Cond) ∈ TB := tb_1 83 rfl rfl
theorem tw_111 : (.instantiable "DrawCommands$Command" 3 : Cond) ∈ TB := tb_1 84 rfl rfl
theorem tw_112 : (.methodLink "DrawCommands" 25 y_C_init : Cond) ∈ TB := tb_1 85 rfl rfl
theorem tw_113 : (.instanceMethod y_C_init : Cond) ∈ TB := tb_1 86 rfl rfl
theorem tw_114 : (.code y_C_init prog_2_method_1_code 1 (Option.none : Option Jvm.ClassFile.FieldType) : Cond) ∈ TB := tb_1 87 rfl rfl
theorem tw_115 : (.methodLink "DrawCommands$Command" 3 objectInit : Cond) ∈ TB := tb_1 88 rfl rfl
theorem tw_116 : (.fieldLink "DrawCommands$Command" 9 "DrawCommands$Command" "words" "[I" : Cond) ∈ TB := tb_1 89 rfl rfl
theorem tw_117 : (.fieldLink "DrawCommands$Command" 15 "DrawCommands$Command" "kind" "I" : Cond) ∈ TB := tb_1 90 rfl rfl
theorem tw_120 : (.fieldLink "DrawCommands$Command" 19 "DrawCommands$Command" "many" "I" : Cond) ∈ TB := tb_1 93 rfl rfl
theorem tw_123 : (.laysFinal "DrawCommands$Command" "DrawCommands$Command" "words" "[I" : Cond) ∈ TB := tb_1 96 rfl rfl
theorem tw_125 : (.lays "DrawCommands$Command" "DrawCommands$Command" "kind" "I" : Cond) ∈ TB := tb_1 98 rfl rfl
theorem tw_127 : (.lays "DrawCommands$Command" "DrawCommands$Command" "many" "I" : Cond) ∈ TB := tb_1 100 rfl rfl
theorem tw_130 : (.classLink "DrawCommands" 30 "DrawCommands$Run" : Cond) ∈ TB := tb_1 103 rfl rfl
theorem tw_131 : (.instantiable "DrawCommands$Run" 9 : Cond) ∈ TB := tb_1 104 rfl rfl
theorem tw_132 : (.methodLink "DrawCommands" 32 y_R_init : Cond) ∈ TB := tb_1 105 rfl rfl
theorem tw_133 : (.instanceMethod y_R_init : Cond) ∈ TB := tb_1 106 rfl rfl
theorem tw_134 : (.code y_R_init prog_3_method_1_code 1 (Option.none : Option Jvm.ClassFile.FieldType) : Cond) ∈ TB := tb_1 107 rfl rfl
theorem tw_135 : (.methodLink "DrawCommands$Run" 3 objectInit : Cond) ∈ TB := tb_1 108 rfl rfl
theorem tw_136 : (.methodLink "DrawCommands$Run" 15 y_R_restart : Cond) ∈ TB := tb_1 109 rfl rfl
theorem tw_137 : (.instanceMethod y_R_restart : Cond) ∈ TB := tb_1 110 rfl rfl
theorem tw_138 : (.selects "DrawCommands$Run" y_R_restart y_R_restart : Cond) ∈ TB := tb_1 111 rfl rfl
theorem tw_139 : (.code y_R_restart prog_3_method_2_code 1 (Option.none : Option Jvm.ClassFile.FieldType) : Cond) ∈ TB := tb_1 112 rfl rfl
theorem tw_140 : (.fieldLink "DrawCommands$Run" 9 "DrawCommands$Run" "backs" "[I" : Cond) ∈ TB := tb_1 113 rfl rfl
theorem tw_141 : (.fieldLink "DrawCommands$Run" 18 "DrawCommands$Run" "place" "I" : Cond) ∈ TB := tb_1 114 rfl rfl
theorem tw_143 : (.fieldLink "DrawCommands$Run" 22 "DrawCommands$Run" "depth" "I" : Cond) ∈ TB := tb_1 116 rfl rfl
theorem tw_145 : (.fieldLink "DrawCommands$Run" 25 "DrawCommands$Run" "lastPlace" "I" : Cond) ∈ TB := tb_1 118 rfl rfl
theorem tw_147 : (.fieldLink "DrawCommands$Run" 28 "DrawCommands$Run" "lastDepth" "I" : Cond) ∈ TB := tb_1 120 rfl rfl
theorem tw_149 : (.fieldLink "DrawCommands$Run" 31 "DrawCommands$Run" "done" "I" : Cond) ∈ TB := tb_1 122 rfl rfl
theorem tw_151 : (.fieldLink "DrawCommands$Run" 34 "DrawCommands$Run" "refusal" "I" : Cond) ∈ TB := tb_1 124 rfl rfl
theorem tw_153 : (.fieldLink "DrawCommands$Run" 37 "DrawCommands$Run" "query" "I" : Cond) ∈ TB := tb_1 126 rfl rfl
theorem tw_155 : (.fieldLink "DrawCommands$Run" 40 "DrawCommands$Run" "over" "Z" : Cond) ∈ TB := tb_1 128 rfl rfl
theorem tw_157 : (.laysFinal "DrawCommands$Run" "DrawCommands$Run" "backs" "[I" : Cond) ∈ TB := tb_1 130 rfl rfl
theorem tw_159 : (.lays "DrawCommands$Run" "DrawCommands$Run" "place" "I" : Cond) ∈ TB := tb_1 132 rfl rfl
theorem tw_161 : (.lays "DrawCommands$Run" "DrawCommands$Run" "depth" "I" : Cond) ∈ TB := tb_1 134 rfl rfl
theorem tw_163 : (.lays "DrawCommands$Run" "DrawCommands$Run" "lastPlace" "I" : Cond) ∈ TB := tb_1 136 rfl rfl
theorem tw_165 : (.lays "DrawCommands$Run" "DrawCommands$Run" "lastDepth" "I" : Cond) ∈ TB := tb_1 138 rfl rfl
theorem tw_167 : (.lays "DrawCommands$Run" "DrawCommands$Run" "done" "I" : Cond) ∈ TB := tb_1 140 rfl rfl
theorem tw_169 : (.lays "DrawCommands$Run" "DrawCommands$Run" "refusal" "I" : Cond) ∈ TB := tb_1 142 rfl rfl
theorem tw_171 : (.lays "DrawCommands$Run" "DrawCommands$Run" "query" "I" : Cond) ∈ TB := tb_1 144 rfl rfl
theorem tw_173 : (.lays "DrawCommands$Run" "DrawCommands$Run" "over" "Z" : Cond) ∈ TB := tb_1 146 rfl rfl
theorem tw_176 : (.fieldLink "DrawCommands" 9 "DrawCommands" "memory" "[I" : Cond) ∈ TB := tb_1 149 rfl rfl
theorem tw_177 : (.fieldLink "DrawCommands" 13 "DrawCommands" "stream" "[I" : Cond) ∈ TB := tb_1 150 rfl rfl
theorem tw_178 : (.fieldLink "DrawCommands" 19 "DrawCommands" "told" "LDrawCommands$Told;" : Cond) ∈ TB := tb_1 151 rfl rfl
theorem tw_179 : (.fieldLink "DrawCommands" 26 "DrawCommands" "command" "LDrawCommands$Command;" : Cond) ∈ TB := tb_1 152 rfl rfl
theorem tw_180 : (.fieldLink "DrawCommands" 33 "DrawCommands" "run" "LDrawCommands$Run;" : Cond) ∈ TB := tb_1 153 rfl rfl
theorem tw_181 : (.fieldLink "DrawCommands" 37 "DrawCommands" "streamLength" "I" : Cond) ∈ TB := tb_1 154 rfl rfl
theorem tw_182 : (.fieldLink "DrawCommands" 41 "DrawCommands" "frameWide" "I" : Cond) ∈ TB := tb_1 155 rfl rfl
theorem tw_183 : (.fieldLink "DrawCommands" 44 "DrawCommands" "frameHigh" "I" : Cond) ∈ TB := tb_1 156 rfl rfl
theorem tw_184 : (.laysFinal "DrawCommands" "DrawCommands" "memory" "[I" : Cond) ∈ TB := tb_1 157 rfl rfl
theorem tw_186 : (.laysFinal "DrawCommands" "DrawCommands" "stream" "[I" : Cond) ∈ TB := tb_1 159 rfl rfl
theorem tw_188 : (.laysFinal "DrawCommands" "DrawCommands" "told" "LDrawCommands$Told;" : Cond) ∈ TB := tb_1 161 rfl rfl
theorem tw_190 : (.laysFinal "DrawCommands" "DrawCommands" "command" "LDrawCommands$Command;" : Cond) ∈ TB := tb_1 163 rfl rfl
theorem tw_192 : (.laysFinal "DrawCommands" "DrawCommands" "run" "LDrawCommands$Run;" : Cond) ∈ TB := tb_1 165 rfl rfl
theorem tw_194 : (.lays "DrawCommands" "DrawCommands" "streamLength" "I" : Cond) ∈ TB := tb_1 167 rfl rfl
theorem tw_196 : (.lays "DrawCommands" "DrawCommands" "frameWide" "I" : Cond) ∈ TB := tb_1 169 rfl rfl
theorem tw_198 : (.lays "DrawCommands" "DrawCommands" "frameHigh" "I" : Cond) ∈ TB := tb_1 171 rfl rfl
theorem tw_201 : (.methodLink "DrawCommandsLaw" 64 y_D_clear : Cond) ∈ TB := tb_1 174 rfl rfl
theorem tw_202 : (.instanceMethod y_D_clear : Cond) ∈ TB := tb_1 175 rfl rfl
theorem tw_203 : (.selects "DrawCommands" y_D_clear y_D_clear : Cond) ∈ TB := tb_1 176 rfl rfl
theorem tw_204 : (.code y_D_clear prog_1_method_5_code 1 (Option.none : Option Jvm.ClassFile.FieldType) : Cond) ∈ TB := tb_1 177 rfl rfl
theorem tw_205 : (.methodLink "DrawCommands" 72 y_D_startAnew : Cond) ∈ TB := tb_1 178 rfl rfl
theorem tw_207 : (.instanceMethod y_D_startAnew : Cond) ∈ TB := tb_1 180 rfl rfl
theorem tw_208 : (.code y_D_startAnew prog_1_method_11_code 1 (Option.none : Option Jvm.ClassFile.FieldType) : Cond) ∈ TB := tb_1 181 rfl rfl
theorem tw_209 : (.methodLink "DrawCommands" 94 y_C_forget : Cond) ∈ TB := tb_1 182 rfl rfl
theorem tw_210 : (.instanceMethod y_C_forget : Cond) ∈ TB := tb_1 183 rfl rfl
theorem tw_211 : (.selects "DrawCommands$Command" y_C_forget y_C_forget : Cond) ∈ TB := tb_1 184 rfl rfl
theorem tw_212 : (.code y_C_forget prog_2_method_2_code 1 (Option.none : Option Jvm.ClassFile.FieldType) : Cond) ∈ TB := tb_1 185 rfl rfl
theorem tw_213 : (.methodLink "DrawCommands$Command" 22 y_C_become : Cond) ∈ TB := tb_1 186 rfl rfl
theorem tw_214 : (.instanceMethod y_C_become : Cond) ∈ TB := tb_1 187 rfl rfl
theorem tw_215 : (.selects "DrawCommands$Command" y_C_become y_C_become : Cond) ∈ TB := tb_1 188 rfl rfl
theorem tw_216 : (.code y_C_become prog_2_method_3_code 3 (Option.none : Option Jvm.ClassFile.FieldType) : Cond) ∈ TB := tb_1 189 rfl rfl
theorem tw_217 : (.methodLink "DrawCommands" 144 y_R_restart : Cond) ∈ TB := tb_1 190 rfl rfl
theorem tw_218 : (.methodLink "DrawCommandsLaw" 68 y_D_begin : Cond) ∈ TB := tb_1 191 rfl rfl
theorem tw_219 : (.instanceMethod y_D_begin : Cond) ∈ TB := tb_1 192 rfl rfl
theorem tw_220 : (.selects "DrawCommands" y_D_begin y_D_begin : Cond) ∈ TB := tb_1 193 rfl rfl
theorem tw_221 : (.code y_D_begin prog_1_method_6_code 2 (Option.none : Option Jvm.ClassFile.FieldType) : Cond) ∈ TB := tb_1 194 rfl rfl
theorem tw_222 : (.methodLink "DrawCommands" 75 y_T_forget : Cond) ∈ TB := tb_1 195 rfl rfl
theorem tw_223 : (.methodLink "DrawCommandsLaw" 47 y_L_word : Cond) ∈ TB := tb_1 196 rfl rfl
theorem tw_224 : (.static y_L_word : Cond) ∈ TB := tb_1 197 rfl rfl
theorem tw_226 : (.classLink "DrawCommandsLaw" 13 "java/lang/IndexOutOfBoundsException" : Cond) ∈ TB := tb_1 199 rfl rfl
theorem tw_227 : (.methodLink "DrawCommandsLaw" 7 y_D_word : Cond) ∈ TB := tb_1 200 rfl rfl
theorem tw_228 : (.instanceMethod y_D_word : Cond) ∈ TB := tb_1 201 rfl rfl
theorem tw_229 : (.selects "DrawCommands" y_D_word y_D_word : Cond) ∈ TB := tb_1 202 rfl rfl
theorem tw_230 : (.code y_D_word prog_1_method_2_code 4 (Option.some Jvm.ClassFile.FieldType.int) : Cond) ∈ TB := tb_1 203 rfl rfl
theorem tw_231 : (.classLink "DrawCommands" 47 "java/lang/IndexOutOfBoundsException" : Cond) ∈ TB := tb_1 204 rfl rfl
theorem tw_232 : (.instantiable "java/lang/IndexOutOfBoundsException" 6 : Cond) ∈ TB := tb_1 205 rfl rfl
theorem tw_242 : (.lays "java/lang/IndexOutOfBoundsException" "java/lang/Throwable" "cause" "Ljava/lang/Throwable;" : Cond) ∈ TB := tb_1 215 rfl rfl
theorem tw_243 : (.lays "java/lang/Throwable" "java/lang/Throwable" "cause" "Ljava/lang/Throwable;" : Cond) ∈ TB := tb_1 216 rfl rfl
theorem tw_244 : (.lays "java/lang/IndexOutOfBoundsException" "java/lang/Throwable" "stackTrace" "[Ljava/lang/StackTraceElement;" : Cond) ∈ TB := tb_1 217 rfl rfl
theorem tw_245 : (.lays "java/lang/Throwable" "java/lang/Throwable" "stackTrace" "[Ljava/lang/StackTraceElement;" : Cond) ∈ TB := tb_1 218 rfl rfl
theorem tw_246 : (.lays "java/lang/IndexOutOfBoundsException" "java/lang/Throwable" "suppressedExceptions" "Ljava/util/List;" : Cond) ∈ TB := tb_1 219 rfl rfl
theorem tw_247 : (.lays "java/lang/Throwable" "java/lang/Throwable" "suppressedExceptions" "Ljava/util/List;" : Cond) ∈ TB := tb_1 220 rfl rfl
theorem tw_248 : (.lays "java/lang/IndexOutOfBoundsException" "java/lang/Throwable" "detailMessage" "Ljava/lang/String;" : Cond) ∈ TB := tb_1 221 rfl rfl
theorem tw_249 : (.lays "java/lang/Throwable" "java/lang/Throwable" "detailMessage" "Ljava/lang/String;" : Cond) ∈ TB := tb_1 222 rfl rfl
theorem tw_250 : (.lays "java/lang/IndexOutOfBoundsException" "java/lang/Throwable" "backtrace" "Ljava/lang/Object;" : Cond) ∈ TB := tb_1 223 rfl rfl
theorem tw_251 : (.lays "java/lang/Throwable" "java/lang/Throwable" "backtrace" "Ljava/lang/Object;" : Cond) ∈ TB := tb_1 224 rfl rfl
theorem tw_252 : (.fieldLink "java/lang/Throwable" 198 "java/lang/Throwable" "backtrace" "Ljava/lang/Object;" : Cond) ∈ TB := tb_1 225 rfl rfl
theorem tw_256 : (.methodLink "java/lang/Throwable" 1 objectInit : Cond) ∈ TB := tb_1 229 rfl rfl
theorem tw_257 : (.fieldLink "java/lang/Throwable" 13 "java/lang/Throwable" "UNASSIGNED_STACK" "[Ljava/lang/StackTraceElement;" : Cond) ∈ TB := tb_1 230 rfl rfl
theorem tw_259 : (.fieldLink "java/lang/Throwable" 20 "java/lang/Throwable" "SUPPRESSED_SENTINEL" "Ljava/util/List;" : Cond) ∈ TB := tb_1 232 rfl rfl
theorem tw_271 : (.instantiable "java/lang/Throwable" 6 : Cond) ∈ TB := tb_2 4 rfl rfl
theorem tw_287 : (.fieldLink "java/lang/Throwable" 31 "java/lang/Throwable" "detailMessage" "Ljava/lang/String;" : Cond) ∈ TB := tb_2 20 rfl rfl
theorem tw_288 : (.fieldLink "java/lang/Throwable" 7 "java/lang/Throwable" "cause" "Ljava/lang/Throwable;" : Cond) ∈ TB := tb_2 21 rfl rfl
theorem tw_289 : (.fieldLink "java/lang/Throwable" 17 "java/lang/Throwable" "stackTrace" "[Ljava/lang/StackTraceElement;" : Cond) ∈ TB := tb_2 22 rfl rfl
theorem tw_290 : (.fieldLink "java/lang/Throwable" 24 "java/lang/Throwable" "suppressedExceptions" "Ljava/util/List;" : Cond) ∈ TB := tb_2 23 rfl rfl
theorem tw_295 : (.lays "java/lang/IndexOutOfBoundsException" "java/lang/Throwable" "depth" "I" : Cond) ∈ TB := tb_2 28 rfl rfl
theorem tw_299 : (.arrayClass Jvm.ClassFile.FieldType.byte : Cond) ∈ TB := tb_2 32 rfl rfl
theorem tw_300 : (.methodLink "DrawCommands" 54 y_D_read : Cond) ∈ TB := tb_2 33 rfl rfl
theorem tw_301 : (.methodLink "DrawCommands" 58 y_D_write : Cond) ∈ TB := tb_2 34 rfl rfl
theorem tw_302 : (.methodLink "DrawCommandsLaw" 56 y_L_frame : Cond) ∈ TB := tb_2 35 rfl rfl
theorem tw_303 : (.static y_L_frame : Cond) ∈ TB := tb_2 36 rfl rfl
theorem tw_305 : (.classLink "DrawCommandsLaw" 19 "java/lang/IllegalArgumentException" : Cond) ∈ TB := tb_2 38 rfl rfl
theorem tw_306 : (.methodLink "DrawCommandsLaw" 15 y_D_frame : Cond) ∈ TB := tb_2 39 rfl rfl
theorem tw_307 : (.instanceMethod y_D_frame : Cond) ∈ TB := tb_2 40 rfl rfl
theorem tw_308 : (.selects "DrawCommands" y_D_frame y_D_frame : Cond) ∈ TB := tb_2 41 rfl rfl
theorem tw_309 : (.code y_D_frame prog_1_method_3_code 3 (Option.none : Option Jvm.ClassFile.FieldType) : Cond) ∈ TB := tb_2 42 rfl rfl
theorem tw_310 : (.classLink "DrawCommands" 62 "java/lang/IllegalArgumentException" : Cond) ∈ TB := tb_2 43 rfl rfl
theorem tw_311 : (.instantiable "java/lang/IllegalArgumentException" 6 : Cond) ∈ TB := tb_2 44 rfl rfl
theorem tw_314 : (.lays "java/lang/IllegalArgumentException" "java/lang/Throwable" "cause" "Ljava/lang/Throwable;" : Cond) ∈ TB := tb_2 47 rfl rfl
theorem tw_315 : (.lays "java/lang/IllegalArgumentException" "java/lang/Throwable" "stackTrace" "[Ljava/lang/StackTraceElement;" : Cond) ∈ TB := tb_2 48 rfl rfl
theorem tw_316 : (.lays "java/lang/IllegalArgumentException" "java/lang/Throwable" "suppressedExceptions" "Ljava/util/List;" : Cond) ∈ TB := tb_2 49 rfl rfl
theorem tw_317 : (.lays "java/lang/IllegalArgumentException" "java/lang/Throwable" "detailMessage" "Ljava/lang/String;" : Cond) ∈ TB := tb_2 50 rfl rfl
theorem tw_318 : (.lays "java/lang/IllegalArgumentException" "java/lang/Throwable" "backtrace" "Ljava/lang/Object;" : Cond) ∈ TB := tb_2 51 rfl rfl
theorem tw_324 : (.lays "java/lang/IllegalArgumentException" "java/lang/Throwable" "depth" "I" : Cond) ∈ TB := tb_2 57 rfl rfl
theorem tw_326 : (.methodLink "DrawCommandsLaw" 60 y_L_put : Cond) ∈ TB := tb_2 59 rfl rfl
theorem tw_327 : (.static y_L_put : Cond) ∈ TB := tb_2 60 rfl rfl
theorem tw_329 : (.classLink "DrawCommandsLaw" 25 "java/lang/UnsupportedOperationException" : Cond) ∈ TB := tb_2 62 rfl rfl
theorem tw_330 : (.methodLink "DrawCommandsLaw" 21 y_D_put : Cond) ∈ TB := tb_2 63 rfl rfl
theorem tw_331 : (.instanceMethod y_D_put : Cond) ∈ TB := tb_2 64 rfl rfl
theorem tw_332 : (.selects "DrawCommands" y_D_put y_D_put : Cond) ∈ TB := tb_2 65 rfl rfl
theorem tw_333 : (.code y_D_put prog_1_method_4_code 2 (Option.some Jvm.ClassFile.FieldType.int) : Cond) ∈ TB := tb_2 66 rfl rfl
theorem tw_334 : (.classLink "DrawCommands" 67 "java/lang/UnsupportedOperationException" : Cond) ∈ TB := tb_2 67 rfl rfl
theorem tw_335 : (.instantiable "java/lang/UnsupportedOperationException" 6 : Cond) ∈ TB := tb_2 68 rfl rfl
theorem tw_338 : (.lays "java/lang/UnsupportedOperationException" "java/lang/Throwable" "cause" "Ljava/lang/Throwable;" : Cond) ∈ TB := tb_2 71 rfl rfl
theorem tw_339 : (.lays "java/lang/UnsupportedOperationException" "java/lang/Throwable" "stackTrace" "[Ljava/lang/StackTraceElement;" : Cond) ∈ TB := tb_2 72 rfl rfl
theorem tw_340 : (.lays "java/lang/UnsupportedOperationException" "java/lang/Throwable" "suppressedExceptions" "Ljava/util/List;" : Cond) ∈ TB := tb_2 73 rfl rfl
theorem tw_341 : (.lays "java/lang/UnsupportedOperationException" "java/lang/Throwable" "detailMessage" "Ljava/lang/String;" : Cond) ∈ TB := tb_2 74 rfl rfl
theorem tw_342 : (.lays "java/lang/UnsupportedOperationException" "java/lang/Throwable" "backtrace" "Ljava/lang/Object;" : Cond) ∈ TB := tb_2 75 rfl rfl
theorem tw_348 : (.lays "java/lang/UnsupportedOperationException" "java/lang/Throwable" "depth" "I" : Cond) ∈ TB := tb_2 81 rfl rfl
theorem tw_350 : (.methodLink "DrawCommandsLaw" 73 y_L_next : Cond) ∈ TB := tb_2 83 rfl rfl
theorem tw_351 : (.static y_L_next : Cond) ∈ TB := tb_2 84 rfl rfl
theorem tw_353 : (.classLink "DrawCommandsLaw" 31 "java/lang/IllegalStateException" : Cond) ∈ TB := tb_2 86 rfl rfl
theorem tw_354 : (.methodLink "DrawCommandsLaw" 27 y_D_next : Cond) ∈ TB := tb_2 87 rfl rfl
theorem tw_355 : (.instanceMethod y_D_next : Cond) ∈ TB := tb_2 88 rfl rfl
theorem tw_356 : (.selects "DrawCommands" y_D_next y_D_next : Cond) ∈ TB := tb_2 89 rfl rfl
theorem tw_357 : (.code y_D_next prog_1_method_7_code 2 (Option.some Jvm.ClassFile.FieldType.int) : Cond) ∈ TB := tb_2 90 rfl rfl
theorem tw_358 : (.classLink "DrawCommands" 82 "java/lang/IllegalStateException" : Cond) ∈ TB := tb_2 91 rfl rfl
theorem tw_359 : (.instantiable "java/lang/IllegalStateException" 6 : Cond) ∈ TB := tb_2 92 rfl rfl
theorem tw_362 : (.lays "java/lang/IllegalStateException" "java/lang/Throwable" "cause" "Ljava/lang/Throwable;" : Cond) ∈ TB := tb_2 95 rfl rfl
theorem tw_363 : (.lays "java/lang/IllegalStateException" "java/lang/Throwable" "stackTrace" "[Ljava/lang/StackTraceElement;" : Cond) ∈ TB := tb_2 96 rfl rfl
theorem tw_364 : (.lays "java/lang/IllegalStateException" "java/lang/Throwable" "suppressedExceptions" "Ljava/util/List;" : Cond) ∈ TB := tb_2 97 rfl rfl
theorem tw_365 : (.lays "java/lang/IllegalStateException" "java/lang/Throwable" "detailMessage" "Ljava/lang/String;" : Cond) ∈ TB := tb_2 98 rfl rfl
theorem tw_366 : (.lays "java/lang/IllegalStateException" "java/lang/Throwable" "backtrace" "Ljava/lang/Object;" : Cond) ∈ TB := tb_2 99 rfl rfl
theorem tw_372 : (.lays "java/lang/IllegalStateException" "java/lang/Throwable" "depth" "I" : Cond) ∈ TB := tb_2 105 rfl rfl
theorem tw_374 : (.methodLink "DrawCommands" 87 y_R_arrive : Cond) ∈ TB := tb_2 107 rfl rfl
theorem tw_375 : (.instanceMethod y_R_arrive : Cond) ∈ TB := tb_2 108 rfl rfl
theorem tw_376 : (.selects "DrawCommands$Run" y_R_arrive y_R_arrive : Cond) ∈ TB := tb_2 109 rfl rfl
theorem tw_377 : (.code y_R_arrive prog_3_method_3_code 1 (Option.none : Option Jvm.ClassFile.FieldType) : Cond) ∈ TB := tb_2 110 rfl rfl
theorem tw_378 : (.methodLink "DrawCommands" 90 y_D_refusalHere : Cond) ∈ TB := tb_2 111 rfl rfl
theorem tw_380 : (.instanceMethod y_D_refusalHere : Cond) ∈ TB := tb_2 113 rfl rfl
theorem tw_381 : (.code y_D_refusalHere prog_1_method_12_code 2 (Option.some Jvm.ClassFile.FieldType.int) : Cond) ∈ TB := tb_2 114 rfl rfl
theorem tw_382 : (.methodLink "DrawCommands" 147 y_D_readCommand : Cond) ∈ TB := tb_2 115 rfl rfl
theorem tw_384 : (.instanceMethod y_D_readCommand : Cond) ∈ TB := tb_2 117 rfl rfl
theorem tw_385 : (.code y_D_readCommand prog_1_method_13_code 5 (Option.some Jvm.ClassFile.FieldType.int) : Cond) ∈ TB := tb_2 118 rfl rfl
theorem tw_386 : (.methodLink "DrawCommands" 160 y_D_sourceLength : Cond) ∈ TB := tb_2 119 rfl rfl
theorem tw_388 : (.instanceMethod y_D_sourceLength : Cond) ∈ TB := tb_2 121 rfl rfl
theorem tw_389 : (.code y_D_sourceLength prog_1_method_16_code 1 (Option.some Jvm.ClassFile.FieldType.int) : Cond) ∈ TB := tb_2 122 rfl rfl
theorem tw_390 : (.methodLink "DrawCommands" 166 y_D_readBeyondTheEnd : Cond) ∈ TB := tb_2 123 rfl rfl
theorem tw_392 : (.instanceMethod y_D_readBeyondTheEnd : Cond) ∈ TB := tb_2 125 rfl rfl
theorem tw_393 : (.code y_D_readBeyondTheEnd prog_1_method_14_code 1 (Option.some Jvm.ClassFile.FieldType.int) : Cond) ∈ TB := tb_2 126 rfl rfl
theorem tw_394 : (.methodLink "DrawCommands" 179 y_C_become : Cond) ∈ TB := tb_2 127 rfl rfl
theorem tw_395 : (.methodLink "DrawCommands" 169 y_D_sourceWord : Cond) ∈ TB := tb_2 128 rfl rfl
theorem tw_397 : (.instanceMethod y_D_sourceWord : Cond) ∈ TB := tb_2 130 rfl rfl
theorem tw_398 : (.code y_D_sourceWord prog_1_method_17_code 2 (Option.some Jvm.ClassFile.FieldType.int) : Cond) ∈ TB := tb_2 131 rfl rfl
theorem tw_399 : (.methodLink "DrawCommands" 172 y_S_isKind : Cond) ∈ TB := tb_2 132 rfl rfl
theorem tw_400 : (.methodLink "DrawCommands" 176 y_D_argumentsHere : Cond) ∈ TB := tb_2 133 rfl rfl
theorem tw_402 : (.instanceMethod y_D_argumentsHere : Cond) ∈ TB := tb_2 135 rfl rfl
theorem tw_403 : (.code y_D_argumentsHere prog_1_method_15_code 4 (Option.some Jvm.ClassFile.FieldType.int) : Cond) ∈ TB := tb_2 136 rfl rfl
theorem tw_404 : (.methodLink "DrawCommands" 119 y_S_fixed : Cond) ∈ TB := tb_2 137 rfl rfl
theorem tw_405 : (.methodLink "DrawCommands" 189 y_J_min : Cond) ∈ TB := tb_2 138 rfl rfl
theorem tw_406 : (.static y_J_min : Cond) ∈ TB := tb_2 139 rfl rfl
theorem tw_407 : (.code y_J_min prog_12_method_69_code 2 (Option.some Jvm.ClassFile.FieldType.int) : Cond) ∈ TB := tb_2 140 rfl rfl
theorem tw_408 : (.methodLink "DrawCommands" 195 (⟨"java/lang/Math", "max", "(II)I"⟩ : MethodName) : Cond) ∈ TB := tb_2 141 rfl rfl
theorem tw_409 : (.methodLink "DrawCommands" 183 y_C_tell : Cond) ∈ TB := tb_2 142 rfl rfl
theorem tw_410 : (.instanceMethod y_C_tell : Cond) ∈ TB := tb_2 143 rfl rfl
theorem tw_411 : (.selects "DrawCommands$Command" y_C_tell y_C_tell : Cond) ∈ TB := tb_2 144 rfl rfl
theorem tw_412 : (.code y_C_tell prog_2_method_4_code 3 (Option.none : Option Jvm.ClassFile.FieldType) : Cond) ∈ TB := tb_2 145 rfl rfl
theorem tw_414 : (.methodLink "DrawCommands" 150 y_C_valuesMayBe : Cond) ∈ TB := tb_2 147 rfl rfl
theorem tw_415 : (.instanceMethod y_C_valuesMayBe : Cond) ∈ TB := tb_2 148 rfl rfl
theorem tw_416 : (.selects "DrawCommands$Command" y_C_valuesMayBe y_C_valuesMayBe : Cond) ∈ TB := tb_2 149 rfl rfl
theorem tw_417 : (.code y_C_valuesMayBe prog_2_method_6_code 3 (Option.some Jvm.ClassFile.FieldType.boolean) : Cond) ∈ TB := tb_2 150 rfl rfl
theorem tw_418 : (.methodLink "DrawCommands$Command" 34 y_S_fixed : Cond) ∈ TB := tb_2 151 rfl rfl
theorem tw_419 : (.methodLink "DrawCommands$Command" 40 y_C_at : Cond) ∈ TB := tb_2 152 rfl rfl
theorem tw_420 : (.instanceMethod y_C_at : Cond) ∈ TB := tb_2 153 rfl rfl
theorem tw_421 : (.selects "DrawCommands$Command" y_C_at y_C_at : Cond) ∈ TB := tb_2 154 rfl rfl
theorem tw_422 : (.code y_C_at prog_2_method_5_code 2 (Option.some Jvm.ClassFile.FieldType.int) : Cond) ∈ TB := tb_2 155 rfl rfl
theorem tw_424 : (.methodLink "DrawCommands$Command" 43 y_S_mayBe : Cond) ∈ TB := tb_2 157 rfl rfl
theorem tw_425 : (.static y_S_mayBe : Cond) ∈ TB := tb_2 158 rfl rfl
theorem tw_426 : (.code y_S_mayBe prog_4_method_5_code 3 (Option.some Jvm.ClassFile.FieldType.boolean) : Cond) ∈ TB := tb_2 159 rfl rfl
theorem tw_427 : (.methodLink "DrawCommands" 154 y_D_placesAreThere : Cond) ∈ TB := tb_2 160 rfl rfl
theorem tw_429 : (.instanceMethod y_D_placesAreThere : Cond) ∈ TB := tb_2 162 rfl rfl
theorem tw_430 : (.code y_D_placesAreThere prog_1_method_18_code 1 (Option.some Jvm.ClassFile.FieldType.boolean) : Cond) ∈ TB := tb_2 163 rfl rfl
theorem tw_431 : (.methodLink "DrawCommands" 110 y_C_at : Cond) ∈ TB := tb_2 164 rfl rfl
theorem tw_432 : (.methodLink "DrawCommands" 198 y_D_inMemory : Cond) ∈ TB := tb_2 165 rfl rfl
theorem tw_433 : (.static y_D_inMemory : Cond) ∈ TB := tb_2 166 rfl rfl
theorem tw_434 : (.code y_D_inMemory prog_1_method_19_code 2 (Option.some Jvm.ClassFile.FieldType.boolean) : Cond) ∈ TB := tb_2 167 rfl rfl
theorem tw_435 : (.methodLink "DrawCommands" 157 y_D_stateAllows : Cond) ∈ TB := tb_2 168 rfl rfl
theorem tw_437 : (.instanceMethod y_D_stateAllows : Cond) ∈ TB := tb_2 170 rfl rfl
theorem tw_438 : (.code y_D_stateAllows prog_1_method_20_code 1 (Option.some Jvm.ClassFile.FieldType.boolean) : Cond) ∈ TB := tb_2 171 rfl rfl
theorem tw_439 : (.methodLink "DrawCommands" 202 y_T_hasProgram : Cond) ∈ TB := tb_2 172 rfl rfl
theorem tw_440 : (.instanceMethod y_T_hasProgram : Cond) ∈ TB := tb_2 173 rfl rfl
theorem tw_441 : (.selects "DrawCommands$Told" y_T_hasProgram y_T_hasProgram : Cond) ∈ TB := tb_2 174 rfl rfl
theorem tw_442 : (.code y_T_hasProgram prog_5_method_7_code 2 (Option.some Jvm.ClassFile.FieldType.boolean) : Cond) ∈ TB := tb_2 175 rfl rfl
theorem tw_443 : (.methodLink "DrawCommands$Told" 71 y_T_at : Cond) ∈ TB := tb_2 176 rfl rfl
theorem tw_444 : (.instanceMethod y_T_at : Cond) ∈ TB := tb_2 177 rfl rfl
theorem tw_445 : (.selects "DrawCommands$Told" y_T_at y_T_at : Cond) ∈ TB := tb_2 178 rfl rfl
theorem tw_446 : (.code y_T_at prog_5_method_5_code 4 (Option.some Jvm.ClassFile.FieldType.int) : Cond) ∈ TB := tb_2 179 rfl rfl
theorem tw_447 : (.methodLink "DrawCommands" 95 y_R_refuse : Cond) ∈ TB := tb_2 180 rfl rfl
theorem tw_448 : (.instanceMethod y_R_refuse : Cond) ∈ TB := tb_2 181 rfl rfl
theorem tw_449 : (.selects "DrawCommands$Run" y_R_refuse y_R_refuse : Cond) ∈ TB := tb_2 182 rfl rfl
theorem tw_450 : (.code y_R_refuse prog_3_method_4_code 2 (Option.none : Option Jvm.ClassFile.FieldType) : Cond) ∈ TB := tb_2 183 rfl rfl
theorem tw_451 : (.methodLink "DrawCommands" 99 y_D_carryOut : Cond) ∈ TB := tb_2 184 rfl rfl
theorem tw_453 : (.instanceMethod y_D_carryOut : Cond) ∈ TB := tb_2 186 rfl rfl
theorem tw_454 : (.code y_D_carryOut prog_1_method_21_code 1 (Option.none : Option Jvm.ClassFile.FieldType) : Cond) ∈ TB := tb_2 187 rfl rfl
theorem tw_455 : (.methodLink "DrawCommands" 205 y_R_passOver : Cond) ∈ TB := tb_2 188 rfl rfl
theorem tw_456 : (.instanceMethod y_R_passOver : Cond) ∈ TB := tb_2 189 rfl rfl
theorem tw_457 : (.selects "DrawCommands$Run" y_R_passOver y_R_passOver : Cond) ∈ TB := tb_2 190 rfl rfl
theorem tw_458 : (.code y_R_passOver prog_3_method_5_code 2 (Option.none : Option Jvm.ClassFile.FieldType) : Cond) ∈ TB := tb_2 191 rfl rfl
theorem tw_459 : (.methodLink "DrawCommands" 208 y_R_leave : Cond) ∈ TB := tb_2 192 rfl rfl
theorem tw_460 : (.instanceMethod y_R_leave : Cond) ∈ TB := tb_2 193 rfl rfl
theorem tw_461 : (.selects "DrawCommands$Run" y_R_leave y_R_leave : Cond) ∈ TB := tb_2 194 rfl rfl
theorem tw_462 : (.code y_R_leave prog_3_method_7_code 1 (Option.none : Option Jvm.ClassFile.FieldType) : Cond) ∈ TB := tb_2 195 rfl rfl
theorem tw_464 : (.methodLink "DrawCommands" 211 y_D_keepUniforms : Cond) ∈ TB := tb_2 197 rfl rfl
theorem tw_466 : (.instanceMethod y_D_keepUniforms : Cond) ∈ TB := tb_2 199 rfl rfl
theorem tw_467 : (.code y_D_keepUniforms prog_1_method_22_code 6 (Option.none : Option Jvm.ClassFile.FieldType) : Cond) ∈ TB := tb_2 200 rfl rfl
theorem tw_468 : (.methodLink "DrawCommands" 224 y_T_set : Cond) ∈ TB := tb_2 201 rfl rfl
theorem tw_469 : (.instanceMethod y_T_set : Cond) ∈ TB := tb_2 202 rfl rfl
theorem tw_470 : (.selects "DrawCommands$Told" y_T_set y_T_set : Cond) ∈ TB := tb_2 203 rfl rfl
theorem tw_471 : (.code y_T_set prog_5_method_6_code 5 (Option.none : Option Jvm.ClassFile.FieldType) : Cond) ∈ TB := tb_2 204 rfl rfl
theorem tw_472 : (.methodLink "DrawCommands" 214 y_D_storeWords : Cond) ∈ TB := tb_2 205 rfl rfl
theorem tw_474 : (.instanceMethod y_D_storeWords : Cond) ∈ TB := tb_2 207 rfl rfl
theorem tw_475 : (.code y_D_storeWords prog_1_method_23_code 3 (Option.none : Option Jvm.ClassFile.FieldType) : Cond) ∈ TB := tb_2 208 rfl rfl
theorem tw_476 : (.methodLink "DrawCommands" 217 y_R_enter : Cond) ∈ TB := tb_2 209 rfl rfl
theorem tw_477 : (.instanceMethod y_R_enter : Cond) ∈ TB := tb_2 210 rfl rfl
theorem tw_478 : (.selects "DrawCommands$Run" y_R_enter y_R_enter : Cond) ∈ TB := tb_2 211 rfl rfl
theorem tw_479 : (.code y_R_enter prog_3_method_6_code 2 (Option.none : Option Jvm.ClassFile.FieldType) : Cond) ∈ TB := tb_2 212 rfl rfl
theorem tw_481 : (.methodLink "DrawCommands" 220 y_T_keep : Cond) ∈ TB := tb_2 214 rfl rfl
theorem tw_482 : (.instanceMethod y_T_keep : Cond) ∈ TB := tb_2 215 rfl rfl
theorem tw_483 : (.selects "DrawCommands$Told" y_T_keep y_T_keep : Cond) ∈ TB := tb_2 216 rfl rfl
theorem tw_484 : (.code y_T_keep prog_5_method_4_code 5 (Option.none : Option Jvm.ClassFile.FieldType) : Cond) ∈ TB := tb_2 217 rfl rfl
theorem tw_485 : (.methodLink "DrawCommands$Told" 61 y_C_at : Cond) ∈ TB := tb_2 218 rfl rfl
theorem tw_486 : (.methodLink "DrawCommandsLaw" 77 y_L_argument : Cond) ∈ TB := tb_2 219 rfl rfl
theorem tw_487 : (.static y_L_argument : Cond) ∈ TB := tb_2 220 rfl rfl
theorem tw_489 : (.methodLink "DrawCommandsLaw" 33 y_D_argument : Cond) ∈ TB := tb_2 222 rfl rfl
theorem tw_490 : (.instanceMethod y_D_argument : Cond) ∈ TB := tb_2 223 rfl rfl
theorem tw_491 : (.selects "DrawCommands" y_D_argument y_D_argument : Cond) ∈ TB := tb_2 224 rfl rfl
theorem tw_492 : (.code y_D_argument prog_1_method_8_code 2 (Option.some Jvm.ClassFile.FieldType.int) : Cond) ∈ TB := tb_2 225 rfl rfl
theorem tw_494 : (.methodLink "DrawCommandsLaw" 80 y_L_kept : Cond) ∈ TB := tb_2 227 rfl rfl
theorem tw_495 : (.static y_L_kept : Cond) ∈ TB := tb_2 228 rfl rfl
theorem tw_497 : (.methodLink "DrawCommandsLaw" 36 y_D_kept : Cond) ∈ TB := tb_2 230 rfl rfl
theorem tw_498 : (.instanceMethod y_D_kept : Cond) ∈ TB := tb_2 231 rfl rfl
theorem tw_499 : (.selects "DrawCommands" y_D_kept y_D_kept : Cond) ∈ TB := tb_2 232 rfl rfl
theorem tw_500 : (.code y_D_kept prog_1_method_9_code 4 (Option.some Jvm.ClassFile.FieldType.int) : Cond) ∈ TB := tb_2 233 rfl rfl
theorem tw_501 : (.methodLink "DrawCommands" 114 y_S_holders : Cond) ∈ TB := tb_2 234 rfl rfl
theorem tw_503 : (.methodLink "DrawCommands" 124 y_T_at : Cond) ∈ TB := tb_2 236 rfl rfl
theorem tw_504 : (.methodLink "DrawCommandsLaw" 84 y_L_about : Cond) ∈ TB := tb_2 237 rfl rfl
theorem tw_505 : (.static y_L_about : Cond) ∈ TB := tb_2 238 rfl rfl
theorem tw_507 : (.methodLink "DrawCommandsLaw" 40 y_D_about : Cond) ∈ TB := tb_3 0 rfl rfl
theorem tw_508 : (.instanceMethod y_D_about : Cond) ∈ TB := tb_3 1 rfl rfl
theorem tw_509 : (.selects "DrawCommands" y_D_about y_D_about : Cond) ∈ TB := tb_3 2 rfl rfl
theorem tw_510 : (.code y_D_about prog_1_method_10_code 2 (Option.some Jvm.ClassFile.FieldType.int) : Cond) ∈ TB := tb_3 3 rfl rfl
theorem tw_512 : (.classLink "DrawCommandsLaw" 44 "DrawCommandsModel" : Cond) ∈ TB := tb_3 5 rfl rfl
theorem tw_513 : (.instantiable "DrawCommandsModel" 18 : Cond) ∈ TB := tb_3 6 rfl rfl
theorem tw_514 : (.methodLink "DrawCommandsLaw" 46 y_M_init : Cond) ∈ TB := tb_3 7 rfl rfl
theorem tw_515 : (.instanceMethod y_M_init : Cond) ∈ TB := tb_3 8 rfl rfl
theorem tw_516 : (.code y_M_init prog_7_method_1_code 1 (Option.none : Option Jvm.ClassFile.FieldType) : Cond) ∈ TB := tb_3 9 rfl rfl
theorem tw_517 : (.methodLink "DrawCommandsModel" 1 objectInit : Cond) ∈ TB := tb_3 10 rfl rfl
theorem tw_518 : (.methodLink "DrawCommandsModel" 41 y_M_nothingTold : Cond) ∈ TB := tb_3 11 rfl rfl
theorem tw_520 : (.instanceMethod y_M_nothingTold : Cond) ∈ TB := tb_3 13 rfl rfl
theorem tw_521 : (.code y_M_nothingTold prog_7_method_13_code 3 (Option.none : Option Jvm.ClassFile.FieldType) : Cond) ∈ TB := tb_3 14 rfl rfl
theorem tw_522 : (.methodLink "DrawCommandsModel" 110 y_M_many : Cond) ∈ TB := tb_3 15 rfl rfl
theorem tw_523 : (.static y_M_many : Cond) ∈ TB := tb_3 16 rfl rfl
theorem tw_524 : (.code y_M_many prog_7_method_11_code 1 (Option.some Jvm.ClassFile.FieldType.int) : Cond) ∈ TB := tb_3 17 rfl rfl
theorem tw_525 : (.methodLink "DrawCommandsModel" 113 y_M_rowOf : Cond) ∈ TB := tb_3 18 rfl rfl
theorem tw_526 : (.static y_M_rowOf : Cond) ∈ TB := tb_3 19 rfl rfl
theorem tw_527 : (.code y_M_rowOf prog_7_method_12_code 2 (Option.some Jvm.ClassFile.FieldType.int) : Cond) ∈ TB := tb_3 20 rfl rfl
theorem tw_528 : (.methodLink "DrawCommandsModel" 106 y_M_count : Cond) ∈ TB := tb_3 21 rfl rfl
theorem tw_529 : (.static y_M_count : Cond) ∈ TB := tb_3 22 rfl rfl
theorem tw_530 : (.code y_M_count prog_7_method_5_code 1 (Option.some Jvm.ClassFile.FieldType.int) : Cond) ∈ TB := tb_3 23 rfl rfl
theorem tw_531 : (.constant "DrawCommandsModel" 117 16777215 : Cond) ∈ TB := tb_3 24 rfl rfl
theorem tw_532 : (.fieldLink "DrawCommandsModel" 44 "DrawCommandsModel" "thrown" "I" : Cond) ∈ TB := tb_3 25 rfl rfl
theorem tw_533 : (.fieldLink "DrawCommandsModel" 7 "DrawCommandsModel" "memory" "[I" : Cond) ∈ TB := tb_3 26 rfl rfl
theorem tw_534 : (.fieldLink "DrawCommandsModel" 13 "DrawCommandsModel" "wide" "I" : Cond) ∈ TB := tb_3 27 rfl rfl
theorem tw_535 : (.fieldLink "DrawCommandsModel" 17 "DrawCommandsModel" "high" "I" : Cond) ∈ TB := tb_3 28 rfl rfl
theorem tw_536 : (.fieldLink "DrawCommandsModel" 20 "DrawCommandsModel" "stream" "[I" : Cond) ∈ TB := tb_3 29 rfl rfl
theorem tw_537 : (.fieldLink "DrawCommandsModel" 124 "DrawCommandsModel" "size" "I" : Cond) ∈ TB := tb_3 30 rfl rfl
theorem tw_538 : (.fieldLink "DrawCommandsModel" 127 "DrawCommandsModel" "at" "I" : Cond) ∈ TB := tb_3 31 rfl rfl
theorem tw_539 : (.fieldLink "DrawCommandsModel" 130 "DrawCommandsModel" "depth" "I" : Cond) ∈ TB := tb_3 32 rfl rfl
theorem tw_540 : (.fieldLink "DrawCommandsModel" 23 "DrawCommandsModel" "back" "[I" : Cond) ∈ TB := tb_3 33 rfl rfl
theorem tw_541 : (.fieldLink "DrawCommandsModel" 133 "DrawCommandsModel" "over" "Z" : Cond) ∈ TB := tb_3 34 rfl rfl
theorem tw_542 : (.fieldLink "DrawCommandsModel" 137 "DrawCommandsModel" "refusal" "I" : Cond) ∈ TB := tb_3 35 rfl rfl
theorem tw_543 : (.fieldLink "DrawCommandsModel" 26 "DrawCommandsModel" "place" "I" : Cond) ∈ TB := tb_3 36 rfl rfl
theorem tw_544 : (.fieldLink "DrawCommandsModel" 29 "DrawCommandsModel" "deep" "I" : Cond) ∈ TB := tb_3 37 rfl rfl
theorem tw_545 : (.fieldLink "DrawCommandsModel" 140 "DrawCommandsModel" "done" "I" : Cond) ∈ TB := tb_3 38 rfl rfl
theorem tw_546 : (.fieldLink "DrawCommandsModel" 32 "DrawCommandsModel" "query" "I" : Cond) ∈ TB := tb_3 39 rfl rfl
theorem tw_547 : (.fieldLink "DrawCommandsModel" 143 "DrawCommandsModel" "arguments" "I" : Cond) ∈ TB := tb_3 40 rfl rfl
theorem tw_548 : (.fieldLink "DrawCommandsModel" 35 "DrawCommandsModel" "argument" "[I" : Cond) ∈ TB := tb_3 41 rfl rfl
theorem tw_549 : (.fieldLink "DrawCommandsModel" 38 "DrawCommandsModel" "kept" "[I" : Cond) ∈ TB := tb_3 42 rfl rfl
theorem tw_550 : (.lays "DrawCommandsModel" "DrawCommandsModel" "thrown" "I" : Cond) ∈ TB := tb_3 43 rfl rfl
theorem tw_552 : (.laysFinal "DrawCommandsModel" "DrawCommandsModel" "memory" "[I" : Cond) ∈ TB := tb_3 45 rfl rfl
theorem tw_554 : (.lays "DrawCommandsModel" "DrawCommandsModel" "wide" "I" : Cond) ∈ TB := tb_3 47 rfl rfl
theorem tw_556 : (.lays "DrawCommandsModel" "DrawCommandsModel" "high" "I" : Cond) ∈ TB := tb_3 49 rfl rfl
theorem tw_558 : (.laysFinal "DrawCommandsModel" "DrawCommandsModel" "stream" "[I" : Cond) ∈ TB := tb_3 51 rfl rfl
theorem tw_560 : (.lays "DrawCommandsModel" "DrawCommandsModel" "size" "I" : Cond) ∈ TB := tb_3 53 rfl rfl
theorem tw_562 : (.lays "DrawCommandsModel" "DrawCommandsModel" "at" "I" : Cond) ∈ TB := tb_3 55 rfl rfl
theorem tw_564 : (.lays "DrawCommandsModel" "DrawCommandsModel" "depth" "I" : Cond) ∈ TB := tb_3 57 rfl rfl
theorem tw_566 : (.laysFinal "DrawCommandsModel" "DrawCommandsModel" "back" "[I" : Cond) ∈ TB := tb_3 59 rfl rfl
theorem tw_568 : (.lays "DrawCommandsModel" "DrawCommandsModel" "over" "Z" : Cond) ∈ TB := tb_3 61 rfl rfl
theorem tw_570 : (.lays "DrawCommandsModel" "DrawCommandsModel" "refusal" "I" : Cond) ∈ TB := tb_3 63 rfl rfl
theorem tw_572 : (.lays "DrawCommandsModel" "DrawCommandsModel" "place" "I" : Cond) ∈ TB := tb_3 65 rfl rfl
theorem tw_574 : (.lays "DrawCommandsModel" "DrawCommandsModel" "deep" "I" : Cond) ∈ TB := tb_3 67 rfl rfl
theorem tw_576 : (.lays "DrawCommandsModel" "DrawCommandsModel" "done" "I" : Cond) ∈ TB := tb_3 69 rfl rfl
theorem tw_578 : (.lays "DrawCommandsModel" "DrawCommandsModel" "query" "I" : Cond) ∈ TB := tb_3 71 rfl rfl
theorem tw_580 : (.lays "DrawCommandsModel" "DrawCommandsModel" "arguments" "I" : Cond) ∈ TB := tb_3 73 rfl rfl
theorem tw_582 : (.laysFinal "DrawCommandsModel" "DrawCommandsModel" "argument" "[I" : Cond) ∈ TB := tb_3 75 rfl rfl
theorem tw_584 : (.laysFinal "DrawCommandsModel" "DrawCommandsModel" "kept" "[I" : Cond) ∈ TB := tb_3 77 rfl rfl
theorem tw_587 : (.methodLink "DrawCommandsLaw" 53 y_M_thrown : Cond) ∈ TB := tb_3 80 rfl rfl
theorem tw_588 : (.instanceMethod y_M_thrown : Cond) ∈ TB := tb_3 81 rfl rfl
theorem tw_589 : (.selects "DrawCommandsModel" y_M_thrown y_M_thrown : Cond) ∈ TB := tb_3 82 rfl rfl
theorem tw_590 : (.code y_M_thrown prog_7_method_2_code 1 (Option.some Jvm.ClassFile.FieldType.int) : Cond) ∈ TB := tb_3 83 rfl rfl
theorem tw_591 : (.methodLink "DrawCommandsLaw" 52 y_M_word : Cond) ∈ TB := tb_3 84 rfl rfl
theorem tw_592 : (.instanceMethod y_M_word : Cond) ∈ TB := tb_3 85 rfl rfl
theorem tw_593 : (.selects "DrawCommandsModel" y_M_word y_M_word : Cond) ∈ TB := tb_3 86 rfl rfl
theorem tw_594 : (.code y_M_word prog_7_method_14_code 4 (Option.some Jvm.ClassFile.FieldType.int) : Cond) ∈ TB := tb_3 87 rfl rfl
theorem tw_595 : (.constantLong "DrawCommandsModel" 118 4095 : Cond) ∈ TB := tb_3 88 rfl rfl
theorem tw_596 : (.methodLink "DrawCommandsModel" 51 y_M_in : Cond) ∈ TB := tb_3 89 rfl rfl
theorem tw_597 : (.static y_M_in : Cond) ∈ TB := tb_3 90 rfl rfl
theorem tw_598 : (.code y_M_in prog_7_method_4_code 6 (Option.some Jvm.ClassFile.FieldType.boolean) : Cond) ∈ TB := tb_3 91 rfl rfl
theorem tw_599 : (.methodLink "DrawCommandsModel" 120 y_M_refuse : Cond) ∈ TB := tb_3 92 rfl rfl
theorem tw_601 : (.instanceMethod y_M_refuse : Cond) ∈ TB := tb_3 94 rfl rfl
theorem tw_602 : (.code y_M_refuse prog_7_method_3_code 2 (Option.some Jvm.ClassFile.FieldType.boolean) : Cond) ∈ TB := tb_3 95 rfl rfl
theorem tw_603 : (.methodLink "DrawCommandsLaw" 59 y_M_frame : Cond) ∈ TB := tb_3 96 rfl rfl
theorem tw_604 : (.instanceMethod y_M_frame : Cond) ∈ TB := tb_3 97 rfl rfl
theorem tw_605 : (.selects "DrawCommandsModel" y_M_frame y_M_frame : Cond) ∈ TB := tb_3 98 rfl rfl
theorem tw_606 : (.code y_M_frame prog_7_method_15_code 3 (Option.none : Option Jvm.ClassFile.FieldType) : Cond) ∈ TB := tb_3 99 rfl rfl
theorem tw_607 : (.constantLong "DrawCommandsModel" 75 128 : Cond) ∈ TB := tb_3 100 rfl rfl
theorem tw_608 : (.methodLink "DrawCommandsLaw" 63 y_M_put : Cond) ∈ TB := tb_3 101 rfl rfl
theorem tw_609 : (.instanceMethod y_M_put : Cond) ∈ TB := tb_3 102 rfl rfl
theorem tw_610 : (.selects "DrawCommandsModel" y_M_put y_M_put : Cond) ∈ TB := tb_3 103 rfl rfl
theorem tw_611 : (.code y_M_put prog_7_method_16_code 2 (Option.some Jvm.ClassFile.FieldType.int) : Cond) ∈ TB := tb_3 104 rfl rfl
theorem tw_612 : (.methodLink "DrawCommandsLaw" 67 y_M_clear : Cond) ∈ TB := tb_3 105 rfl rfl
theorem tw_613 : (.instanceMethod y_M_clear : Cond) ∈ TB := tb_3 106 rfl rfl
theorem tw_614 : (.selects "DrawCommandsModel" y_M_clear y_M_clear : Cond) ∈ TB := tb_3 107 rfl rfl
theorem tw_615 : (.code y_M_clear prog_7_method_18_code 1 (Option.none : Option Jvm.ClassFile.FieldType) : Cond) ∈ TB := tb_3 108 rfl rfl
theorem tw_616 : (.methodLink "DrawCommandsModel" 146 y_M_anew : Cond) ∈ TB := tb_3 109 rfl rfl
theorem tw_618 : (.instanceMethod y_M_anew : Cond) ∈ TB := tb_3 111 rfl rfl
theorem tw_619 : (.code y_M_anew prog_7_method_17_code 1 (Option.none : Option Jvm.ClassFile.FieldType) : Cond) ∈ TB := tb_3 112 rfl rfl
theorem tw_620 : (.methodLink "DrawCommandsLaw" 72 y_M_begin : Cond) ∈ TB := tb_3 113 rfl rfl
theorem tw_621 : (.instanceMethod y_M_begin : Cond) ∈ TB := tb_3 114 rfl rfl
theorem tw_622 : (.selects "DrawCommandsModel" y_M_begin y_M_begin : Cond) ∈ TB := tb_3 115 rfl rfl
theorem tw_623 : (.code y_M_begin prog_7_method_19_code 2 (Option.none : Option Jvm.ClassFile.FieldType) : Cond) ∈ TB := tb_3 116 rfl rfl
theorem tw_624 : (.methodLink "DrawCommandsLaw" 76 y_M_next : Cond) ∈ TB := tb_3 117 rfl rfl
theorem tw_625 : (.instanceMethod y_M_next : Cond) ∈ TB := tb_3 118 rfl rfl
theorem tw_626 : (.selects "DrawCommandsModel" y_M_next y_M_next : Cond) ∈ TB := tb_3 119 rfl rfl
theorem tw_627 : (.code y_M_next prog_7_method_27_code 4 (Option.some Jvm.ClassFile.FieldType.int) : Cond) ∈ TB := tb_3 120 rfl rfl
theorem tw_628 : (.methodLink "DrawCommandsModel" 175 y_M_look : Cond) ∈ TB := tb_3 121 rfl rfl
theorem tw_630 : (.instanceMethod y_M_look : Cond) ∈ TB := tb_3 123 rfl rfl
theorem tw_631 : (.code y_M_look prog_7_method_26_code 6 (Option.some Jvm.ClassFile.FieldType.int) : Cond) ∈ TB := tb_3 124 rfl rfl
theorem tw_632 : (.methodLink "DrawCommandsModel" 149 y_M_isThere : Cond) ∈ TB := tb_3 125 rfl rfl
theorem tw_634 : (.instanceMethod y_M_isThere : Cond) ∈ TB := tb_3 127 rfl rfl
theorem tw_635 : (.code y_M_isThere prog_7_method_20_code 2 (Option.some Jvm.ClassFile.FieldType.boolean) : Cond) ∈ TB := tb_3 128 rfl rfl
theorem tw_636 : (.methodLink "DrawCommandsModel" 153 y_M_read : Cond) ∈ TB := tb_3 129 rfl rfl
theorem tw_638 : (.instanceMethod y_M_read : Cond) ∈ TB := tb_3 131 rfl rfl
theorem tw_639 : (.code y_M_read prog_7_method_21_code 2 (Option.some Jvm.ClassFile.FieldType.int) : Cond) ∈ TB := tb_3 132 rfl rfl
theorem tw_640 : (.constantLong "DrawCommandsModel" 160 25 : Cond) ∈ TB := tb_3 133 rfl rfl
theorem tw_641 : (.methodLink "DrawCommandsModel" 162 y_M_length : Cond) ∈ TB := tb_3 134 rfl rfl
theorem tw_643 : (.instanceMethod y_M_length : Cond) ∈ TB := tb_3 136 rfl rfl
theorem tw_644 : (.code y_M_length prog_7_method_22_code 3 (Option.some Jvm.ClassFile.FieldType.int) : Cond) ∈ TB := tb_3 137 rfl rfl
theorem tw_645 : (.methodLink "DrawCommandsModel" 165 y_M_may : Cond) ∈ TB := tb_3 138 rfl rfl
theorem tw_646 : (.static y_M_may : Cond) ∈ TB := tb_3 139 rfl rfl
theorem tw_647 : (.code y_M_may prog_7_method_10_code 3 (Option.some Jvm.ClassFile.FieldType.boolean) : Cond) ∈ TB := tb_3 140 rfl rfl
theorem tw_648 : (.constantLong "DrawCommandsModel" 61 7 : Cond) ∈ TB := tb_3 141 rfl rfl
theorem tw_649 : (.constantLong "DrawCommandsModel" 57 16777215 : Cond) ∈ TB := tb_3 142 rfl rfl
theorem tw_650 : (.constantLong "DrawCommandsModel" 63 255 : Cond) ∈ TB := tb_3 143 rfl rfl
theorem tw_651 : (.methodLink "DrawCommandsModel" 79 y_M_isViews : Cond) ∈ TB := tb_3 144 rfl rfl
theorem tw_652 : (.static y_M_isViews : Cond) ∈ TB := tb_3 145 rfl rfl
theorem tw_653 : (.code y_M_isViews prog_7_method_6_code 2 (Option.some Jvm.ClassFile.FieldType.boolean) : Cond) ∈ TB := tb_3 146 rfl rfl
theorem tw_654 : (.constantLong "DrawCommandsModel" 47 (-1023) : Cond) ∈ TB := tb_3 147 rfl rfl
theorem tw_655 : (.constantLong "DrawCommandsModel" 49 1023 : Cond) ∈ TB := tb_3 148 rfl rfl
theorem tw_656 : (.constantLong "DrawCommandsModel" 55 1024 : Cond) ∈ TB := tb_3 149 rfl rfl
theorem tw_657 : (.constantLong "DrawCommandsModel" 67 1048576 : Cond) ∈ TB := tb_3 150 rfl rfl
theorem tw_658 : (.constantLong "DrawCommandsModel" 83 4 : Cond) ∈ TB := tb_3 151 rfl rfl
theorem tw_659 : (.constantLong "DrawCommandsModel" 65 3 : Cond) ∈ TB := tb_3 152 rfl rfl
theorem tw_660 : (.constantLong "DrawCommandsModel" 85 31 : Cond) ∈ TB := tb_3 153 rfl rfl
theorem tw_661 : (.constantLong "DrawCommandsModel" 87 32 : Cond) ∈ TB := tb_3 154 rfl rfl
theorem tw_662 : (.constantLong "DrawCommandsModel" 89 256 : Cond) ∈ TB := tb_3 155 rfl rfl
theorem tw_663 : (.methodLink "DrawCommandsModel" 91 y_M_isTextures : Cond) ∈ TB := tb_3 156 rfl rfl
theorem tw_664 : (.static y_M_isTextures : Cond) ∈ TB := tb_3 157 rfl rfl
theorem tw_665 : (.code y_M_isTextures prog_7_method_8_code 2 (Option.some Jvm.ClassFile.FieldType.boolean) : Cond) ∈ TB := tb_3 158 rfl rfl
theorem tw_666 : (.constantLong "DrawCommandsModel" 69 10 : Cond) ∈ TB := tb_3 159 rfl rfl
theorem tw_667 : (.constantLong "DrawCommandsModel" 71 11 : Cond) ∈ TB := tb_3 160 rfl rfl
theorem tw_668 : (.constantLong "DrawCommandsModel" 59 (-1) : Cond) ∈ TB := tb_3 161 rfl rfl
theorem tw_669 : (.methodLink "DrawCommandsModel" 94 y_M_isStencils : Cond) ∈ TB := tb_3 162 rfl rfl
theorem tw_670 : (.static y_M_isStencils : Cond) ∈ TB := tb_3 163 rfl rfl
theorem tw_671 : (.code y_M_isStencils prog_7_method_7_code 2 (Option.some Jvm.ClassFile.FieldType.boolean) : Cond) ∈ TB := tb_3 164 rfl rfl
theorem tw_672 : (.constantLong "DrawCommandsModel" 97 14 : Cond) ∈ TB := tb_3 165 rfl rfl
theorem tw_673 : (.constantLong "DrawCommandsModel" 99 15 : Cond) ∈ TB := tb_3 166 rfl rfl
theorem tw_674 : (.constantLong "DrawCommandsModel" 77 2 : Cond) ∈ TB := tb_3 167 rfl rfl
theorem tw_675 : (.constantLong "DrawCommandsModel" 101 4096 : Cond) ∈ TB := tb_3 168 rfl rfl
theorem tw_676 : (.methodLink "DrawCommandsModel" 103 y_M_isCopys : Cond) ∈ TB := tb_3 169 rfl rfl
theorem tw_677 : (.static y_M_isCopys : Cond) ∈ TB := tb_3 170 rfl rfl
theorem tw_678 : (.code y_M_isCopys prog_7_method_9_code 2 (Option.some Jvm.ClassFile.FieldType.boolean) : Cond) ∈ TB := tb_3 171 rfl rfl
theorem tw_679 : (.constantLong "DrawCommandsModel" 73 127 : Cond) ∈ TB := tb_3 172 rfl rfl
theorem tw_680 : (.methodLink "DrawCommandsModel" 169 y_M_liesRight : Cond) ∈ TB := tb_3 173 rfl rfl
theorem tw_682 : (.instanceMethod y_M_liesRight : Cond) ∈ TB := tb_3 175 rfl rfl
theorem tw_683 : (.code y_M_liesRight prog_7_method_24_code 4 (Option.some Jvm.ClassFile.FieldType.boolean) : Cond) ∈ TB := tb_3 176 rfl rfl
theorem tw_684 : (.methodLink "DrawCommandsModel" 156 y_M_isInMemory : Cond) ∈ TB := tb_3 177 rfl rfl
theorem tw_686 : (.instanceMethod y_M_isInMemory : Cond) ∈ TB := tb_3 179 rfl rfl
theorem tw_687 : (.code y_M_isInMemory prog_7_method_23_code 5 (Option.some Jvm.ClassFile.FieldType.boolean) : Cond) ∈ TB := tb_3 180 rfl rfl
theorem tw_688 : (.methodLink "DrawCommandsModel" 172 y_M_fitsState : Cond) ∈ TB := tb_3 181 rfl rfl
theorem tw_690 : (.instanceMethod y_M_fitsState : Cond) ∈ TB := tb_3 183 rfl rfl
theorem tw_691 : (.code y_M_fitsState prog_7_method_25_code 2 (Option.some Jvm.ClassFile.FieldType.boolean) : Cond) ∈ TB := tb_3 184 rfl rfl
theorem tw_692 : (.methodLink "DrawCommandsModel" 179 y_M_perform : Cond) ∈ TB := tb_3 185 rfl rfl
theorem tw_694 : (.instanceMethod y_M_perform : Cond) ∈ TB := tb_3 187 rfl rfl
theorem tw_695 : (.code y_M_perform prog_7_method_28_code 3 (Option.none : Option Jvm.ClassFile.FieldType) : Cond) ∈ TB := tb_3 188 rfl rfl
theorem tw_696 : (.methodLink "DrawCommandsModel" 183 y_M_keep : Cond) ∈ TB := tb_3 189 rfl rfl
theorem tw_698 : (.instanceMethod y_M_keep : Cond) ∈ TB := tb_3 191 rfl rfl
theorem tw_699 : (.code y_M_keep prog_7_method_29_code 4 (Option.none : Option Jvm.ClassFile.FieldType) : Cond) ∈ TB := tb_3 192 rfl rfl
theorem tw_700 : (.methodLink "DrawCommandsLaw" 79 y_M_argument : Cond) ∈ TB := tb_3 193 rfl rfl
theorem tw_701 : (.instanceMethod y_M_argument : Cond) ∈ TB := tb_3 194 rfl rfl
theorem tw_702 : (.selects "DrawCommandsModel" y_M_argument y_M_argument : Cond) ∈ TB := tb_3 195 rfl rfl
theorem tw_703 : (.code y_M_argument prog_7_method_30_code 2 (Option.some Jvm.ClassFile.FieldType.int) : Cond) ∈ TB := tb_3 196 rfl rfl
theorem tw_704 : (.methodLink "DrawCommandsLaw" 83 y_M_kept : Cond) ∈ TB := tb_3 197 rfl rfl
theorem tw_705 : (.instanceMethod y_M_kept : Cond) ∈ TB := tb_3 198 rfl rfl
theorem tw_706 : (.selects "DrawCommandsModel" y_M_kept y_M_kept : Cond) ∈ TB := tb_3 199 rfl rfl
theorem tw_707 : (.code y_M_kept prog_7_method_31_code 5 (Option.some Jvm.ClassFile.FieldType.int) : Cond) ∈ TB := tb_3 200 rfl rfl
theorem tw_708 : (.methodLink "DrawCommandsLaw" 86 y_M_about : Cond) ∈ TB := tb_3 201 rfl rfl
theorem tw_709 : (.instanceMethod y_M_about : Cond) ∈ TB := tb_3 202 rfl rfl
theorem tw_710 : (.selects "DrawCommandsModel" y_M_about y_M_about : Cond) ∈ TB := tb_3 203 rfl rfl
theorem tw_711 : (.code y_M_about prog_7_method_32_code 2 (Option.some Jvm.ClassFile.FieldType.int) : Cond) ∈ TB := tb_3 204 rfl rfl
theorem tw_712 : (.constantLong "DrawCommandsModel" 186 6 : Cond) ∈ TB := tb_3 205 rfl rfl
theorem tw_713 : (.arrayClass Jvm.ClassFile.FieldType.long : Cond) ∈ TB := tb_3 206 rfl rfl
theorem tu_C : ∀ w ∈ u_ws R_C F_C 3, w ∈ TB := fun w h => by
  have e : u_ws R_C F_C 3 = [.laysFinal "DrawCommands$Command" "DrawCommands$Command" "words" "[I", .lays "DrawCommands$Command" "DrawCommands$Command" "kind" "I", .lays "DrawCommands$Command" "DrawCommands$Command" "many" "I"] := rfl
  rw [e] at h
  simp only [List.mem_cons, List.not_mem_nil, or_false] at h
  rcases h with rfl | rfl | rfl
  · exact tw_123
  · exact tw_125
  · exact tw_127
theorem tu_R : ∀ w ∈ u_ws R_R F_R 9, w ∈ TB := fun w h => by
  have e : u_ws R_R F_R 9 = [.laysFinal "DrawCommands$Run" "DrawCommands$Run" "backs" "[I", .lays "DrawCommands$Run" "DrawCommands$Run" "place" "I", .lays "DrawCommands$Run" "DrawCommands$Run" "depth" "I", .lays "DrawCommands$Run" "DrawCommands$Run" "lastPlace" "I", .lays "DrawCommands$Run" "DrawCommands$Run" "lastDepth" "I", .lays "DrawCommands$Run" "DrawCommands$Run" "done" "I", .lays "DrawCommands$Run" "DrawCommands$Run" "refusal" "I", .lays "DrawCommands$Run" "DrawCommands$Run" "query" "I", .lays "DrawCommands$Run" "DrawCommands$Run" "over" "Z"] := rfl
  rw [e] at h
  simp only [List.mem_cons, List.not_mem_nil, or_false] at h
  rcases h with rfl | rfl | rfl | rfl | rfl | rfl | rfl | rfl | rfl
  · exact tw_157
  · exact tw_159
  · exact tw_161
  · exact tw_163
  · exact tw_165
  · exact tw_167
  · exact tw_169
  · exact tw_171
  · exact tw_173
theorem tu_T : ∀ w ∈ u_ws R_T F_T 2, w ∈ TB := fun w h => by
  have e : u_ws R_T F_T 2 = [.laysFinal "DrawCommands$Told" "DrawCommands$Told" "starts" "[I", .laysFinal "DrawCommands$Told" "DrawCommands$Told" "words" "[I"] := rfl
  rw [e] at h
  simp only [List.mem_cons, List.not_mem_nil, or_false] at h
  rcases h with rfl | rfl
  · exact tw_104
  · exact tw_106
theorem tu_D : ∀ w ∈ u_ws R_D F_D 8, w ∈ TB := fun w h => by
  have e : u_ws R_D F_D 8 = [.laysFinal "DrawCommands" "DrawCommands" "memory" "[I", .laysFinal "DrawCommands" "DrawCommands" "stream" "[I", .laysFinal "DrawCommands" "DrawCommands" "told" "LDrawCommands$Told;", .laysFinal "DrawCommands" "DrawCommands" "command" "LDrawCommands$Command;", .laysFinal "DrawCommands" "DrawCommands" "run" "LDrawCommands$Run;", .lays "DrawCommands" "DrawCommands" "streamLength" "I", .lays "DrawCommands" "DrawCommands" "frameWide" "I", .lays "DrawCommands" "DrawCommands" "frameHigh" "I"] := rfl
  rw [e] at h
  simp only [List.mem_cons, List.not_mem_nil, or_false] at h
  rcases h with rfl | rfl | rfl | rfl | rfl | rfl | rfl | rfl
  · exact tw_184
  · exact tw_186
  · exact tw_188
  · exact tw_190
  · exact tw_192
  · exact tw_194
  · exact tw_196
  · exact tw_198
theorem tu_M : ∀ w ∈ u_ws R_M F_M 18, w ∈ TB := fun w h => by
  have e : u_ws R_M F_M 18 = [.lays "DrawCommandsModel" "DrawCommandsModel" "thrown" "I", .laysFinal "DrawCommandsModel" "DrawCommandsModel" "memory" "[I", .lays "DrawCommandsModel" "DrawCommandsModel" "wide" "I", .lays "DrawCommandsModel" "DrawCommandsModel" "high" "I", .laysFinal "DrawCommandsModel" "DrawCommandsModel" "stream" "[I", .lays "DrawCommandsModel" "DrawCommandsModel" "size" "I", .lays "DrawCommandsModel" "DrawCommandsModel" "at" "I", .lays "DrawCommandsModel" "DrawCommandsModel" "depth" "I", .laysFinal "DrawCommandsModel" "DrawCommandsModel" "back" "[I", .lays "DrawCommandsModel" "DrawCommandsModel" "over" "Z", .lays "DrawCommandsModel" "DrawCommandsModel" "refusal" "I", .lays "DrawCommandsModel" "DrawCommandsModel" "place" "I", .lays "DrawCommandsModel" "DrawCommandsModel" "deep" "I", .lays "DrawCommandsModel" "DrawCommandsModel" "done" "I", .lays "DrawCommandsModel" "DrawCommandsModel" "query" "I", .lays "DrawCommandsModel" "DrawCommandsModel" "arguments" "I", .laysFinal "DrawCommandsModel" "DrawCommandsModel" "argument" "[I", .laysFinal "DrawCommandsModel" "DrawCommandsModel" "kept" "[I"] := rfl
  rw [e] at h
  simp only [List.mem_cons, List.not_mem_nil, or_false] at h
  rcases h with rfl | rfl | rfl | rfl | rfl | rfl | rfl | rfl | rfl | rfl | rfl | rfl | rfl | rfl | rfl | rfl | rfl | rfl
  · exact tw_550
  · exact tw_552
  · exact tw_554
  · exact tw_556
  · exact tw_558
  · exact tw_560
  · exact tw_562
  · exact tw_564
  · exact tw_566
  · exact tw_568
  · exact tw_570
  · exact tw_572
  · exact tw_574
  · exact tw_576
  · exact tw_578
  · exact tw_580
  · exact tw_582
  · exact tw_584
