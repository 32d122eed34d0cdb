theorem wm_0 : (.initialized "CountLeastLaw" : Cond) ∈ TB := tb_i 18 (by rfl) (by rfl)
theorem wm_1 : (.initialized "CountLeast" : Cond) ∈ TB := tb_i 19 (by rfl) (by rfl)
theorem wm_2 : (.initialized "CountLeast$Kind" : Cond) ∈ TB := tb_i 20 (by rfl) (by rfl)
theorem wm_3 : (.initialized "CountLeast$Parting" : Cond) ∈ TB := tb_i 21 (by rfl) (by rfl)
theorem wm_4 : (.initialized "CountLeastModel" : Cond) ∈ TB := tb_i 22 (by rfl) (by rfl)
theorem wm_5 : (.initialized "java/lang/Throwable" : Cond) ∈ TB := tb_i 23 (by rfl) (by rfl)
theorem wm_6 : (.initialized "java/lang/Exception" : Cond) ∈ TB := tb_i 24 (by rfl) (by rfl)
theorem wm_7 : (.initialized "java/lang/RuntimeException" : Cond) ∈ TB := tb_i 25 (by rfl) (by rfl)
theorem wm_8 : (.initialized "java/lang/IndexOutOfBoundsException" : Cond) ∈ TB := tb_i 26 (by rfl) (by rfl)
theorem wm_9 : (.initialized "java/lang/IllegalArgumentException" : Cond) ∈ TB := tb_i 27 (by rfl) (by rfl)
theorem wm_10 : (.initialized "java/lang/IllegalStateException" : Cond) ∈ TB := tb_i 28 (by rfl) (by rfl)
theorem wm_11 : (.initialized "CountLeast$Piece" : Cond) ∈ TB := tb_i 29 (by rfl) (by rfl)
theorem wm_12 : (.initialized "java/lang/Math" : Cond) ∈ TB := tb_i 30 (by rfl) (by rfl)
theorem wm_13 : (.initialized "java/lang/Integer" : Cond) ∈ TB := tb_i 31 (by rfl) (by rfl)
theorem wm_14 : (.classLink "CountLeastLaw" 8 "CountLeast" : Cond) ∈ TB := tb_i 32 (by rfl) (by rfl)
theorem wm_15 : (.instantiable "CountLeast" 3 : Cond) ∈ TB := tb_i 33 (by rfl) (by rfl)
theorem wm_16 : (.methodLink "CountLeastLaw" 77 ⟨"CountLeast", "<init>", "()V"⟩ : Cond) ∈ TB := tb_i 34 (by rfl) (by rfl)
theorem wm_17 : (.instanceMethod ⟨"CountLeast", "<init>", "()V"⟩ : Cond) ∈ TB := tb_i 35 (by rfl) (by rfl)
theorem wm_18 : (.code ⟨"CountLeast", "<init>", "()V"⟩ prog_1_method_1_code 2 none : Cond) ∈ TB := tb_i 36 (by rfl) (by rfl)
theorem wm_19 : (.methodLink "CountLeast" 1 ⟨"java/lang/Object", "<init>", "()V"⟩ : Cond) ∈ TB := tb_i 37 (by rfl) (by rfl)
theorem wm_20 : (.instanceMethod ⟨"java/lang/Object", "<init>", "()V"⟩ : Cond) ∈ TB := tb_i 38 (by rfl) (by rfl)
theorem wm_21 : (.code ⟨"java/lang/Object", "<init>", "()V"⟩ object_method_1_code 1 none : Cond) ∈ TB := tb_i 39 (by rfl) (by rfl)
theorem wm_22 : (.classLink "CountLeast" 9 "CountLeast$Kind" : Cond) ∈ TB := tb_i 40 (by rfl) (by rfl)
theorem wm_24 : (.classLink "CountLeast" 15 "CountLeast$Piece" : Cond) ∈ TB := tb_i 42 (by rfl) (by rfl)
theorem wm_26 : (.instantiable "CountLeast$Kind" 10 : Cond) ∈ TB := tb_i 44 (by rfl) (by rfl)
theorem wm_27 : (.methodLink "CountLeast" 25 ⟨"CountLeast$Kind", "<init>", "()V"⟩ : Cond) ∈ TB := tb_i 45 (by rfl) (by rfl)
theorem wm_28 : (.instanceMethod ⟨"CountLeast$Kind", "<init>", "()V"⟩ : Cond) ∈ TB := tb_i 46 (by rfl) (by rfl)
theorem wm_29 : (.code ⟨"CountLeast$Kind", "<init>", "()V"⟩ prog_2_method_1_code 2 none : Cond) ∈ TB := tb_i 47 (by rfl) (by rfl)
theorem wm_30 : (.methodLink "CountLeast$Kind" 3 ⟨"java/lang/Object", "<init>", "()V"⟩ : Cond) ∈ TB := tb_i 48 (by rfl) (by rfl)
theorem wm_31 : (.classLink "CountLeast$Kind" 39 "CountLeast$Piece" : Cond) ∈ TB := tb_i 49 (by rfl) (by rfl)
theorem wm_32 : (.classLink "CountLeast$Kind" 45 "CountLeast$Parting" : Cond) ∈ TB := tb_i 50 (by rfl) (by rfl)
theorem wm_33 : (.instantiable "CountLeast$Parting" 6 : Cond) ∈ TB := tb_i 51 (by rfl) (by rfl)
theorem wm_35 : (.instanceMethod ⟨"CountLeast$Parting", "<init>", "()V"⟩ : Cond) ∈ TB := tb_i 53 (by rfl) (by rfl)
theorem wm_36 : (.code ⟨"CountLeast$Parting", "<init>", "()V"⟩ prog_3_method_1_code 1 none : Cond) ∈ TB := tb_i 54 (by rfl) (by rfl)
theorem wm_37 : (.methodLink "CountLeast$Parting" 3 ⟨"java/lang/Object", "<init>", "()V"⟩ : Cond) ∈ TB := tb_i 55 (by rfl) (by rfl)
theorem wm_38 : (.fieldLink "CountLeast$Parting" 9 "CountLeast$Parting" "fewest" "I" : Cond) ∈ TB := tb_i 56 (by rfl) (by rfl)
theorem wm_39 : (.fieldLink "CountLeast" 106 "CountLeast$Parting" "fewest" "I" : Cond) ∈ TB := tb_i 57 (by rfl) (by rfl)
theorem wm_40 : (.fieldLink "CountLeast$Parting" 15 "CountLeast$Parting" "count" "I" : Cond) ∈ TB := tb_i 58 (by rfl) (by rfl)
theorem wm_41 : (.fieldLink "CountLeast$Parting" 18 "CountLeast$Parting" "greatest" "I" : Cond) ∈ TB := tb_i 59 (by rfl) (by rfl)
theorem wm_42 : (.fieldLink "CountLeast$Parting" 21 "CountLeast$Parting" "foesOf" "[I" : Cond) ∈ TB := tb_i 60 (by rfl) (by rfl)
theorem wm_43 : (.fieldLink "CountLeast$Parting" 25 "CountLeast$Parting" "setOf" "[I" : Cond) ∈ TB := tb_i 61 (by rfl) (by rfl)
theorem wm_44 : (.fieldLink "CountLeast$Parting" 28 "CountLeast$Parting" "barred" "[I" : Cond) ∈ TB := tb_i 62 (by rfl) (by rfl)
theorem wm_45 : (.lays "CountLeast$Parting" "CountLeast$Parting" "fewest" "I" : Cond) ∈ TB := tb_i 63 (by rfl) (by rfl)
theorem wm_47 : (.lays "CountLeast$Parting" "CountLeast$Parting" "count" "I" : Cond) ∈ TB := tb_i 65 (by rfl) (by rfl)
theorem wm_49 : (.lays "CountLeast$Parting" "CountLeast$Parting" "greatest" "I" : Cond) ∈ TB := tb_i 67 (by rfl) (by rfl)
theorem wm_51 : (.laysFinal "CountLeast$Parting" "CountLeast$Parting" "foesOf" "[I" : Cond) ∈ TB := tb_i 69 (by rfl) (by rfl)
theorem wm_53 : (.laysFinal "CountLeast$Parting" "CountLeast$Parting" "setOf" "[I" : Cond) ∈ TB := tb_i 71 (by rfl) (by rfl)
theorem wm_55 : (.laysFinal "CountLeast$Parting" "CountLeast$Parting" "barred" "[I" : Cond) ∈ TB := tb_i 73 (by rfl) (by rfl)
theorem wm_58 : (.arrayClass .boolean : Cond) ∈ TB := tb_i 76 (by rfl) (by rfl)
theorem wm_59 : (.arrayClass .int : Cond) ∈ TB := tb_i 77 (by rfl) (by rfl)
theorem wm_60 : (.fieldLink "CountLeast$Kind" 9 "CountLeast$Kind" "oneAlone" "[Z" : Cond) ∈ TB := tb_i 78 (by rfl) (by rfl)
theorem wm_61 : (.fieldLink "CountLeast" 58 "CountLeast$Kind" "oneAlone" "[Z" : Cond) ∈ TB := tb_i 79 (by rfl) (by rfl)
theorem wm_62 : (.fieldLink "CountLeast$Kind" 15 "CountLeast$Kind" "wearFrom" "[I" : Cond) ∈ TB := tb_i 80 (by rfl) (by rfl)
theorem wm_63 : (.fieldLink "CountLeast" 69 "CountLeast$Kind" "wearFrom" "[I" : Cond) ∈ TB := tb_i 81 (by rfl) (by rfl)
theorem wm_64 : (.fieldLink "CountLeast$Kind" 19 "CountLeast$Kind" "wearTo" "[I" : Cond) ∈ TB := tb_i 82 (by rfl) (by rfl)
theorem wm_65 : (.fieldLink "CountLeast" 73 "CountLeast$Kind" "wearTo" "[I" : Cond) ∈ TB := tb_i 83 (by rfl) (by rfl)
theorem wm_66 : (.fieldLink "CountLeast$Kind" 22 "CountLeast$Kind" "sizeBound" "I" : Cond) ∈ TB := tb_i 84 (by rfl) (by rfl)
theorem wm_67 : (.fieldLink "CountLeast" 66 "CountLeast$Kind" "sizeBound" "I" : Cond) ∈ TB := tb_i 85 (by rfl) (by rfl)
theorem wm_68 : (.fieldLink "CountLeast$Kind" 26 "CountLeast$Kind" "factorAbove" "I" : Cond) ∈ TB := tb_i 86 (by rfl) (by rfl)
theorem wm_69 : (.fieldLink "CountLeast" 141 "CountLeast$Kind" "factorAbove" "I" : Cond) ∈ TB := tb_i 87 (by rfl) (by rfl)
theorem wm_70 : (.fieldLink "CountLeast$Kind" 29 "CountLeast$Kind" "factorBelow" "I" : Cond) ∈ TB := tb_i 88 (by rfl) (by rfl)
theorem wm_71 : (.fieldLink "CountLeast" 144 "CountLeast$Kind" "factorBelow" "I" : Cond) ∈ TB := tb_i 89 (by rfl) (by rfl)
theorem wm_72 : (.fieldLink "CountLeast$Piece" 28 "CountLeast$Kind" "count" "I" : Cond) ∈ TB := tb_i 90 (by rfl) (by rfl)
theorem wm_73 : (.fieldLink "CountLeast$Kind" 32 "CountLeast$Kind" "count" "I" : Cond) ∈ TB := tb_i 91 (by rfl) (by rfl)
theorem wm_74 : (.fieldLink "CountLeast" 38 "CountLeast$Kind" "count" "I" : Cond) ∈ TB := tb_i 92 (by rfl) (by rfl)
theorem wm_75 : (.fieldLink "CountLeast$Kind" 35 "CountLeast$Kind" "stale" "Z" : Cond) ∈ TB := tb_i 93 (by rfl) (by rfl)
theorem wm_76 : (.fieldLink "CountLeast" 62 "CountLeast$Kind" "stale" "Z" : Cond) ∈ TB := tb_i 94 (by rfl) (by rfl)
theorem wm_77 : (.fieldLink "CountLeast$Kind" 41 "CountLeast$Kind" "own" "[LCountLeast$Piece;" : Cond) ∈ TB := tb_i 95 (by rfl) (by rfl)
theorem wm_78 : (.fieldLink "CountLeast$Kind" 48 "CountLeast$Kind" "parting" "LCountLeast$Parting;" : Cond) ∈ TB := tb_i 96 (by rfl) (by rfl)
theorem wm_79 : (.laysFinal "CountLeast$Kind" "CountLeast$Kind" "oneAlone" "[Z" : Cond) ∈ TB := tb_i 97 (by rfl) (by rfl)
theorem wm_81 : (.laysFinal "CountLeast$Kind" "CountLeast$Kind" "wearFrom" "[I" : Cond) ∈ TB := tb_i 99 (by rfl) (by rfl)
theorem wm_83 : (.laysFinal "CountLeast$Kind" "CountLeast$Kind" "wearTo" "[I" : Cond) ∈ TB := tb_i 101 (by rfl) (by rfl)
theorem wm_85 : (.lays "CountLeast$Kind" "CountLeast$Kind" "sizeBound" "I" : Cond) ∈ TB := tb_i 103 (by rfl) (by rfl)
theorem wm_87 : (.lays "CountLeast$Kind" "CountLeast$Kind" "factorAbove" "I" : Cond) ∈ TB := tb_i 105 (by rfl) (by rfl)
theorem wm_89 : (.lays "CountLeast$Kind" "CountLeast$Kind" "factorBelow" "I" : Cond) ∈ TB := tb_i 107 (by rfl) (by rfl)
theorem wm_91 : (.lays "CountLeast$Kind" "CountLeast$Kind" "count" "I" : Cond) ∈ TB := tb_i 109 (by rfl) (by rfl)
theorem wm_93 : (.lays "CountLeast$Kind" "CountLeast$Kind" "stale" "Z" : Cond) ∈ TB := tb_i 111 (by rfl) (by rfl)
theorem wm_95 : (.laysFinal "CountLeast$Kind" "CountLeast$Kind" "own" "[LCountLeast$Piece;" : Cond) ∈ TB := tb_i 113 (by rfl) (by rfl)
theorem wm_97 : (.laysFinal "CountLeast$Kind" "CountLeast$Kind" "parting" "LCountLeast$Parting;" : Cond) ∈ TB := tb_i 115 (by rfl) (by rfl)
theorem wm_100 : (.fieldLink "CountLeast" 11 "CountLeast" "kinds" "[LCountLeast$Kind;" : Cond) ∈ TB := tb_i 118 (by rfl) (by rfl)
theorem wm_101 : (.fieldLink "CountLeast" 17 "CountLeast" "found" "[LCountLeast$Piece;" : Cond) ∈ TB := tb_i 119 (by rfl) (by rfl)
theorem wm_102 : (.fieldLink "CountLeast" 21 "CountLeast" "foundCount" "I" : Cond) ∈ TB := tb_i 120 (by rfl) (by rfl)
theorem wm_103 : (.laysFinal "CountLeast" "CountLeast" "kinds" "[LCountLeast$Kind;" : Cond) ∈ TB := tb_i 121 (by rfl) (by rfl)
theorem wm_105 : (.laysFinal "CountLeast" "CountLeast" "found" "[LCountLeast$Piece;" : Cond) ∈ TB := tb_i 123 (by rfl) (by rfl)
theorem wm_107 : (.lays "CountLeast" "CountLeast" "foundCount" "I" : Cond) ∈ TB := tb_i 125 (by rfl) (by rfl)
theorem wm_110 : (.methodLink "CountLeastLaw" 81 ⟨"CountLeastLaw", "piece", "(LCountLeast;IIII[J)I"⟩ : Cond) ∈ TB := tb_i 128 (by rfl) (by rfl)
theorem wm_111 : (.static ⟨"CountLeastLaw", "piece", "(LCountLeast;IIII[J)I"⟩ : Cond) ∈ TB := tb_i 129 (by rfl) (by rfl)
theorem wm_112 : (.codeWith ⟨"CountLeastLaw", "piece", "(LCountLeast;IIII[J)I"⟩ method_3_code 7 (some .int) [(0, 14, 17, 13), (0, 14, 21, 15), (0, 14, 25, 17)] : Cond) ∈ TB := tb_i 130 (by rfl) (by rfl)
theorem wm_113 : (.classLink "CountLeastLaw" 13 "java/lang/IndexOutOfBoundsException" : Cond) ∈ TB := tb_i 131 (by rfl) (by rfl)
theorem wm_114 : (.classLink "CountLeastLaw" 15 "java/lang/IllegalArgumentException" : Cond) ∈ TB := tb_i 132 (by rfl) (by rfl)
theorem wm_115 : (.classLink "CountLeastLaw" 17 "java/lang/IllegalStateException" : Cond) ∈ TB := tb_i 133 (by rfl) (by rfl)
theorem wm_116 : (.methodLink "CountLeastLaw" 7 ⟨"CountLeast", "piece", "(IIII)I"⟩ : Cond) ∈ TB := tb_i 134 (by rfl) (by rfl)
theorem wm_117 : (.instanceMethod ⟨"CountLeast", "piece", "(IIII)I"⟩ : Cond) ∈ TB := tb_i 135 (by rfl) (by rfl)
theorem wm_118 : (.selects "CountLeast" ⟨"CountLeast", "piece", "(IIII)I"⟩ ⟨"CountLeast", "piece", "(IIII)I"⟩ : Cond) ∈ TB := tb_i 136 (by rfl) (by rfl)
theorem wm_119 : (.code ⟨"CountLeast", "piece", "(IIII)I"⟩ prog_1_method_2_code 7 (some .int) : Cond) ∈ TB := tb_i 137 (by rfl) (by rfl)
theorem wm_120 : (.methodLink "CountLeast" 26 ⟨"CountLeast", "kindAt", "(I)LCountLeast$Kind;"⟩ : Cond) ∈ TB := tb_i 138 (by rfl) (by rfl)
theorem wm_122 : (.instanceMethod ⟨"CountLeast", "kindAt", "(I)LCountLeast$Kind;"⟩ : Cond) ∈ TB := tb_i 140 (by rfl) (by rfl)
theorem wm_123 : (.code ⟨"CountLeast", "kindAt", "(I)LCountLeast$Kind;"⟩ prog_1_method_20_code 2 (some (.object "CountLeast$Kind")) : Cond) ∈ TB := tb_i 141 (by rfl) (by rfl)
theorem wm_124 : (.classLink "CountLeast" 118 "java/lang/IndexOutOfBoundsException" : Cond) ∈ TB := tb_i 142 (by rfl) (by rfl)
theorem wm_125 : (.instantiable "java/lang/IndexOutOfBoundsException" 6 : Cond) ∈ TB := tb_i 143 (by rfl) (by rfl)
theorem wm_133 : (.selects "java/lang/IndexOutOfBoundsException" ⟨"java/lang/Throwable", "fillInStackTrace", "(I)Ljava/lang/Throwable;"⟩ ⟨"java/lang/Throwable", "fillInStackTrace", "(I)Ljava/lang/Throwable;"⟩ : Cond) ∈ TB := tb_i 151 (by rfl) (by rfl)
theorem wm_134 : (.selects "java/lang/IndexOutOfBoundsException" ⟨"java/lang/Throwable", "fillInStackTrace", "()Ljava/lang/Throwable;"⟩ ⟨"java/lang/Throwable", "fillInStackTrace", "()Ljava/lang/Throwable;"⟩ : Cond) ∈ TB := tb_i 152 (by rfl) (by rfl)
theorem wm_135 : (.lays "java/lang/IndexOutOfBoundsException" "java/lang/Throwable" "cause" "Ljava/lang/Throwable;" : Cond) ∈ TB := tb_i 153 (by rfl) (by rfl)
theorem wm_136 : (.lays "java/lang/Throwable" "java/lang/Throwable" "cause" "Ljava/lang/Throwable;" : Cond) ∈ TB := tb_i 154 (by rfl) (by rfl)
theorem wm_137 : (.lays "java/lang/IndexOutOfBoundsException" "java/lang/Throwable" "stackTrace" "[Ljava/lang/StackTraceElement;" : Cond) ∈ TB := tb_i 155 (by rfl) (by rfl)
theorem wm_138 : (.lays "java/lang/Throwable" "java/lang/Throwable" "stackTrace" "[Ljava/lang/StackTraceElement;" : Cond) ∈ TB := tb_i 156 (by rfl) (by rfl)
theorem wm_139 : (.lays "java/lang/IndexOutOfBoundsException" "java/lang/Throwable" "suppressedExceptions" "Ljava/util/List;" : Cond) ∈ TB := tb_i 157 (by rfl) (by rfl)
theorem wm_140 : (.lays "java/lang/Throwable" "java/lang/Throwable" "suppressedExceptions" "Ljava/util/List;" : Cond) ∈ TB := tb_i 158 (by rfl) (by rfl)
theorem wm_141 : (.lays "java/lang/IndexOutOfBoundsException" "java/lang/Throwable" "detailMessage" "Ljava/lang/String;" : Cond) ∈ TB := tb_i 159 (by rfl) (by rfl)
theorem wm_142 : (.lays "java/lang/Throwable" "java/lang/Throwable" "detailMessage" "Ljava/lang/String;" : Cond) ∈ TB := tb_i 160 (by rfl) (by rfl)
theorem wm_143 : (.lays "java/lang/IndexOutOfBoundsException" "java/lang/Throwable" "backtrace" "Ljava/lang/Object;" : Cond) ∈ TB := tb_i 161 (by rfl) (by rfl)
theorem wm_144 : (.lays "java/lang/Throwable" "java/lang/Throwable" "backtrace" "Ljava/lang/Object;" : Cond) ∈ TB := tb_i 162 (by rfl) (by rfl)
theorem wm_145 : (.fieldLink "java/lang/Throwable" 198 "java/lang/Throwable" "backtrace" "Ljava/lang/Object;" : Cond) ∈ TB := tb_i 163 (by rfl) (by rfl)
theorem wm_147 : (.instanceMethod ⟨"java/lang/Throwable", "<init>", "()V"⟩ : Cond) ∈ TB := tb_i 165 (by rfl) (by rfl)
theorem wm_148 : (.code ⟨"java/lang/Throwable", "<init>", "()V"⟩ prog_15_method_1_code 1 none : Cond) ∈ TB := tb_i 166 (by rfl) (by rfl)
theorem wm_149 : (.methodLink "java/lang/Throwable" 1 ⟨"java/lang/Object", "<init>", "()V"⟩ : Cond) ∈ TB := tb_i 167 (by rfl) (by rfl)
theorem wm_150 : (.fieldLink "java/lang/Throwable" 13 "java/lang/Throwable" "UNASSIGNED_STACK" "[Ljava/lang/StackTraceElement;" : Cond) ∈ TB := tb_i 168 (by rfl) (by rfl)
theorem wm_152 : (.fieldLink "java/lang/Throwable" 20 "java/lang/Throwable" "SUPPRESSED_SENTINEL" "Ljava/util/List;" : Cond) ∈ TB := tb_i 170 (by rfl) (by rfl)
theorem wm_154 : (.methodLink "java/lang/Throwable" 27 ⟨"java/lang/Throwable", "fillInStackTrace", "()Ljava/lang/Throwable;"⟩ : Cond) ∈ TB := tb_i 172 (by rfl) (by rfl)
theorem wm_155 : (.instanceMethod ⟨"java/lang/Throwable", "fillInStackTrace", "()Ljava/lang/Throwable;"⟩ : Cond) ∈ TB := tb_i 173 (by rfl) (by rfl)
theorem wm_156 : (.sameMethod "java/lang/Throwable" "java/lang/Throwable" "fillInStackTrace" "()Ljava/lang/Throwable;" : Cond) ∈ TB := tb_i 174 (by rfl) (by rfl)
theorem wm_157 : (.selects "java/lang/IllegalArgumentException" ⟨"java/lang/Throwable", "fillInStackTrace", "()Ljava/lang/Throwable;"⟩ ⟨"java/lang/Throwable", "fillInStackTrace", "()Ljava/lang/Throwable;"⟩ : Cond) ∈ TB := tb_i 175 (by rfl) (by rfl)
theorem wm_158 : (.selects "java/lang/IllegalStateException" ⟨"java/lang/Throwable", "fillInStackTrace", "()Ljava/lang/Throwable;"⟩ ⟨"java/lang/Throwable", "fillInStackTrace", "()Ljava/lang/Throwable;"⟩ : Cond) ∈ TB := tb_i 176 (by rfl) (by rfl)
theorem wm_159 : (.codeSync ⟨"java/lang/Throwable", "fillInStackTrace", "()Ljava/lang/Throwable;"⟩ prog_15_method_18_code 1 (some (.object "java/lang/Throwable")) : Cond) ∈ TB := tb_i 177 (by rfl) (by rfl)
theorem wm_160 : (.methodLink "java/lang/Throwable" 202 ⟨"java/lang/Throwable", "fillInStackTrace", "(I)Ljava/lang/Throwable;"⟩ : Cond) ∈ TB := tb_i 178 (by rfl) (by rfl)
theorem wm_162 : (.instanceMethod ⟨"java/lang/Throwable", "fillInStackTrace", "(I)Ljava/lang/Throwable;"⟩ : Cond) ∈ TB := tb_i 180 (by rfl) (by rfl)
theorem wm_163 : (.instantiable "java/lang/Throwable" 6 : Cond) ∈ TB := tb_i 181 (by rfl) (by rfl)
theorem wm_164 : (.native ⟨"java/lang/Throwable", "fillInStackTrace", "(I)Ljava/lang/Throwable;"⟩ : Cond) ∈ TB := tb_i 182 (by rfl) (by rfl)
theorem wm_166 : (.methodLink "CountLeast" 122 ⟨"java/lang/IndexOutOfBoundsException", "<init>", "(Ljava/lang/String;)V"⟩ : Cond) ∈ TB := tb_i 184 (by rfl) (by rfl)
theorem wm_167 : (.instanceMethod ⟨"java/lang/IndexOutOfBoundsException", "<init>", "(Ljava/lang/String;)V"⟩ : Cond) ∈ TB := tb_i 185 (by rfl) (by rfl)
theorem wm_168 : (.code ⟨"java/lang/IndexOutOfBoundsException", "<init>", "(Ljava/lang/String;)V"⟩ prog_10_method_2_code 2 none : Cond) ∈ TB := tb_i 186 (by rfl) (by rfl)
theorem wm_169 : (.methodLink "java/lang/IndexOutOfBoundsException" 7 ⟨"java/lang/RuntimeException", "<init>", "(Ljava/lang/String;)V"⟩ : Cond) ∈ TB := tb_i 187 (by rfl) (by rfl)
theorem wm_170 : (.instanceMethod ⟨"java/lang/RuntimeException", "<init>", "(Ljava/lang/String;)V"⟩ : Cond) ∈ TB := tb_i 188 (by rfl) (by rfl)
theorem wm_171 : (.code ⟨"java/lang/RuntimeException", "<init>", "(Ljava/lang/String;)V"⟩ prog_13_method_2_code 2 none : Cond) ∈ TB := tb_i 189 (by rfl) (by rfl)
theorem wm_172 : (.methodLink "java/lang/RuntimeException" 7 ⟨"java/lang/Exception", "<init>", "(Ljava/lang/String;)V"⟩ : Cond) ∈ TB := tb_i 190 (by rfl) (by rfl)
theorem wm_173 : (.instanceMethod ⟨"java/lang/Exception", "<init>", "(Ljava/lang/String;)V"⟩ : Cond) ∈ TB := tb_i 191 (by rfl) (by rfl)
theorem wm_174 : (.code ⟨"java/lang/Exception", "<init>", "(Ljava/lang/String;)V"⟩ prog_7_method_2_code 2 none : Cond) ∈ TB := tb_i 192 (by rfl) (by rfl)
theorem wm_175 : (.methodLink "java/lang/Exception" 7 ⟨"java/lang/Throwable", "<init>", "(Ljava/lang/String;)V"⟩ : Cond) ∈ TB := tb_i 193 (by rfl) (by rfl)
theorem wm_176 : (.instanceMethod ⟨"java/lang/Throwable", "<init>", "(Ljava/lang/String;)V"⟩ : Cond) ∈ TB := tb_i 194 (by rfl) (by rfl)
theorem wm_177 : (.code ⟨"java/lang/Throwable", "<init>", "(Ljava/lang/String;)V"⟩ prog_15_method_2_code 2 none : Cond) ∈ TB := tb_i 195 (by rfl) (by rfl)
theorem wm_178 : (.fieldLink "java/lang/Throwable" 198 "java/lang/Throwable" "backtrace" "Ljava/lang/Object;" : Cond) ∈ TB := tb_i 196 (by rfl) (by rfl)
theorem wm_179 : (.fieldLink "java/lang/Throwable" 31 "java/lang/Throwable" "detailMessage" "Ljava/lang/String;" : Cond) ∈ TB := tb_i 197 (by rfl) (by rfl)
theorem wm_180 : (.fieldLink "java/lang/Throwable" 7 "java/lang/Throwable" "cause" "Ljava/lang/Throwable;" : Cond) ∈ TB := tb_i 198 (by rfl) (by rfl)
theorem wm_181 : (.fieldLink "java/lang/Throwable" 17 "java/lang/Throwable" "stackTrace" "[Ljava/lang/StackTraceElement;" : Cond) ∈ TB := tb_i 199 (by rfl) (by rfl)
theorem wm_182 : (.fieldLink "java/lang/Throwable" 24 "java/lang/Throwable" "suppressedExceptions" "Ljava/util/List;" : Cond) ∈ TB := tb_i 200 (by rfl) (by rfl)
theorem wm_187 : (.lays "java/lang/IndexOutOfBoundsException" "java/lang/Throwable" "depth" "I" : Cond) ∈ TB := tb_i 205 (by rfl) (by rfl)
theorem wm_191 : (.arrayClass .byte : Cond) ∈ TB := tb_i 209 (by rfl) (by rfl)
theorem wm_192 : (.methodLink "CountLeast" 30 ⟨"CountLeast", "checkIndex", "(II)V"⟩ : Cond) ∈ TB := tb_i 210 (by rfl) (by rfl)
theorem wm_193 : (.static ⟨"CountLeast", "checkIndex", "(II)V"⟩ : Cond) ∈ TB := tb_i 211 (by rfl) (by rfl)
theorem wm_194 : (.code ⟨"CountLeast", "checkIndex", "(II)V"⟩ prog_1_method_22_code 2 none : Cond) ∈ TB := tb_i 212 (by rfl) (by rfl)
theorem wm_196 : (.methodLink "CountLeast" 34 ⟨"CountLeast", "checkRange", "(III)V"⟩ : Cond) ∈ TB := tb_i 214 (by rfl) (by rfl)
theorem wm_197 : (.static ⟨"CountLeast", "checkRange", "(III)V"⟩ : Cond) ∈ TB := tb_i 215 (by rfl) (by rfl)
theorem wm_198 : (.code ⟨"CountLeast", "checkRange", "(III)V"⟩ prog_1_method_23_code 3 none : Cond) ∈ TB := tb_i 216 (by rfl) (by rfl)
theorem wm_199 : (.classLink "CountLeast" 93 "java/lang/IllegalArgumentException" : Cond) ∈ TB := tb_i 217 (by rfl) (by rfl)
theorem wm_200 : (.instantiable "java/lang/IllegalArgumentException" 6 : Cond) ∈ TB := tb_i 218 (by rfl) (by rfl)
theorem wm_202 : (.selects "java/lang/IllegalArgumentException" ⟨"java/lang/Throwable", "fillInStackTrace", "(I)Ljava/lang/Throwable;"⟩ ⟨"java/lang/Throwable", "fillInStackTrace", "(I)Ljava/lang/Throwable;"⟩ : Cond) ∈ TB := tb_i 220 (by rfl) (by rfl)
theorem wm_203 : (.lays "java/lang/IllegalArgumentException" "java/lang/Throwable" "cause" "Ljava/lang/Throwable;" : Cond) ∈ TB := tb_i 221 (by rfl) (by rfl)
theorem wm_204 : (.lays "java/lang/IllegalArgumentException" "java/lang/Throwable" "stackTrace" "[Ljava/lang/StackTraceElement;" : Cond) ∈ TB := tb_i 222 (by rfl) (by rfl)
theorem wm_205 : (.lays "java/lang/IllegalArgumentException" "java/lang/Throwable" "suppressedExceptions" "Ljava/util/List;" : Cond) ∈ TB := tb_i 223 (by rfl) (by rfl)
theorem wm_206 : (.lays "java/lang/IllegalArgumentException" "java/lang/Throwable" "detailMessage" "Ljava/lang/String;" : Cond) ∈ TB := tb_i 224 (by rfl) (by rfl)
theorem wm_207 : (.lays "java/lang/IllegalArgumentException" "java/lang/Throwable" "backtrace" "Ljava/lang/Object;" : Cond) ∈ TB := tb_i 225 (by rfl) (by rfl)
theorem wm_209 : (.methodLink "CountLeast" 97 ⟨"java/lang/IllegalArgumentException", "<init>", "(Ljava/lang/String;)V"⟩ : Cond) ∈ TB := tb_i 227 (by rfl) (by rfl)
theorem wm_210 : (.instanceMethod ⟨"java/lang/IllegalArgumentException", "<init>", "(Ljava/lang/String;)V"⟩ : Cond) ∈ TB := tb_i 228 (by rfl) (by rfl)
theorem wm_211 : (.code ⟨"java/lang/IllegalArgumentException", "<init>", "(Ljava/lang/String;)V"⟩ prog_8_method_2_code 2 none : Cond) ∈ TB := tb_i 229 (by rfl) (by rfl)
theorem wm_212 : (.methodLink "java/lang/IllegalArgumentException" 7 ⟨"java/lang/RuntimeException", "<init>", "(Ljava/lang/String;)V"⟩ : Cond) ∈ TB := tb_i 230 (by rfl) (by rfl)
theorem wm_213 : (.lays "java/lang/IllegalArgumentException" "java/lang/Throwable" "depth" "I" : Cond) ∈ TB := tb_i 231 (by rfl) (by rfl)
theorem wm_215 : (.classLink "CountLeast" 41 "java/lang/IllegalStateException" : Cond) ∈ TB := tb_i 233 (by rfl) (by rfl)
theorem wm_216 : (.instantiable "java/lang/IllegalStateException" 6 : Cond) ∈ TB := tb_i 234 (by rfl) (by rfl)
theorem wm_218 : (.selects "java/lang/IllegalStateException" ⟨"java/lang/Throwable", "fillInStackTrace", "(I)Ljava/lang/Throwable;"⟩ ⟨"java/lang/Throwable", "fillInStackTrace", "(I)Ljava/lang/Throwable;"⟩ : Cond) ∈ TB := tb_i 236 (by rfl) (by rfl)
theorem wm_219 : (.lays "java/lang/IllegalStateException" "java/lang/Throwable" "cause" "Ljava/lang/Throwable;" : Cond) ∈ TB := tb_i 237 (by rfl) (by rfl)
theorem wm_220 : (.lays "java/lang/IllegalStateException" "java/lang/Throwable" "stackTrace" "[Ljava/lang/StackTraceElement;" : Cond) ∈ TB := tb_i 238 (by rfl) (by rfl)
theorem wm_221 : (.lays "java/lang/IllegalStateException" "java/lang/Throwable" "suppressedExceptions" "Ljava/util/List;" : Cond) ∈ TB := tb_i 239 (by rfl) (by rfl)
theorem wm_222 : (.lays "java/lang/IllegalStateException" "java/lang/Throwable" "detailMessage" "Ljava/lang/String;" : Cond) ∈ TB := tb_i 240 (by rfl) (by rfl)
theorem wm_223 : (.lays "java/lang/IllegalStateException" "java/lang/Throwable" "backtrace" "Ljava/lang/Object;" : Cond) ∈ TB := tb_i 241 (by rfl) (by rfl)
theorem wm_225 : (.methodLink "CountLeast" 45 ⟨"java/lang/IllegalStateException", "<init>", "(Ljava/lang/String;)V"⟩ : Cond) ∈ TB := tb_i 243 (by rfl) (by rfl)
theorem wm_226 : (.instanceMethod ⟨"java/lang/IllegalStateException", "<init>", "(Ljava/lang/String;)V"⟩ : Cond) ∈ TB := tb_i 244 (by rfl) (by rfl)
theorem wm_227 : (.code ⟨"java/lang/IllegalStateException", "<init>", "(Ljava/lang/String;)V"⟩ prog_9_method_2_code 2 none : Cond) ∈ TB := tb_i 245 (by rfl) (by rfl)
theorem wm_228 : (.methodLink "java/lang/IllegalStateException" 7 ⟨"java/lang/RuntimeException", "<init>", "(Ljava/lang/String;)V"⟩ : Cond) ∈ TB := tb_i 246 (by rfl) (by rfl)
theorem wm_229 : (.lays "java/lang/IllegalStateException" "java/lang/Throwable" "depth" "I" : Cond) ∈ TB := tb_i 247 (by rfl) (by rfl)
theorem wm_231 : (.instantiable "CountLeast$Piece" 9 : Cond) ∈ TB := tb_i 249 (by rfl) (by rfl)
theorem wm_232 : (.methodLink "CountLeast" 48 ⟨"CountLeast$Piece", "<init>", "(LCountLeast$Kind;IIII)V"⟩ : Cond) ∈ TB := tb_i 250 (by rfl) (by rfl)
theorem wm_233 : (.instanceMethod ⟨"CountLeast$Piece", "<init>", "(LCountLeast$Kind;IIII)V"⟩ : Cond) ∈ TB := tb_i 251 (by rfl) (by rfl)
theorem wm_234 : (.code ⟨"CountLeast$Piece", "<init>", "(LCountLeast$Kind;IIII)V"⟩ prog_4_method_1_code 6 none : Cond) ∈ TB := tb_i 252 (by rfl) (by rfl)
theorem wm_235 : (.methodLink "CountLeast$Piece" 3 ⟨"java/lang/Object", "<init>", "()V"⟩ : Cond) ∈ TB := tb_i 253 (by rfl) (by rfl)
theorem wm_236 : (.fieldLink "CountLeast$Piece" 21 "CountLeast$Piece" "kind" "LCountLeast$Kind;" : Cond) ∈ TB := tb_i 254 (by rfl) (by rfl)
theorem wm_237 : (.fieldLink "CountLeast" 80 "CountLeast$Piece" "kind" "LCountLeast$Kind;" : Cond) ∈ TB := tb_i 255 (by rfl) (by rfl)
theorem wm_238 : (.fieldLink "CountLeast$Piece" 25 "CountLeast$Piece" "number" "I" : Cond) ∈ TB := tb_i 256 (by rfl) (by rfl)
theorem wm_239 : (.fieldLink "CountLeast" 55 "CountLeast$Piece" "number" "I" : Cond) ∈ TB := tb_i 257 (by rfl) (by rfl)
theorem wm_240 : (.fieldLink "CountLeast$Kind" 52 "CountLeast$Piece" "number" "I" : Cond) ∈ TB := tb_i 258 (by rfl) (by rfl)
theorem wm_241 : (.fieldLink "CountLeast$Piece" 33 "CountLeast$Piece" "place" "I" : Cond) ∈ TB := tb_i 259 (by rfl) (by rfl)
theorem wm_242 : (.fieldLink "CountLeast" 111 "CountLeast$Piece" "place" "I" : Cond) ∈ TB := tb_i 260 (by rfl) (by rfl)
theorem wm_243 : (.fieldLink "CountLeast$Piece" 36 "CountLeast$Piece" "part" "I" : Cond) ∈ TB := tb_i 261 (by rfl) (by rfl)
theorem wm_244 : (.fieldLink "CountLeast$Kind" 58 "CountLeast$Piece" "part" "I" : Cond) ∈ TB := tb_i 262 (by rfl) (by rfl)
theorem wm_245 : (.fieldLink "CountLeast$Piece" 42 "CountLeast$Piece" "size" "I" : Cond) ∈ TB := tb_i 263 (by rfl) (by rfl)
theorem wm_246 : (.fieldLink "CountLeast$Kind" 77 "CountLeast$Piece" "size" "I" : Cond) ∈ TB := tb_i 264 (by rfl) (by rfl)
theorem wm_247 : (.fieldLink "CountLeast$Piece" 39 "CountLeast$Piece" "side" "I" : Cond) ∈ TB := tb_i 265 (by rfl) (by rfl)
theorem wm_248 : (.fieldLink "CountLeast$Kind" 74 "CountLeast$Piece" "side" "I" : Cond) ∈ TB := tb_i 266 (by rfl) (by rfl)
theorem wm_249 : (.fieldLink "CountLeast" 90 "CountLeast$Piece" "side" "I" : Cond) ∈ TB := tb_i 267 (by rfl) (by rfl)
theorem wm_250 : (.fieldLink "CountLeast$Piece" 9 "CountLeast$Piece" "from" "I" : Cond) ∈ TB := tb_i 268 (by rfl) (by rfl)
theorem wm_251 : (.fieldLink "CountLeast$Kind" 65 "CountLeast$Piece" "from" "I" : Cond) ∈ TB := tb_i 269 (by rfl) (by rfl)
theorem wm_252 : (.fieldLink "CountLeast" 84 "CountLeast$Piece" "from" "I" : Cond) ∈ TB := tb_i 270 (by rfl) (by rfl)
theorem wm_253 : (.fieldLink "CountLeast$Piece" 15 "CountLeast$Piece" "to" "I" : Cond) ∈ TB := tb_i 271 (by rfl) (by rfl)
theorem wm_254 : (.fieldLink "CountLeast$Kind" 68 "CountLeast$Piece" "to" "I" : Cond) ∈ TB := tb_i 272 (by rfl) (by rfl)
theorem wm_255 : (.fieldLink "CountLeast" 87 "CountLeast$Piece" "to" "I" : Cond) ∈ TB := tb_i 273 (by rfl) (by rfl)
theorem wm_256 : (.fieldLink "CountLeast$Piece" 18 "CountLeast$Piece" "grams" "I" : Cond) ∈ TB := tb_i 274 (by rfl) (by rfl)
theorem wm_257 : (.fieldLink "CountLeast$Kind" 55 "CountLeast$Piece" "grams" "I" : Cond) ∈ TB := tb_i 275 (by rfl) (by rfl)
theorem wm_258 : (.fieldLink "CountLeast" 130 "CountLeast$Piece" "grams" "I" : Cond) ∈ TB := tb_i 276 (by rfl) (by rfl)
theorem wm_259 : (.laysFinal "CountLeast$Piece" "CountLeast$Piece" "kind" "LCountLeast$Kind;" : Cond) ∈ TB := tb_i 277 (by rfl) (by rfl)
theorem wm_261 : (.laysFinal "CountLeast$Piece" "CountLeast$Piece" "number" "I" : Cond) ∈ TB := tb_i 279 (by rfl) (by rfl)
theorem wm_263 : (.laysFinal "CountLeast$Piece" "CountLeast$Piece" "place" "I" : Cond) ∈ TB := tb_i 281 (by rfl) (by rfl)
theorem wm_265 : (.laysFinal "CountLeast$Piece" "CountLeast$Piece" "part" "I" : Cond) ∈ TB := tb_i 283 (by rfl) (by rfl)
theorem wm_267 : (.laysFinal "CountLeast$Piece" "CountLeast$Piece" "size" "I" : Cond) ∈ TB := tb_i 285 (by rfl) (by rfl)
theorem wm_269 : (.lays "CountLeast$Piece" "CountLeast$Piece" "side" "I" : Cond) ∈ TB := tb_i 287 (by rfl) (by rfl)
theorem wm_271 : (.lays "CountLeast$Piece" "CountLeast$Piece" "from" "I" : Cond) ∈ TB := tb_i 289 (by rfl) (by rfl)
theorem wm_273 : (.lays "CountLeast$Piece" "CountLeast$Piece" "to" "I" : Cond) ∈ TB := tb_i 291 (by rfl) (by rfl)
theorem wm_275 : (.lays "CountLeast$Piece" "CountLeast$Piece" "grams" "I" : Cond) ∈ TB := tb_i 293 (by rfl) (by rfl)
theorem wm_278 : (.methodLink "CountLeast" 51 ⟨"CountLeast$Kind", "take", "(LCountLeast$Piece;)V"⟩ : Cond) ∈ TB := tb_i 296 (by rfl) (by rfl)
theorem wm_279 : (.instanceMethod ⟨"CountLeast$Kind", "take", "(LCountLeast$Piece;)V"⟩ : Cond) ∈ TB := tb_i 297 (by rfl) (by rfl)
theorem wm_280 : (.selects "CountLeast$Kind" ⟨"CountLeast$Kind", "take", "(LCountLeast$Piece;)V"⟩ ⟨"CountLeast$Kind", "take", "(LCountLeast$Piece;)V"⟩ : Cond) ∈ TB := tb_i 298 (by rfl) (by rfl)
theorem wm_281 : (.code ⟨"CountLeast$Kind", "take", "(LCountLeast$Piece;)V"⟩ prog_2_method_2_code 2 none : Cond) ∈ TB := tb_i 299 (by rfl) (by rfl)
theorem wm_282 : (.methodLink "CountLeastLaw" 91 ⟨"CountLeastLaw", "single", "(LCountLeast;IIZ[J)I"⟩ : Cond) ∈ TB := tb_i 300 (by rfl) (by rfl)
theorem wm_283 : (.static ⟨"CountLeastLaw", "single", "(LCountLeast;IIZ[J)I"⟩ : Cond) ∈ TB := tb_i 301 (by rfl) (by rfl)
theorem wm_284 : (.codeWith ⟨"CountLeastLaw", "single", "(LCountLeast;IIZ[J)I"⟩ method_4_code 6 (some .int) [(0, 19, 22, 13)] : Cond) ∈ TB := tb_i 302 (by rfl) (by rfl)
theorem wm_285 : (.methodLink "CountLeastLaw" 19 ⟨"CountLeast", "single", "(IIZ)Z"⟩ : Cond) ∈ TB := tb_i 303 (by rfl) (by rfl)
theorem wm_286 : (.instanceMethod ⟨"CountLeast", "single", "(IIZ)Z"⟩ : Cond) ∈ TB := tb_i 304 (by rfl) (by rfl)
theorem wm_287 : (.selects "CountLeast" ⟨"CountLeast", "single", "(IIZ)Z"⟩ ⟨"CountLeast", "single", "(IIZ)Z"⟩ : Cond) ∈ TB := tb_i 305 (by rfl) (by rfl)
theorem wm_288 : (.code ⟨"CountLeast", "single", "(IIZ)Z"⟩ prog_1_method_3_code 6 (some .boolean) : Cond) ∈ TB := tb_i 306 (by rfl) (by rfl)
theorem wm_289 : (.methodLink "CountLeastLaw" 95 ⟨"CountLeastLaw", "bound", "(LCountLeast;II[J)I"⟩ : Cond) ∈ TB := tb_i 307 (by rfl) (by rfl)
theorem wm_290 : (.static ⟨"CountLeastLaw", "bound", "(LCountLeast;II[J)I"⟩ : Cond) ∈ TB := tb_i 308 (by rfl) (by rfl)
theorem wm_291 : (.codeWith ⟨"CountLeastLaw", "bound", "(LCountLeast;II[J)I"⟩ method_5_code 5 (some .int) [(0, 10, 13, 13), (0, 10, 17, 15)] : Cond) ∈ TB := tb_i 309 (by rfl) (by rfl)
theorem wm_292 : (.methodLink "CountLeastLaw" 23 ⟨"CountLeast", "bound", "(II)I"⟩ : Cond) ∈ TB := tb_i 310 (by rfl) (by rfl)
theorem wm_293 : (.instanceMethod ⟨"CountLeast", "bound", "(II)I"⟩ : Cond) ∈ TB := tb_i 311 (by rfl) (by rfl)
theorem wm_294 : (.selects "CountLeast" ⟨"CountLeast", "bound", "(II)I"⟩ ⟨"CountLeast", "bound", "(II)I"⟩ : Cond) ∈ TB := tb_i 312 (by rfl) (by rfl)
theorem wm_295 : (.code ⟨"CountLeast", "bound", "(II)I"⟩ prog_1_method_4_code 5 (some .int) : Cond) ∈ TB := tb_i 313 (by rfl) (by rfl)
theorem wm_296 : (.methodLink "CountLeastLaw" 99 ⟨"CountLeastLaw", "table", "(LCountLeast;IIII)I"⟩ : Cond) ∈ TB := tb_i 314 (by rfl) (by rfl)
theorem wm_297 : (.static ⟨"CountLeastLaw", "table", "(LCountLeast;IIII)I"⟩ : Cond) ∈ TB := tb_i 315 (by rfl) (by rfl)
theorem wm_298 : (.codeWith ⟨"CountLeastLaw", "table", "(LCountLeast;IIII)I"⟩ method_6_code 6 (some .int) [(0, 9, 12, 13), (0, 9, 16, 15)] : Cond) ∈ TB := tb_i 316 (by rfl) (by rfl)
theorem wm_299 : (.methodLink "CountLeastLaw" 27 ⟨"CountLeast", "table", "(IIII)V"⟩ : Cond) ∈ TB := tb_i 317 (by rfl) (by rfl)
theorem wm_300 : (.instanceMethod ⟨"CountLeast", "table", "(IIII)V"⟩ : Cond) ∈ TB := tb_i 318 (by rfl) (by rfl)
theorem wm_301 : (.selects "CountLeast" ⟨"CountLeast", "table", "(IIII)V"⟩ ⟨"CountLeast", "table", "(IIII)V"⟩ : Cond) ∈ TB := tb_i 319 (by rfl) (by rfl)
theorem wm_302 : (.code ⟨"CountLeast", "table", "(IIII)V"⟩ prog_1_method_5_code 6 none : Cond) ∈ TB := tb_i 320 (by rfl) (by rfl)
theorem wm_303 : (.methodLink "CountLeastLaw" 103 ⟨"CountLeastLaw", "worn", "(LCountLeast;II)I"⟩ : Cond) ∈ TB := tb_i 321 (by rfl) (by rfl)
theorem wm_304 : (.static ⟨"CountLeastLaw", "worn", "(LCountLeast;II)I"⟩ : Cond) ∈ TB := tb_i 322 (by rfl) (by rfl)
theorem wm_305 : (.codeWith ⟨"CountLeastLaw", "worn", "(LCountLeast;II)I"⟩ method_7_code 4 (some .int) [(0, 6, 9, 13)] : Cond) ∈ TB := tb_i 323 (by rfl) (by rfl)
theorem wm_306 : (.methodLink "CountLeastLaw" 31 ⟨"CountLeast", "worn", "(II)V"⟩ : Cond) ∈ TB := tb_i 324 (by rfl) (by rfl)
theorem wm_307 : (.instanceMethod ⟨"CountLeast", "worn", "(II)V"⟩ : Cond) ∈ TB := tb_i 325 (by rfl) (by rfl)
theorem wm_308 : (.selects "CountLeast" ⟨"CountLeast", "worn", "(II)V"⟩ ⟨"CountLeast", "worn", "(II)V"⟩ : Cond) ∈ TB := tb_i 326 (by rfl) (by rfl)
theorem wm_309 : (.code ⟨"CountLeast", "worn", "(II)V"⟩ prog_1_method_6_code 4 none : Cond) ∈ TB := tb_i 327 (by rfl) (by rfl)
theorem wm_310 : (.methodLink "CountLeast" 76 ⟨"CountLeast", "pieceAt", "(I)LCountLeast$Piece;"⟩ : Cond) ∈ TB := tb_i 328 (by rfl) (by rfl)
theorem wm_312 : (.instanceMethod ⟨"CountLeast", "pieceAt", "(I)LCountLeast$Piece;"⟩ : Cond) ∈ TB := tb_i 330 (by rfl) (by rfl)
theorem wm_313 : (.code ⟨"CountLeast", "pieceAt", "(I)LCountLeast$Piece;"⟩ prog_1_method_21_code 2 (some (.object "CountLeast$Piece")) : Cond) ∈ TB := tb_i 331 (by rfl) (by rfl)
theorem wm_315 : (.methodLink "CountLeastLaw" 107 ⟨"CountLeastLaw", "aged", "(LCountLeast;II[J)I"⟩ : Cond) ∈ TB := tb_i 333 (by rfl) (by rfl)
theorem wm_316 : (.static ⟨"CountLeastLaw", "aged", "(LCountLeast;II[J)I"⟩ : Cond) ∈ TB := tb_i 334 (by rfl) (by rfl)
theorem wm_317 : (.codeWith ⟨"CountLeastLaw", "aged", "(LCountLeast;II[J)I"⟩ method_8_code 5 (some .int) [(0, 10, 13, 13)] : Cond) ∈ TB := tb_i 335 (by rfl) (by rfl)
theorem wm_318 : (.methodLink "CountLeastLaw" 35 ⟨"CountLeast", "aged", "(II)I"⟩ : Cond) ∈ TB := tb_i 336 (by rfl) (by rfl)
theorem wm_319 : (.instanceMethod ⟨"CountLeast", "aged", "(II)I"⟩ : Cond) ∈ TB := tb_i 337 (by rfl) (by rfl)
theorem wm_320 : (.selects "CountLeast" ⟨"CountLeast", "aged", "(II)I"⟩ ⟨"CountLeast", "aged", "(II)I"⟩ : Cond) ∈ TB := tb_i 338 (by rfl) (by rfl)
theorem wm_321 : (.code ⟨"CountLeast", "aged", "(II)I"⟩ prog_1_method_7_code 4 (some .int) : Cond) ∈ TB := tb_i 339 (by rfl) (by rfl)
theorem wm_322 : (.methodLink "CountLeastLaw" 110 ⟨"CountLeastLaw", "unsure", "(LCountLeast;I[J)I"⟩ : Cond) ∈ TB := tb_i 340 (by rfl) (by rfl)
theorem wm_323 : (.static ⟨"CountLeastLaw", "unsure", "(LCountLeast;I[J)I"⟩ : Cond) ∈ TB := tb_i 341 (by rfl) (by rfl)
theorem wm_324 : (.codeWith ⟨"CountLeastLaw", "unsure", "(LCountLeast;I[J)I"⟩ method_9_code 4 (some .int) [(0, 16, 19, 13)] : Cond) ∈ TB := tb_i 342 (by rfl) (by rfl)
theorem wm_325 : (.methodLink "CountLeastLaw" 38 ⟨"CountLeast", "unsure", "(I)Z"⟩ : Cond) ∈ TB := tb_i 343 (by rfl) (by rfl)
theorem wm_326 : (.instanceMethod ⟨"CountLeast", "unsure", "(I)Z"⟩ : Cond) ∈ TB := tb_i 344 (by rfl) (by rfl)
theorem wm_327 : (.selects "CountLeast" ⟨"CountLeast", "unsure", "(I)Z"⟩ ⟨"CountLeast", "unsure", "(I)Z"⟩ : Cond) ∈ TB := tb_i 345 (by rfl) (by rfl)
theorem wm_328 : (.code ⟨"CountLeast", "unsure", "(I)Z"⟩ prog_1_method_8_code 4 (some .boolean) : Cond) ∈ TB := tb_i 346 (by rfl) (by rfl)
theorem wm_329 : (.methodLink "CountLeastLaw" 114 ⟨"CountLeastLaw", "clash", "(LCountLeast;II[J)I"⟩ : Cond) ∈ TB := tb_i 347 (by rfl) (by rfl)
theorem wm_330 : (.static ⟨"CountLeastLaw", "clash", "(LCountLeast;II[J)I"⟩ : Cond) ∈ TB := tb_i 348 (by rfl) (by rfl)
theorem wm_331 : (.codeWith ⟨"CountLeastLaw", "clash", "(LCountLeast;II[J)I"⟩ method_10_code 5 (some .int) [(0, 10, 13, 13), (0, 10, 17, 15)] : Cond) ∈ TB := tb_i 349 (by rfl) (by rfl)
theorem wm_332 : (.methodLink "CountLeastLaw" 42 ⟨"CountLeast", "clash", "(II)I"⟩ : Cond) ∈ TB := tb_i 350 (by rfl) (by rfl)
theorem wm_333 : (.instanceMethod ⟨"CountLeast", "clash", "(II)I"⟩ : Cond) ∈ TB := tb_i 351 (by rfl) (by rfl)
theorem wm_334 : (.selects "CountLeast" ⟨"CountLeast", "clash", "(II)I"⟩ ⟨"CountLeast", "clash", "(II)I"⟩ : Cond) ∈ TB := tb_i 352 (by rfl) (by rfl)
theorem wm_335 : (.code ⟨"CountLeast", "clash", "(II)I"⟩ prog_1_method_9_code 5 (some .int) : Cond) ∈ TB := tb_i 353 (by rfl) (by rfl)
theorem wm_337 : (.methodLink "CountLeast" 98 ⟨"CountLeast$Kind", "ruleBetween", "(LCountLeast$Piece;LCountLeast$Piece;)I"⟩ : Cond) ∈ TB := tb_i 355 (by rfl) (by rfl)
theorem wm_338 : (.instanceMethod ⟨"CountLeast$Kind", "ruleBetween", "(LCountLeast$Piece;LCountLeast$Piece;)I"⟩ : Cond) ∈ TB := tb_i 356 (by rfl) (by rfl)
theorem wm_339 : (.selects "CountLeast$Kind" ⟨"CountLeast$Kind", "ruleBetween", "(LCountLeast$Piece;LCountLeast$Piece;)I"⟩ ⟨"CountLeast$Kind", "ruleBetween", "(LCountLeast$Piece;LCountLeast$Piece;)I"⟩ : Cond) ∈ TB := tb_i 357 (by rfl) (by rfl)
theorem wm_340 : (.code ⟨"CountLeast$Kind", "ruleBetween", "(LCountLeast$Piece;LCountLeast$Piece;)I"⟩ prog_2_method_5_code 3 (some .int) : Cond) ∈ TB := tb_i 358 (by rfl) (by rfl)
theorem wm_341 : (.methodLink "CountLeast$Kind" 61 ⟨"CountLeast$Kind", "sidesClash", "(LCountLeast$Piece;LCountLeast$Piece;)Z"⟩ : Cond) ∈ TB := tb_i 359 (by rfl) (by rfl)
theorem wm_343 : (.instanceMethod ⟨"CountLeast$Kind", "sidesClash", "(LCountLeast$Piece;LCountLeast$Piece;)Z"⟩ : Cond) ∈ TB := tb_i 361 (by rfl) (by rfl)
theorem wm_344 : (.code ⟨"CountLeast$Kind", "sidesClash", "(LCountLeast$Piece;LCountLeast$Piece;)Z"⟩ prog_2_method_6_code 3 (some .boolean) : Cond) ∈ TB := tb_i 362 (by rfl) (by rfl)
theorem wm_345 : (.methodLink "CountLeast$Kind" 71 ⟨"CountLeast$Kind", "sizesClash", "(LCountLeast$Piece;LCountLeast$Piece;)Z"⟩ : Cond) ∈ TB := tb_i 363 (by rfl) (by rfl)
theorem wm_347 : (.instanceMethod ⟨"CountLeast$Kind", "sizesClash", "(LCountLeast$Piece;LCountLeast$Piece;)Z"⟩ : Cond) ∈ TB := tb_i 365 (by rfl) (by rfl)
theorem wm_348 : (.code ⟨"CountLeast$Kind", "sizesClash", "(LCountLeast$Piece;LCountLeast$Piece;)Z"⟩ prog_2_method_7_code 3 (some .boolean) : Cond) ∈ TB := tb_i 366 (by rfl) (by rfl)
theorem wm_349 : (.methodLink "CountLeast$Kind" 80 ⟨"java/lang/Math", "abs", "(I)I"⟩ : Cond) ∈ TB := tb_i 367 (by rfl) (by rfl)
theorem wm_350 : (.static ⟨"java/lang/Math", "abs", "(I)I"⟩ : Cond) ∈ TB := tb_i 368 (by rfl) (by rfl)
set_option maxRecDepth 20000 in
theorem wm_351 : (.code ⟨"java/lang/Math", "abs", "(I)I"⟩ prog_12_method_59_code 1 (some .int) : Cond) ∈ TB := tb_i 369 (by rfl) (by rfl)
set_option maxRecDepth 20000 in
theorem wm_352 : (.methodLink "CountLeastLaw" 117 ⟨"CountLeastLaw", "least", "(LCountLeast;I[J)I"⟩ : Cond) ∈ TB := tb_i 370 (by rfl) (by rfl)
set_option maxRecDepth 20000 in
theorem wm_353 : (.static ⟨"CountLeastLaw", "least", "(LCountLeast;I[J)I"⟩ : Cond) ∈ TB := tb_i 371 (by rfl) (by rfl)
set_option maxRecDepth 20000 in
theorem wm_354 : (.codeWith ⟨"CountLeastLaw", "least", "(LCountLeast;I[J)I"⟩ method_11_code 4 (some .int) [(0, 9, 12, 13)] : Cond) ∈ TB := tb_i 372 (by rfl) (by rfl)
set_option maxRecDepth 20000 in
theorem wm_355 : (.methodLink "CountLeastLaw" 45 ⟨"CountLeast", "least", "(I)I"⟩ : Cond) ∈ TB := tb_i 373 (by rfl) (by rfl)
set_option maxRecDepth 20000 in
theorem wm_356 : (.instanceMethod ⟨"CountLeast", "least", "(I)I"⟩ : Cond) ∈ TB := tb_i 374 (by rfl) (by rfl)
set_option maxRecDepth 20000 in
theorem wm_357 : (.selects "CountLeast" ⟨"CountLeast", "least", "(I)I"⟩ ⟨"CountLeast", "least", "(I)I"⟩ : Cond) ∈ TB := tb_i 375 (by rfl) (by rfl)
set_option maxRecDepth 20000 in
theorem wm_358 : (.code ⟨"CountLeast", "least", "(I)I"⟩ prog_1_method_10_code 2 (some .int) : Cond) ∈ TB := tb_i 376 (by rfl) (by rfl)
set_option maxRecDepth 20000 in
theorem wm_359 : (.methodLink "CountLeast" 102 ⟨"CountLeast$Kind", "parted", "()LCountLeast$Parting;"⟩ : Cond) ∈ TB := tb_i 377 (by rfl) (by rfl)
set_option maxRecDepth 20000 in
theorem wm_360 : (.instanceMethod ⟨"CountLeast$Kind", "parted", "()LCountLeast$Parting;"⟩ : Cond) ∈ TB := tb_i 378 (by rfl) (by rfl)
set_option maxRecDepth 20000 in
theorem wm_361 : (.selects "CountLeast$Kind" ⟨"CountLeast$Kind", "parted", "()LCountLeast$Parting;"⟩ ⟨"CountLeast$Kind", "parted", "()LCountLeast$Parting;"⟩ : Cond) ∈ TB := tb_i 379 (by rfl) (by rfl)
set_option maxRecDepth 20000 in
theorem wm_362 : (.code ⟨"CountLeast$Kind", "parted", "()LCountLeast$Parting;"⟩ prog_2_method_8_code 1 (some (.object "CountLeast$Parting")) : Cond) ∈ TB := tb_i 380 (by rfl) (by rfl)
set_option maxRecDepth 20000 in
theorem wm_363 : (.methodLink "CountLeast$Kind" 86 ⟨"CountLeast$Parting", "begin", "(I)V"⟩ : Cond) ∈ TB := tb_i 381 (by rfl) (by rfl)
set_option maxRecDepth 20000 in
theorem wm_364 : (.instanceMethod ⟨"CountLeast$Parting", "begin", "(I)V"⟩ : Cond) ∈ TB := tb_i 382 (by rfl) (by rfl)
set_option maxRecDepth 20000 in
theorem wm_365 : (.selects "CountLeast$Parting" ⟨"CountLeast$Parting", "begin", "(I)V"⟩ ⟨"CountLeast$Parting", "begin", "(I)V"⟩ : Cond) ∈ TB := tb_i 383 (by rfl) (by rfl)
set_option maxRecDepth 20000 in
theorem wm_366 : (.code ⟨"CountLeast$Parting", "begin", "(I)V"⟩ prog_3_method_2_code 3 none : Cond) ∈ TB := tb_i 384 (by rfl) (by rfl)
set_option maxRecDepth 20000 in
theorem wm_367 : (.methodLink "CountLeast$Parting" 31 ⟨"java/lang/Math", "min", "(II)I"⟩ : Cond) ∈ TB := tb_i 385 (by rfl) (by rfl)
set_option maxRecDepth 20000 in
theorem wm_368 : (.static ⟨"java/lang/Math", "min", "(II)I"⟩ : Cond) ∈ TB := tb_i 386 (by rfl) (by rfl)
set_option maxRecDepth 20000 in
theorem wm_369 : (.code ⟨"java/lang/Math", "min", "(II)I"⟩ prog_12_method_69_code 2 (some .int) : Cond) ∈ TB := tb_i 387 (by rfl) (by rfl)
set_option maxRecDepth 20000 in
theorem wm_370 : (.methodLink "CountLeast$Parting" 37 ⟨"java/lang/Math", "max", "(II)I"⟩ : Cond) ∈ TB := tb_i 388 (by rfl) (by rfl)
set_option maxRecDepth 20000 in
theorem wm_371 : (.static ⟨"java/lang/Math", "max", "(II)I"⟩ : Cond) ∈ TB := tb_i 389 (by rfl) (by rfl)
set_option maxRecDepth 20000 in
theorem wm_372 : (.code ⟨"java/lang/Math", "max", "(II)I"⟩ prog_12_method_65_code 2 (some .int) : Cond) ∈ TB := tb_i 390 (by rfl) (by rfl)
set_option maxRecDepth 20000 in
theorem wm_373 : (.methodLink "CountLeast$Kind" 90 ⟨"CountLeast$Kind", "markFoes", "()V"⟩ : Cond) ∈ TB := tb_i 391 (by rfl) (by rfl)
set_option maxRecDepth 20000 in
theorem wm_375 : (.instanceMethod ⟨"CountLeast$Kind", "markFoes", "()V"⟩ : Cond) ∈ TB := tb_i 393 (by rfl) (by rfl)
set_option maxRecDepth 20000 in
theorem wm_376 : (.code ⟨"CountLeast$Kind", "markFoes", "()V"⟩ prog_2_method_9_code 3 none : Cond) ∈ TB := tb_i 394 (by rfl) (by rfl)
set_option maxRecDepth 20000 in
theorem wm_377 : (.methodLink "CountLeast$Kind" 96 ⟨"CountLeast$Kind", "ruleBetween", "(LCountLeast$Piece;LCountLeast$Piece;)I"⟩ : Cond) ∈ TB := tb_i 395 (by rfl) (by rfl)
set_option maxRecDepth 20000 in
theorem wm_378 : (.methodLink "CountLeast$Kind" 100 ⟨"CountLeast$Parting", "setApart", "(II)V"⟩ : Cond) ∈ TB := tb_i 396 (by rfl) (by rfl)
set_option maxRecDepth 20000 in
theorem wm_379 : (.instanceMethod ⟨"CountLeast$Parting", "setApart", "(II)V"⟩ : Cond) ∈ TB := tb_i 397 (by rfl) (by rfl)
set_option maxRecDepth 20000 in
theorem wm_380 : (.selects "CountLeast$Parting" ⟨"CountLeast$Parting", "setApart", "(II)V"⟩ ⟨"CountLeast$Parting", "setApart", "(II)V"⟩ : Cond) ∈ TB := tb_i 398 (by rfl) (by rfl)
set_option maxRecDepth 20000 in
theorem wm_381 : (.code ⟨"CountLeast$Parting", "setApart", "(II)V"⟩ prog_3_method_3_code 3 none : Cond) ∈ TB := tb_i 399 (by rfl) (by rfl)
set_option maxRecDepth 20000 in
theorem wm_382 : (.methodLink "CountLeast$Kind" 93 ⟨"CountLeast$Parting", "search", "()V"⟩ : Cond) ∈ TB := tb_i 400 (by rfl) (by rfl)
set_option maxRecDepth 20000 in
theorem wm_383 : (.instanceMethod ⟨"CountLeast$Parting", "search", "()V"⟩ : Cond) ∈ TB := tb_i 401 (by rfl) (by rfl)
set_option maxRecDepth 20000 in
theorem wm_384 : (.selects "CountLeast$Parting" ⟨"CountLeast$Parting", "search", "()V"⟩ ⟨"CountLeast$Parting", "search", "()V"⟩ : Cond) ∈ TB := tb_i 402 (by rfl) (by rfl)
set_option maxRecDepth 20000 in
theorem wm_385 : (.code ⟨"CountLeast$Parting", "search", "()V"⟩ prog_3_method_4_code 2 none : Cond) ∈ TB := tb_i 403 (by rfl) (by rfl)
set_option maxRecDepth 20000 in
theorem wm_386 : (.methodLink "CountLeast$Parting" 40 ⟨"CountLeast$Parting", "growFoes", "(III)V"⟩ : Cond) ∈ TB := tb_i 404 (by rfl) (by rfl)
set_option maxRecDepth 20000 in
theorem wm_388 : (.instanceMethod ⟨"CountLeast$Parting", "growFoes", "(III)V"⟩ : Cond) ∈ TB := tb_i 406 (by rfl) (by rfl)
set_option maxRecDepth 20000 in
theorem wm_389 : (.code ⟨"CountLeast$Parting", "growFoes", "(III)V"⟩ prog_3_method_7_code 7 none : Cond) ∈ TB := tb_i 407 (by rfl) (by rfl)
set_option maxRecDepth 20000 in
theorem wm_390 : (.methodLink "CountLeast$Parting" 44 ⟨"java/lang/Integer", "bitCount", "(I)I"⟩ : Cond) ∈ TB := tb_i 408 (by rfl) (by rfl)
set_option maxRecDepth 20000 in
theorem wm_391 : (.static ⟨"java/lang/Integer", "bitCount", "(I)I"⟩ : Cond) ∈ TB := tb_i 409 (by rfl) (by rfl)
set_option maxRecDepth 20000 in
theorem wm_392 : (.code ⟨"java/lang/Integer", "bitCount", "(I)I"⟩ prog_11_method_49_code 1 (some .int) : Cond) ∈ TB := tb_i 410 (by rfl) (by rfl)
set_option maxRecDepth 20000 in
theorem wm_393 : (.constant "java/lang/Integer" 265 (1431655765 : Int32) : Cond) ∈ TB := tb_i 411 (by rfl) (by rfl)
set_option maxRecDepth 20000 in
theorem wm_394 : (.constant "java/lang/Integer" 266 (858993459 : Int32) : Cond) ∈ TB := tb_i 412 (by rfl) (by rfl)
set_option maxRecDepth 20000 in
theorem wm_395 : (.constant "java/lang/Integer" 267 (252645135 : Int32) : Cond) ∈ TB := tb_i 413 (by rfl) (by rfl)
set_option maxRecDepth 20000 in
theorem wm_396 : (.methodLink "CountLeast$Parting" 50 ⟨"CountLeast$Parting", "fill", "(II)Z"⟩ : Cond) ∈ TB := tb_i 414 (by rfl) (by rfl)
set_option maxRecDepth 20000 in
theorem wm_398 : (.instanceMethod ⟨"CountLeast$Parting", "fill", "(II)Z"⟩ : Cond) ∈ TB := tb_i 416 (by rfl) (by rfl)
set_option maxRecDepth 20000 in
theorem wm_399 : (.code ⟨"CountLeast$Parting", "fill", "(II)Z"⟩ prog_3_method_8_code 8 (some .boolean) : Cond) ∈ TB := tb_i 417 (by rfl) (by rfl)
set_option maxRecDepth 20000 in
theorem wm_400 : (.methodLink "CountLeastLaw" 120 ⟨"CountLeastLaw", "animal", "(LCountLeast;I[J)I"⟩ : Cond) ∈ TB := tb_i 418 (by rfl) (by rfl)
set_option maxRecDepth 20000 in
theorem wm_401 : (.static ⟨"CountLeastLaw", "animal", "(LCountLeast;I[J)I"⟩ : Cond) ∈ TB := tb_i 419 (by rfl) (by rfl)
set_option maxRecDepth 20000 in
theorem wm_402 : (.codeWith ⟨"CountLeastLaw", "animal", "(LCountLeast;I[J)I"⟩ method_12_code 4 (some .int) [(0, 9, 12, 13)] : Cond) ∈ TB := tb_i 420 (by rfl) (by rfl)
set_option maxRecDepth 20000 in
theorem wm_403 : (.methodLink "CountLeastLaw" 49 ⟨"CountLeast", "animal", "(I)I"⟩ : Cond) ∈ TB := tb_i 421 (by rfl) (by rfl)
set_option maxRecDepth 20000 in
theorem wm_404 : (.instanceMethod ⟨"CountLeast", "animal", "(I)I"⟩ : Cond) ∈ TB := tb_i 422 (by rfl) (by rfl)
set_option maxRecDepth 20000 in
theorem wm_405 : (.selects "CountLeast" ⟨"CountLeast", "animal", "(I)I"⟩ ⟨"CountLeast", "animal", "(I)I"⟩ : Cond) ∈ TB := tb_i 423 (by rfl) (by rfl)
set_option maxRecDepth 20000 in
theorem wm_406 : (.code ⟨"CountLeast", "animal", "(I)I"⟩ prog_1_method_11_code 3 (some .int) : Cond) ∈ TB := tb_i 424 (by rfl) (by rfl)
set_option maxRecDepth 20000 in
theorem wm_407 : (.methodLink "CountLeast" 114 ⟨"CountLeast$Parting", "setOf", "(I)I"⟩ : Cond) ∈ TB := tb_i 425 (by rfl) (by rfl)
set_option maxRecDepth 20000 in
theorem wm_408 : (.instanceMethod ⟨"CountLeast$Parting", "setOf", "(I)I"⟩ : Cond) ∈ TB := tb_i 426 (by rfl) (by rfl)
set_option maxRecDepth 20000 in
theorem wm_409 : (.selects "CountLeast$Parting" ⟨"CountLeast$Parting", "setOf", "(I)I"⟩ ⟨"CountLeast$Parting", "setOf", "(I)I"⟩ : Cond) ∈ TB := tb_i 427 (by rfl) (by rfl)
set_option maxRecDepth 20000 in
theorem wm_410 : (.code ⟨"CountLeast$Parting", "setOf", "(I)I"⟩ prog_3_method_5_code 2 (some .int) : Cond) ∈ TB := tb_i 428 (by rfl) (by rfl)
set_option maxRecDepth 20000 in
theorem wm_411 : (.methodLink "CountLeastLaw" 123 ⟨"CountLeastLaw", "clashing", "(LCountLeast;II[J)I"⟩ : Cond) ∈ TB := tb_i 429 (by rfl) (by rfl)
set_option maxRecDepth 20000 in
theorem wm_412 : (.static ⟨"CountLeastLaw", "clashing", "(LCountLeast;II[J)I"⟩ : Cond) ∈ TB := tb_i 430 (by rfl) (by rfl)
set_option maxRecDepth 20000 in
theorem wm_413 : (.codeWith ⟨"CountLeastLaw", "clashing", "(LCountLeast;II[J)I"⟩ method_13_code 5 (some .int) [(0, 10, 13, 13)] : Cond) ∈ TB := tb_i 431 (by rfl) (by rfl)
set_option maxRecDepth 20000 in
theorem wm_414 : (.methodLink "CountLeastLaw" 52 ⟨"CountLeast", "clashing", "(II)I"⟩ : Cond) ∈ TB := tb_i 432 (by rfl) (by rfl)
set_option maxRecDepth 20000 in
theorem wm_415 : (.instanceMethod ⟨"CountLeast", "clashing", "(II)I"⟩ : Cond) ∈ TB := tb_i 433 (by rfl) (by rfl)
set_option maxRecDepth 20000 in
theorem wm_416 : (.selects "CountLeast" ⟨"CountLeast", "clashing", "(II)I"⟩ ⟨"CountLeast", "clashing", "(II)I"⟩ : Cond) ∈ TB := tb_i 434 (by rfl) (by rfl)
set_option maxRecDepth 20000 in
theorem wm_417 : (.code ⟨"CountLeast", "clashing", "(II)I"⟩ prog_1_method_12_code 4 (some .int) : Cond) ∈ TB := tb_i 435 (by rfl) (by rfl)
set_option maxRecDepth 20000 in
theorem wm_419 : (.methodLink "CountLeast" 123 ⟨"CountLeast$Parting", "placeOfFoe", "(I)I"⟩ : Cond) ∈ TB := tb_i 437 (by rfl) (by rfl)
set_option maxRecDepth 20000 in
theorem wm_420 : (.instanceMethod ⟨"CountLeast$Parting", "placeOfFoe", "(I)I"⟩ : Cond) ∈ TB := tb_i 438 (by rfl) (by rfl)
set_option maxRecDepth 20000 in
theorem wm_421 : (.selects "CountLeast$Parting" ⟨"CountLeast$Parting", "placeOfFoe", "(I)I"⟩ ⟨"CountLeast$Parting", "placeOfFoe", "(I)I"⟩ : Cond) ∈ TB := tb_i 439 (by rfl) (by rfl)
set_option maxRecDepth 20000 in
theorem wm_422 : (.code ⟨"CountLeast$Parting", "placeOfFoe", "(I)I"⟩ prog_3_method_6_code 4 (some .int) : Cond) ∈ TB := tb_i 440 (by rfl) (by rfl)
set_option maxRecDepth 20000 in
theorem wm_423 : (.methodLink "CountLeast" 126 ⟨"CountLeast$Kind", "numberAt", "(I)I"⟩ : Cond) ∈ TB := tb_i 441 (by rfl) (by rfl)
set_option maxRecDepth 20000 in
theorem wm_424 : (.instanceMethod ⟨"CountLeast$Kind", "numberAt", "(I)I"⟩ : Cond) ∈ TB := tb_i 442 (by rfl) (by rfl)
set_option maxRecDepth 20000 in
theorem wm_425 : (.selects "CountLeast$Kind" ⟨"CountLeast$Kind", "numberAt", "(I)I"⟩ ⟨"CountLeast$Kind", "numberAt", "(I)I"⟩ : Cond) ∈ TB := tb_i 443 (by rfl) (by rfl)
set_option maxRecDepth 20000 in
theorem wm_426 : (.code ⟨"CountLeast$Kind", "numberAt", "(I)I"⟩ prog_2_method_3_code 2 (some .int) : Cond) ∈ TB := tb_i 444 (by rfl) (by rfl)
set_option maxRecDepth 20000 in
theorem wm_427 : (.methodLink "CountLeastLaw" 126 ⟨"CountLeastLaw", "weight", "(LCountLeast;II[J)I"⟩ : Cond) ∈ TB := tb_i 445 (by rfl) (by rfl)
set_option maxRecDepth 20000 in
theorem wm_428 : (.static ⟨"CountLeastLaw", "weight", "(LCountLeast;II[J)I"⟩ : Cond) ∈ TB := tb_i 446 (by rfl) (by rfl)
set_option maxRecDepth 20000 in
theorem wm_429 : (.codeWith ⟨"CountLeastLaw", "weight", "(LCountLeast;II[J)I"⟩ method_14_code 5 (some .int) [(0, 10, 13, 13), (0, 10, 17, 15)] : Cond) ∈ TB := tb_i 447 (by rfl) (by rfl)
set_option maxRecDepth 20000 in
theorem wm_430 : (.methodLink "CountLeastLaw" 55 ⟨"CountLeast", "weight", "(II)I"⟩ : Cond) ∈ TB := tb_i 448 (by rfl) (by rfl)
set_option maxRecDepth 20000 in
theorem wm_431 : (.instanceMethod ⟨"CountLeast", "weight", "(II)I"⟩ : Cond) ∈ TB := tb_i 449 (by rfl) (by rfl)
set_option maxRecDepth 20000 in
theorem wm_432 : (.selects "CountLeast" ⟨"CountLeast", "weight", "(II)I"⟩ ⟨"CountLeast", "weight", "(II)I"⟩ : Cond) ∈ TB := tb_i 450 (by rfl) (by rfl)
set_option maxRecDepth 20000 in
theorem wm_433 : (.code ⟨"CountLeast", "weight", "(II)I"⟩ prog_1_method_13_code 5 (some .int) : Cond) ∈ TB := tb_i 451 (by rfl) (by rfl)
set_option maxRecDepth 20000 in
theorem wm_434 : (.constant "CountLeast" 129 (1000000 : Int32) : Cond) ∈ TB := tb_i 452 (by rfl) (by rfl)
set_option maxRecDepth 20000 in
theorem wm_435 : (.methodLink "CountLeastLaw" 129 ⟨"CountLeastLaw", "sum", "(LCountLeast;I[J)I"⟩ : Cond) ∈ TB := tb_i 453 (by rfl) (by rfl)
set_option maxRecDepth 20000 in
theorem wm_436 : (.static ⟨"CountLeastLaw", "sum", "(LCountLeast;I[J)I"⟩ : Cond) ∈ TB := tb_i 454 (by rfl) (by rfl)
set_option maxRecDepth 20000 in
theorem wm_437 : (.codeWith ⟨"CountLeastLaw", "sum", "(LCountLeast;I[J)I"⟩ method_15_code 4 (some .int) [(0, 9, 12, 13)] : Cond) ∈ TB := tb_i 455 (by rfl) (by rfl)
set_option maxRecDepth 20000 in
theorem wm_438 : (.methodLink "CountLeastLaw" 58 ⟨"CountLeast", "sum", "(I)I"⟩ : Cond) ∈ TB := tb_i 456 (by rfl) (by rfl)
set_option maxRecDepth 20000 in
theorem wm_439 : (.instanceMethod ⟨"CountLeast", "sum", "(I)I"⟩ : Cond) ∈ TB := tb_i 457 (by rfl) (by rfl)
set_option maxRecDepth 20000 in
theorem wm_440 : (.selects "CountLeast" ⟨"CountLeast", "sum", "(I)I"⟩ ⟨"CountLeast", "sum", "(I)I"⟩ : Cond) ∈ TB := tb_i 458 (by rfl) (by rfl)
set_option maxRecDepth 20000 in
theorem wm_441 : (.code ⟨"CountLeast", "sum", "(I)I"⟩ prog_1_method_14_code 2 (some .int) : Cond) ∈ TB := tb_i 459 (by rfl) (by rfl)
set_option maxRecDepth 20000 in
theorem wm_442 : (.methodLink "CountLeast" 133 ⟨"CountLeast$Kind", "gramsTogether", "()I"⟩ : Cond) ∈ TB := tb_i 460 (by rfl) (by rfl)
set_option maxRecDepth 20000 in
theorem wm_443 : (.instanceMethod ⟨"CountLeast$Kind", "gramsTogether", "()I"⟩ : Cond) ∈ TB := tb_i 461 (by rfl) (by rfl)
set_option maxRecDepth 20000 in
theorem wm_444 : (.selects "CountLeast$Kind" ⟨"CountLeast$Kind", "gramsTogether", "()I"⟩ ⟨"CountLeast$Kind", "gramsTogether", "()I"⟩ : Cond) ∈ TB := tb_i 462 (by rfl) (by rfl)
set_option maxRecDepth 20000 in
theorem wm_445 : (.code ⟨"CountLeast$Kind", "gramsTogether", "()I"⟩ prog_2_method_4_code 3 (some .int) : Cond) ∈ TB := tb_i 463 (by rfl) (by rfl)
set_option maxRecDepth 20000 in
theorem wm_446 : (.methodLink "CountLeastLaw" 132 ⟨"CountLeastLaw", "share", "(LCountLeast;II[J)I"⟩ : Cond) ∈ TB := tb_i 464 (by rfl) (by rfl)
set_option maxRecDepth 20000 in
theorem wm_447 : (.static ⟨"CountLeastLaw", "share", "(LCountLeast;II[J)I"⟩ : Cond) ∈ TB := tb_i 465 (by rfl) (by rfl)
set_option maxRecDepth 20000 in
theorem wm_448 : (.codeWith ⟨"CountLeastLaw", "share", "(LCountLeast;II[J)I"⟩ method_16_code 5 (some .int) [(0, 10, 13, 13)] : Cond) ∈ TB := tb_i 466 (by rfl) (by rfl)
set_option maxRecDepth 20000 in
theorem wm_449 : (.methodLink "CountLeastLaw" 61 ⟨"CountLeast", "share", "(II)I"⟩ : Cond) ∈ TB := tb_i 467 (by rfl) (by rfl)
set_option maxRecDepth 20000 in
theorem wm_450 : (.instanceMethod ⟨"CountLeast", "share", "(II)I"⟩ : Cond) ∈ TB := tb_i 468 (by rfl) (by rfl)
set_option maxRecDepth 20000 in
theorem wm_451 : (.selects "CountLeast" ⟨"CountLeast", "share", "(II)I"⟩ ⟨"CountLeast", "share", "(II)I"⟩ : Cond) ∈ TB := tb_i 469 (by rfl) (by rfl)
set_option maxRecDepth 20000 in
theorem wm_452 : (.code ⟨"CountLeast", "share", "(II)I"⟩ prog_1_method_15_code 6 (some .int) : Cond) ∈ TB := tb_i 470 (by rfl) (by rfl)
set_option maxRecDepth 20000 in
theorem wm_453 : (.methodLink "CountLeast" 137 ⟨"CountLeast", "lessened", "(III)I"⟩ : Cond) ∈ TB := tb_i 471 (by rfl) (by rfl)
set_option maxRecDepth 20000 in
theorem wm_454 : (.static ⟨"CountLeast", "lessened", "(III)I"⟩ : Cond) ∈ TB := tb_i 472 (by rfl) (by rfl)
set_option maxRecDepth 20000 in
theorem wm_455 : (.code ⟨"CountLeast", "lessened", "(III)I"⟩ prog_1_method_26_code 3 (some .int) : Cond) ∈ TB := tb_i 473 (by rfl) (by rfl)
set_option maxRecDepth 20000 in
theorem wm_456 : (.methodLink "CountLeast" 162 ⟨"CountLeast", "commonDivisor", "(II)I"⟩ : Cond) ∈ TB := tb_i 474 (by rfl) (by rfl)
set_option maxRecDepth 20000 in
theorem wm_457 : (.static ⟨"CountLeast", "commonDivisor", "(II)I"⟩ : Cond) ∈ TB := tb_i 475 (by rfl) (by rfl)
set_option maxRecDepth 20000 in
theorem wm_458 : (.code ⟨"CountLeast", "commonDivisor", "(II)I"⟩ prog_1_method_27_code 6 (some .int) : Cond) ∈ TB := tb_i 476 (by rfl) (by rfl)
set_option maxRecDepth 20000 in
theorem wm_459 : (.methodLink "CountLeast" 147 ⟨"CountLeast", "quotient", "(II)I"⟩ : Cond) ∈ TB := tb_i 477 (by rfl) (by rfl)
set_option maxRecDepth 20000 in
theorem wm_460 : (.static ⟨"CountLeast", "quotient", "(II)I"⟩ : Cond) ∈ TB := tb_i 478 (by rfl) (by rfl)
set_option maxRecDepth 20000 in
theorem wm_461 : (.code ⟨"CountLeast", "quotient", "(II)I"⟩ prog_1_method_25_code 2 (some .int) : Cond) ∈ TB := tb_i 479 (by rfl) (by rfl)
set_option maxRecDepth 20000 in
theorem wm_462 : (.methodLink "CountLeastLaw" 135 ⟨"CountLeastLaw", "sieve", "(LCountLeast;III)I"⟩ : Cond) ∈ TB := tb_i 480 (by rfl) (by rfl)
set_option maxRecDepth 20000 in
theorem wm_463 : (.static ⟨"CountLeastLaw", "sieve", "(LCountLeast;III)I"⟩ : Cond) ∈ TB := tb_i 481 (by rfl) (by rfl)
set_option maxRecDepth 20000 in
theorem wm_464 : (.codeWith ⟨"CountLeastLaw", "sieve", "(LCountLeast;III)I"⟩ method_17_code 5 (some .int) [(0, 7, 10, 13), (0, 7, 14, 15)] : Cond) ∈ TB := tb_i 482 (by rfl) (by rfl)
set_option maxRecDepth 20000 in
theorem wm_465 : (.methodLink "CountLeastLaw" 64 ⟨"CountLeast", "sieve", "(III)V"⟩ : Cond) ∈ TB := tb_i 483 (by rfl) (by rfl)
set_option maxRecDepth 20000 in
theorem wm_466 : (.instanceMethod ⟨"CountLeast", "sieve", "(III)V"⟩ : Cond) ∈ TB := tb_i 484 (by rfl) (by rfl)
set_option maxRecDepth 20000 in
theorem wm_467 : (.selects "CountLeast" ⟨"CountLeast", "sieve", "(III)V"⟩ ⟨"CountLeast", "sieve", "(III)V"⟩ : Cond) ∈ TB := tb_i 485 (by rfl) (by rfl)
set_option maxRecDepth 20000 in
theorem wm_468 : (.code ⟨"CountLeast", "sieve", "(III)V"⟩ prog_1_method_16_code 5 none : Cond) ∈ TB := tb_i 486 (by rfl) (by rfl)
set_option maxRecDepth 20000 in
theorem wm_469 : (.methodLink "CountLeastLaw" 139 ⟨"CountLeastLaw", "scaled", "(LCountLeast;II[J)I"⟩ : Cond) ∈ TB := tb_i 487 (by rfl) (by rfl)
set_option maxRecDepth 20000 in
theorem wm_470 : (.static ⟨"CountLeastLaw", "scaled", "(LCountLeast;II[J)I"⟩ : Cond) ∈ TB := tb_i 488 (by rfl) (by rfl)
set_option maxRecDepth 20000 in
theorem wm_471 : (.codeWith ⟨"CountLeastLaw", "scaled", "(LCountLeast;II[J)I"⟩ method_18_code 5 (some .int) [(0, 10, 13, 13)] : Cond) ∈ TB := tb_i 489 (by rfl) (by rfl)
set_option maxRecDepth 20000 in
theorem wm_472 : (.methodLink "CountLeastLaw" 68 ⟨"CountLeast", "scaled", "(II)I"⟩ : Cond) ∈ TB := tb_i 490 (by rfl) (by rfl)
set_option maxRecDepth 20000 in
theorem wm_473 : (.instanceMethod ⟨"CountLeast", "scaled", "(II)I"⟩ : Cond) ∈ TB := tb_i 491 (by rfl) (by rfl)
set_option maxRecDepth 20000 in
theorem wm_474 : (.selects "CountLeast" ⟨"CountLeast", "scaled", "(II)I"⟩ ⟨"CountLeast", "scaled", "(II)I"⟩ : Cond) ∈ TB := tb_i 492 (by rfl) (by rfl)
set_option maxRecDepth 20000 in
theorem wm_475 : (.code ⟨"CountLeast", "scaled", "(II)I"⟩ prog_1_method_17_code 7 (some .int) : Cond) ∈ TB := tb_i 493 (by rfl) (by rfl)
set_option maxRecDepth 20000 in
theorem wm_476 : (.methodLink "CountLeastLaw" 142 ⟨"CountLeastLaw", "diverse", "(LCountLeast;I[J)I"⟩ : Cond) ∈ TB := tb_i 494 (by rfl) (by rfl)
set_option maxRecDepth 20000 in
theorem wm_477 : (.static ⟨"CountLeastLaw", "diverse", "(LCountLeast;I[J)I"⟩ : Cond) ∈ TB := tb_i 495 (by rfl) (by rfl)
set_option maxRecDepth 20000 in
theorem wm_478 : (.codeWith ⟨"CountLeastLaw", "diverse", "(LCountLeast;I[J)I"⟩ method_19_code 4 (some .int) [(0, 9, 12, 13)] : Cond) ∈ TB := tb_i 496 (by rfl) (by rfl)
set_option maxRecDepth 20000 in
theorem wm_479 : (.methodLink "CountLeastLaw" 71 ⟨"CountLeast", "diverse", "(I)I"⟩ : Cond) ∈ TB := tb_i 497 (by rfl) (by rfl)
set_option maxRecDepth 20000 in
theorem wm_480 : (.instanceMethod ⟨"CountLeast", "diverse", "(I)I"⟩ : Cond) ∈ TB := tb_i 498 (by rfl) (by rfl)
set_option maxRecDepth 20000 in
theorem wm_481 : (.selects "CountLeast" ⟨"CountLeast", "diverse", "(I)I"⟩ ⟨"CountLeast", "diverse", "(I)I"⟩ : Cond) ∈ TB := tb_i 499 (by rfl) (by rfl)
set_option maxRecDepth 20000 in
theorem wm_482 : (.code ⟨"CountLeast", "diverse", "(I)I"⟩ prog_1_method_18_code 4 (some .int) : Cond) ∈ TB := tb_i 500 (by rfl) (by rfl)
set_option maxRecDepth 20000 in
theorem wm_483 : (.methodLink "CountLeast" 151 ⟨"CountLeast", "orderedPairs", "(I)I"⟩ : Cond) ∈ TB := tb_i 501 (by rfl) (by rfl)
set_option maxRecDepth 20000 in
theorem wm_484 : (.static ⟨"CountLeast", "orderedPairs", "(I)I"⟩ : Cond) ∈ TB := tb_i 502 (by rfl) (by rfl)
set_option maxRecDepth 20000 in
theorem wm_485 : (.code ⟨"CountLeast", "orderedPairs", "(I)I"⟩ prog_1_method_24_code 1 (some .int) : Cond) ∈ TB := tb_i 503 (by rfl) (by rfl)
set_option maxRecDepth 20000 in
theorem wm_486 : (.methodLink "CountLeastLaw" 145 ⟨"CountLeastLaw", "pieces", "(LCountLeast;I[J)I"⟩ : Cond) ∈ TB := tb_i 504 (by rfl) (by rfl)
set_option maxRecDepth 20000 in
theorem wm_487 : (.static ⟨"CountLeastLaw", "pieces", "(LCountLeast;I[J)I"⟩ : Cond) ∈ TB := tb_i 505 (by rfl) (by rfl)
set_option maxRecDepth 20000 in
theorem wm_488 : (.codeWith ⟨"CountLeastLaw", "pieces", "(LCountLeast;I[J)I"⟩ method_20_code 4 (some .int) [(0, 9, 12, 13)] : Cond) ∈ TB := tb_i 506 (by rfl) (by rfl)
set_option maxRecDepth 20000 in
theorem wm_489 : (.methodLink "CountLeastLaw" 74 ⟨"CountLeast", "pieces", "(I)I"⟩ : Cond) ∈ TB := tb_i 507 (by rfl) (by rfl)
set_option maxRecDepth 20000 in
theorem wm_490 : (.instanceMethod ⟨"CountLeast", "pieces", "(I)I"⟩ : Cond) ∈ TB := tb_i 508 (by rfl) (by rfl)
set_option maxRecDepth 20000 in
theorem wm_491 : (.selects "CountLeast" ⟨"CountLeast", "pieces", "(I)I"⟩ ⟨"CountLeast", "pieces", "(I)I"⟩ : Cond) ∈ TB := tb_i 509 (by rfl) (by rfl)
set_option maxRecDepth 20000 in
theorem wm_492 : (.code ⟨"CountLeast", "pieces", "(I)I"⟩ prog_1_method_19_code 2 (some .int) : Cond) ∈ TB := tb_i 510 (by rfl) (by rfl)
set_option maxRecDepth 20000 in
theorem wm_493 : (.classLink "CountLeastLaw" 78 "CountLeastModel" : Cond) ∈ TB := tb_i 511 (by rfl) (by rfl)
set_option maxRecDepth 20000 in
theorem wm_494 : (.instantiable "CountLeastModel" 21 : Cond) ∈ TB := tb_i 512 (by rfl) (by rfl)
set_option maxRecDepth 20000 in
theorem wm_495 : (.methodLink "CountLeastLaw" 80 ⟨"CountLeastModel", "<init>", "()V"⟩ : Cond) ∈ TB := tb_i 513 (by rfl) (by rfl)
set_option maxRecDepth 20000 in
theorem wm_496 : (.instanceMethod ⟨"CountLeastModel", "<init>", "()V"⟩ : Cond) ∈ TB := tb_i 514 (by rfl) (by rfl)
set_option maxRecDepth 20000 in
theorem wm_497 : (.code ⟨"CountLeastModel", "<init>", "()V"⟩ prog_6_method_1_code 2 none : Cond) ∈ TB := tb_i 515 (by rfl) (by rfl)
set_option maxRecDepth 20000 in
theorem wm_498 : (.methodLink "CountLeastModel" 1 ⟨"java/lang/Object", "<init>", "()V"⟩ : Cond) ∈ TB := tb_i 516 (by rfl) (by rfl)
set_option maxRecDepth 20000 in
theorem wm_499 : (.fieldLink "CountLeastModel" 62 "CountLeastModel" "thrown" "I" : Cond) ∈ TB := tb_i 517 (by rfl) (by rfl)
set_option maxRecDepth 20000 in
theorem wm_500 : (.fieldLink "CountLeastModel" 70 "CountLeastModel" "many" "I" : Cond) ∈ TB := tb_i 518 (by rfl) (by rfl)
set_option maxRecDepth 20000 in
theorem wm_501 : (.fieldLink "CountLeastModel" 7 "CountLeastModel" "kind" "[I" : Cond) ∈ TB := tb_i 519 (by rfl) (by rfl)
set_option maxRecDepth 20000 in
theorem wm_502 : (.fieldLink "CountLeastModel" 13 "CountLeastModel" "part" "[I" : Cond) ∈ TB := tb_i 520 (by rfl) (by rfl)
set_option maxRecDepth 20000 in
theorem wm_503 : (.fieldLink "CountLeastModel" 16 "CountLeastModel" "side" "[I" : Cond) ∈ TB := tb_i 521 (by rfl) (by rfl)
set_option maxRecDepth 20000 in
theorem wm_504 : (.fieldLink "CountLeastModel" 19 "CountLeastModel" "size" "[I" : Cond) ∈ TB := tb_i 522 (by rfl) (by rfl)
set_option maxRecDepth 20000 in
theorem wm_505 : (.fieldLink "CountLeastModel" 22 "CountLeastModel" "from" "[I" : Cond) ∈ TB := tb_i 523 (by rfl) (by rfl)
set_option maxRecDepth 20000 in
theorem wm_506 : (.fieldLink "CountLeastModel" 25 "CountLeastModel" "to" "[I" : Cond) ∈ TB := tb_i 524 (by rfl) (by rfl)
set_option maxRecDepth 20000 in
theorem wm_507 : (.fieldLink "CountLeastModel" 28 "CountLeastModel" "grams" "[I" : Cond) ∈ TB := tb_i 525 (by rfl) (by rfl)
set_option maxRecDepth 20000 in
theorem wm_508 : (.fieldLink "CountLeastModel" 31 "CountLeastModel" "counts" "[I" : Cond) ∈ TB := tb_i 526 (by rfl) (by rfl)
set_option maxRecDepth 20000 in
theorem wm_509 : (.fieldLink "CountLeastModel" 34 "CountLeastModel" "rows" "[I" : Cond) ∈ TB := tb_i 527 (by rfl) (by rfl)
set_option maxRecDepth 20000 in
theorem wm_510 : (.fieldLink "CountLeastModel" 37 "CountLeastModel" "alone" "[Z" : Cond) ∈ TB := tb_i 528 (by rfl) (by rfl)
set_option maxRecDepth 20000 in
theorem wm_511 : (.fieldLink "CountLeastModel" 41 "CountLeastModel" "bounds" "[I" : Cond) ∈ TB := tb_i 529 (by rfl) (by rfl)
set_option maxRecDepth 20000 in
theorem wm_512 : (.fieldLink "CountLeastModel" 44 "CountLeastModel" "wearFrom" "[I" : Cond) ∈ TB := tb_i 530 (by rfl) (by rfl)
set_option maxRecDepth 20000 in
theorem wm_513 : (.fieldLink "CountLeastModel" 47 "CountLeastModel" "wearTo" "[I" : Cond) ∈ TB := tb_i 531 (by rfl) (by rfl)
set_option maxRecDepth 20000 in
theorem wm_514 : (.fieldLink "CountLeastModel" 50 "CountLeastModel" "above" "[I" : Cond) ∈ TB := tb_i 532 (by rfl) (by rfl)
set_option maxRecDepth 20000 in
theorem wm_515 : (.fieldLink "CountLeastModel" 53 "CountLeastModel" "below" "[I" : Cond) ∈ TB := tb_i 533 (by rfl) (by rfl)
set_option maxRecDepth 20000 in
theorem wm_516 : (.fieldLink "CountLeastModel" 56 "CountLeastModel" "animals" "[I" : Cond) ∈ TB := tb_i 534 (by rfl) (by rfl)
set_option maxRecDepth 20000 in
theorem wm_517 : (.fieldLink "CountLeastModel" 59 "CountLeastModel" "before" "[I" : Cond) ∈ TB := tb_i 535 (by rfl) (by rfl)
set_option maxRecDepth 20000 in
theorem wm_518 : (.fieldLink "CountLeastModel" 111 "CountLeastModel" "over" "I" : Cond) ∈ TB := tb_i 536 (by rfl) (by rfl)
set_option maxRecDepth 20000 in
theorem wm_519 : (.fieldLink "CountLeastModel" 114 "CountLeastModel" "under" "I" : Cond) ∈ TB := tb_i 537 (by rfl) (by rfl)
set_option maxRecDepth 20000 in
theorem wm_520 : (.lays "CountLeastModel" "CountLeastModel" "thrown" "I" : Cond) ∈ TB := tb_i 538 (by rfl) (by rfl)
set_option maxRecDepth 20000 in
theorem wm_522 : (.lays "CountLeastModel" "CountLeastModel" "many" "I" : Cond) ∈ TB := tb_i 540 (by rfl) (by rfl)
set_option maxRecDepth 20000 in
theorem wm_524 : (.laysFinal "CountLeastModel" "CountLeastModel" "kind" "[I" : Cond) ∈ TB := tb_i 542 (by rfl) (by rfl)
set_option maxRecDepth 20000 in
theorem wm_526 : (.laysFinal "CountLeastModel" "CountLeastModel" "part" "[I" : Cond) ∈ TB := tb_i 544 (by rfl) (by rfl)
set_option maxRecDepth 20000 in
theorem wm_528 : (.laysFinal "CountLeastModel" "CountLeastModel" "side" "[I" : Cond) ∈ TB := tb_i 546 (by rfl) (by rfl)
set_option maxRecDepth 20000 in
theorem wm_530 : (.laysFinal "CountLeastModel" "CountLeastModel" "size" "[I" : Cond) ∈ TB := tb_i 548 (by rfl) (by rfl)
set_option maxRecDepth 20000 in
theorem wm_532 : (.laysFinal "CountLeastModel" "CountLeastModel" "from" "[I" : Cond) ∈ TB := tb_i 550 (by rfl) (by rfl)
set_option maxRecDepth 20000 in
theorem wm_534 : (.laysFinal "CountLeastModel" "CountLeastModel" "to" "[I" : Cond) ∈ TB := tb_i 552 (by rfl) (by rfl)
set_option maxRecDepth 20000 in
theorem wm_536 : (.laysFinal "CountLeastModel" "CountLeastModel" "grams" "[I" : Cond) ∈ TB := tb_i 554 (by rfl) (by rfl)
set_option maxRecDepth 20000 in
theorem wm_538 : (.laysFinal "CountLeastModel" "CountLeastModel" "counts" "[I" : Cond) ∈ TB := tb_i 556 (by rfl) (by rfl)
set_option maxRecDepth 20000 in
theorem wm_540 : (.laysFinal "CountLeastModel" "CountLeastModel" "rows" "[I" : Cond) ∈ TB := tb_i 558 (by rfl) (by rfl)
set_option maxRecDepth 20000 in
theorem wm_542 : (.laysFinal "CountLeastModel" "CountLeastModel" "alone" "[Z" : Cond) ∈ TB := tb_i 560 (by rfl) (by rfl)
set_option maxRecDepth 20000 in
theorem wm_544 : (.laysFinal "CountLeastModel" "CountLeastModel" "bounds" "[I" : Cond) ∈ TB := tb_i 562 (by rfl) (by rfl)
set_option maxRecDepth 20000 in
theorem wm_546 : (.laysFinal "CountLeastModel" "CountLeastModel" "wearFrom" "[I" : Cond) ∈ TB := tb_i 564 (by rfl) (by rfl)
set_option maxRecDepth 20000 in
theorem wm_548 : (.laysFinal "CountLeastModel" "CountLeastModel" "wearTo" "[I" : Cond) ∈ TB := tb_i 566 (by rfl) (by rfl)
set_option maxRecDepth 20000 in
theorem wm_550 : (.laysFinal "CountLeastModel" "CountLeastModel" "above" "[I" : Cond) ∈ TB := tb_i 568 (by rfl) (by rfl)
set_option maxRecDepth 20000 in
theorem wm_552 : (.laysFinal "CountLeastModel" "CountLeastModel" "below" "[I" : Cond) ∈ TB := tb_i 570 (by rfl) (by rfl)
set_option maxRecDepth 20000 in
theorem wm_554 : (.laysFinal "CountLeastModel" "CountLeastModel" "animals" "[I" : Cond) ∈ TB := tb_i 572 (by rfl) (by rfl)
set_option maxRecDepth 20000 in
theorem wm_556 : (.laysFinal "CountLeastModel" "CountLeastModel" "before" "[I" : Cond) ∈ TB := tb_i 574 (by rfl) (by rfl)
set_option maxRecDepth 20000 in
theorem wm_558 : (.lays "CountLeastModel" "CountLeastModel" "over" "I" : Cond) ∈ TB := tb_i 576 (by rfl) (by rfl)
set_option maxRecDepth 20000 in
theorem wm_560 : (.lays "CountLeastModel" "CountLeastModel" "under" "I" : Cond) ∈ TB := tb_i 578 (by rfl) (by rfl)
set_option maxRecDepth 20000 in
theorem wm_563 : (.methodLink "CountLeastLaw" 87 ⟨"CountLeastModel", "thrown", "()I"⟩ : Cond) ∈ TB := tb_i 581 (by rfl) (by rfl)
set_option maxRecDepth 20000 in
theorem wm_564 : (.instanceMethod ⟨"CountLeastModel", "thrown", "()I"⟩ : Cond) ∈ TB := tb_i 582 (by rfl) (by rfl)
set_option maxRecDepth 20000 in
theorem wm_565 : (.selects "CountLeastModel" ⟨"CountLeastModel", "thrown", "()I"⟩ ⟨"CountLeastModel", "thrown", "()I"⟩ : Cond) ∈ TB := tb_i 583 (by rfl) (by rfl)
set_option maxRecDepth 20000 in
theorem wm_566 : (.code ⟨"CountLeastModel", "thrown", "()I"⟩ prog_6_method_2_code 1 (some .int) : Cond) ∈ TB := tb_i 584 (by rfl) (by rfl)
set_option maxRecDepth 20000 in
theorem wm_567 : (.methodLink "CountLeastLaw" 86 ⟨"CountLeastModel", "piece", "(IIII)I"⟩ : Cond) ∈ TB := tb_i 585 (by rfl) (by rfl)
set_option maxRecDepth 20000 in
theorem wm_568 : (.instanceMethod ⟨"CountLeastModel", "piece", "(IIII)I"⟩ : Cond) ∈ TB := tb_i 586 (by rfl) (by rfl)
set_option maxRecDepth 20000 in
theorem wm_569 : (.selects "CountLeastModel" ⟨"CountLeastModel", "piece", "(IIII)I"⟩ ⟨"CountLeastModel", "piece", "(IIII)I"⟩ : Cond) ∈ TB := tb_i 587 (by rfl) (by rfl)
set_option maxRecDepth 20000 in
theorem wm_570 : (.code ⟨"CountLeastModel", "piece", "(IIII)I"⟩ prog_6_method_7_code 6 (some .int) : Cond) ∈ TB := tb_i 588 (by rfl) (by rfl)
set_option maxRecDepth 20000 in
theorem wm_571 : (.methodLink "CountLeastModel" 73 ⟨"CountLeastModel", "isKind", "(I)Z"⟩ : Cond) ∈ TB := tb_i 589 (by rfl) (by rfl)
set_option maxRecDepth 20000 in
theorem wm_572 : (.static ⟨"CountLeastModel", "isKind", "(I)Z"⟩ : Cond) ∈ TB := tb_i 590 (by rfl) (by rfl)
set_option maxRecDepth 20000 in
theorem wm_573 : (.code ⟨"CountLeastModel", "isKind", "(I)Z"⟩ prog_6_method_5_code 1 (some .boolean) : Cond) ∈ TB := tb_i 591 (by rfl) (by rfl)
set_option maxRecDepth 20000 in
theorem wm_574 : (.methodLink "CountLeastModel" 66 ⟨"CountLeastModel", "in", "(III)Z"⟩ : Cond) ∈ TB := tb_i 592 (by rfl) (by rfl)
set_option maxRecDepth 20000 in
theorem wm_575 : (.static ⟨"CountLeastModel", "in", "(III)Z"⟩ : Cond) ∈ TB := tb_i 593 (by rfl) (by rfl)
set_option maxRecDepth 20000 in
theorem wm_576 : (.code ⟨"CountLeastModel", "in", "(III)Z"⟩ prog_6_method_4_code 3 (some .boolean) : Cond) ∈ TB := tb_i 594 (by rfl) (by rfl)
set_option maxRecDepth 20000 in
theorem wm_577 : (.methodLink "CountLeastModel" 77 ⟨"CountLeastModel", "throwing", "(ZZZ)Z"⟩ : Cond) ∈ TB := tb_i 595 (by rfl) (by rfl)
set_option maxRecDepth 20000 in
theorem wm_579 : (.instanceMethod ⟨"CountLeastModel", "throwing", "(ZZZ)Z"⟩ : Cond) ∈ TB := tb_i 597 (by rfl) (by rfl)
set_option maxRecDepth 20000 in
theorem wm_580 : (.code ⟨"CountLeastModel", "throwing", "(ZZZ)Z"⟩ prog_6_method_3_code 4 (some .boolean) : Cond) ∈ TB := tb_i 598 (by rfl) (by rfl)
set_option maxRecDepth 20000 in
theorem wm_581 : (.methodLink "CountLeastLaw" 94 ⟨"CountLeastModel", "single", "(IIZ)Z"⟩ : Cond) ∈ TB := tb_i 599 (by rfl) (by rfl)
set_option maxRecDepth 20000 in
theorem wm_582 : (.instanceMethod ⟨"CountLeastModel", "single", "(IIZ)Z"⟩ : Cond) ∈ TB := tb_i 600 (by rfl) (by rfl)
set_option maxRecDepth 20000 in
theorem wm_583 : (.selects "CountLeastModel" ⟨"CountLeastModel", "single", "(IIZ)Z"⟩ ⟨"CountLeastModel", "single", "(IIZ)Z"⟩ : Cond) ∈ TB := tb_i 601 (by rfl) (by rfl)
set_option maxRecDepth 20000 in
theorem wm_584 : (.code ⟨"CountLeastModel", "single", "(IIZ)Z"⟩ prog_6_method_8_code 5 (some .boolean) : Cond) ∈ TB := tb_i 602 (by rfl) (by rfl)
set_option maxRecDepth 20000 in
theorem wm_585 : (.methodLink "CountLeastLaw" 98 ⟨"CountLeastModel", "bound", "(II)I"⟩ : Cond) ∈ TB := tb_i 603 (by rfl) (by rfl)
set_option maxRecDepth 20000 in
theorem wm_586 : (.instanceMethod ⟨"CountLeastModel", "bound", "(II)I"⟩ : Cond) ∈ TB := tb_i 604 (by rfl) (by rfl)
set_option maxRecDepth 20000 in
theorem wm_587 : (.selects "CountLeastModel" ⟨"CountLeastModel", "bound", "(II)I"⟩ ⟨"CountLeastModel", "bound", "(II)I"⟩ : Cond) ∈ TB := tb_i 605 (by rfl) (by rfl)
set_option maxRecDepth 20000 in
theorem wm_588 : (.code ⟨"CountLeastModel", "bound", "(II)I"⟩ prog_6_method_9_code 4 (some .int) : Cond) ∈ TB := tb_i 606 (by rfl) (by rfl)
set_option maxRecDepth 20000 in
theorem wm_589 : (.methodLink "CountLeastLaw" 102 ⟨"CountLeastModel", "table", "(IIII)V"⟩ : Cond) ∈ TB := tb_i 607 (by rfl) (by rfl)
set_option maxRecDepth 20000 in
theorem wm_590 : (.instanceMethod ⟨"CountLeastModel", "table", "(IIII)V"⟩ : Cond) ∈ TB := tb_i 608 (by rfl) (by rfl)
set_option maxRecDepth 20000 in
theorem wm_591 : (.selects "CountLeastModel" ⟨"CountLeastModel", "table", "(IIII)V"⟩ ⟨"CountLeastModel", "table", "(IIII)V"⟩ : Cond) ∈ TB := tb_i 609 (by rfl) (by rfl)
set_option maxRecDepth 20000 in
theorem wm_592 : (.code ⟨"CountLeastModel", "table", "(IIII)V"⟩ prog_6_method_10_code 5 none : Cond) ∈ TB := tb_i 610 (by rfl) (by rfl)
set_option maxRecDepth 20000 in
theorem wm_593 : (.methodLink "CountLeastLaw" 106 ⟨"CountLeastModel", "worn", "(II)V"⟩ : Cond) ∈ TB := tb_i 611 (by rfl) (by rfl)
set_option maxRecDepth 20000 in
theorem wm_594 : (.instanceMethod ⟨"CountLeastModel", "worn", "(II)V"⟩ : Cond) ∈ TB := tb_i 612 (by rfl) (by rfl)
set_option maxRecDepth 20000 in
theorem wm_595 : (.selects "CountLeastModel" ⟨"CountLeastModel", "worn", "(II)V"⟩ ⟨"CountLeastModel", "worn", "(II)V"⟩ : Cond) ∈ TB := tb_i 613 (by rfl) (by rfl)
set_option maxRecDepth 20000 in
theorem wm_596 : (.code ⟨"CountLeastModel", "worn", "(II)V"⟩ prog_6_method_11_code 3 none : Cond) ∈ TB := tb_i 614 (by rfl) (by rfl)
set_option maxRecDepth 20000 in
theorem wm_597 : (.methodLink "CountLeastModel" 81 ⟨"CountLeastModel", "isPiece", "(I)Z"⟩ : Cond) ∈ TB := tb_i 615 (by rfl) (by rfl)
set_option maxRecDepth 20000 in
theorem wm_599 : (.instanceMethod ⟨"CountLeastModel", "isPiece", "(I)Z"⟩ : Cond) ∈ TB := tb_i 617 (by rfl) (by rfl)
set_option maxRecDepth 20000 in
theorem wm_600 : (.code ⟨"CountLeastModel", "isPiece", "(I)Z"⟩ prog_6_method_6_code 2 (some .boolean) : Cond) ∈ TB := tb_i 618 (by rfl) (by rfl)
set_option maxRecDepth 20000 in
theorem wm_601 : (.methodLink "CountLeastLaw" 109 ⟨"CountLeastModel", "aged", "(II)I"⟩ : Cond) ∈ TB := tb_i 619 (by rfl) (by rfl)
set_option maxRecDepth 20000 in
theorem wm_602 : (.instanceMethod ⟨"CountLeastModel", "aged", "(II)I"⟩ : Cond) ∈ TB := tb_i 620 (by rfl) (by rfl)
set_option maxRecDepth 20000 in
theorem wm_603 : (.selects "CountLeastModel" ⟨"CountLeastModel", "aged", "(II)I"⟩ ⟨"CountLeastModel", "aged", "(II)I"⟩ : Cond) ∈ TB := tb_i 621 (by rfl) (by rfl)
set_option maxRecDepth 20000 in
theorem wm_604 : (.code ⟨"CountLeastModel", "aged", "(II)I"⟩ prog_6_method_12_code 3 (some .int) : Cond) ∈ TB := tb_i 622 (by rfl) (by rfl)
set_option maxRecDepth 20000 in
theorem wm_605 : (.methodLink "CountLeastLaw" 113 ⟨"CountLeastModel", "unsure", "(I)Z"⟩ : Cond) ∈ TB := tb_i 623 (by rfl) (by rfl)
set_option maxRecDepth 20000 in
theorem wm_606 : (.instanceMethod ⟨"CountLeastModel", "unsure", "(I)Z"⟩ : Cond) ∈ TB := tb_i 624 (by rfl) (by rfl)
set_option maxRecDepth 20000 in
theorem wm_607 : (.selects "CountLeastModel" ⟨"CountLeastModel", "unsure", "(I)Z"⟩ ⟨"CountLeastModel", "unsure", "(I)Z"⟩ : Cond) ∈ TB := tb_i 625 (by rfl) (by rfl)
set_option maxRecDepth 20000 in
theorem wm_608 : (.code ⟨"CountLeastModel", "unsure", "(I)Z"⟩ prog_6_method_13_code 3 (some .boolean) : Cond) ∈ TB := tb_i 626 (by rfl) (by rfl)
set_option maxRecDepth 20000 in
theorem wm_609 : (.methodLink "CountLeastLaw" 116 ⟨"CountLeastModel", "clash", "(II)I"⟩ : Cond) ∈ TB := tb_i 627 (by rfl) (by rfl)
set_option maxRecDepth 20000 in
theorem wm_610 : (.instanceMethod ⟨"CountLeastModel", "clash", "(II)I"⟩ : Cond) ∈ TB := tb_i 628 (by rfl) (by rfl)
set_option maxRecDepth 20000 in
theorem wm_611 : (.selects "CountLeastModel" ⟨"CountLeastModel", "clash", "(II)I"⟩ ⟨"CountLeastModel", "clash", "(II)I"⟩ : Cond) ∈ TB := tb_i 629 (by rfl) (by rfl)
set_option maxRecDepth 20000 in
theorem wm_612 : (.code ⟨"CountLeastModel", "clash", "(II)I"⟩ prog_6_method_15_code 4 (some .int) : Cond) ∈ TB := tb_i 630 (by rfl) (by rfl)
set_option maxRecDepth 20000 in
theorem wm_613 : (.methodLink "CountLeastModel" 84 ⟨"CountLeastModel", "rule", "(II)I"⟩ : Cond) ∈ TB := tb_i 631 (by rfl) (by rfl)
set_option maxRecDepth 20000 in
theorem wm_615 : (.instanceMethod ⟨"CountLeastModel", "rule", "(II)I"⟩ : Cond) ∈ TB := tb_i 633 (by rfl) (by rfl)
set_option maxRecDepth 20000 in
theorem wm_616 : (.code ⟨"CountLeastModel", "rule", "(II)I"⟩ prog_6_method_14_code 5 (some .int) : Cond) ∈ TB := tb_i 634 (by rfl) (by rfl)
set_option maxRecDepth 20000 in
theorem wm_617 : (.methodLink "CountLeastLaw" 119 ⟨"CountLeastModel", "least", "(I)I"⟩ : Cond) ∈ TB := tb_i 635 (by rfl) (by rfl)
set_option maxRecDepth 20000 in
theorem wm_618 : (.instanceMethod ⟨"CountLeastModel", "least", "(I)I"⟩ : Cond) ∈ TB := tb_i 636 (by rfl) (by rfl)
set_option maxRecDepth 20000 in
theorem wm_619 : (.selects "CountLeastModel" ⟨"CountLeastModel", "least", "(I)I"⟩ ⟨"CountLeastModel", "least", "(I)I"⟩ : Cond) ∈ TB := tb_i 637 (by rfl) (by rfl)
set_option maxRecDepth 20000 in
theorem wm_620 : (.code ⟨"CountLeastModel", "least", "(I)I"⟩ prog_6_method_20_code 2 (some .int) : Cond) ∈ TB := tb_i 638 (by rfl) (by rfl)
set_option maxRecDepth 20000 in
theorem wm_621 : (.methodLink "CountLeastModel" 98 ⟨"CountLeastModel", "part", "(I)I"⟩ : Cond) ∈ TB := tb_i 639 (by rfl) (by rfl)
set_option maxRecDepth 20000 in
theorem wm_623 : (.instanceMethod ⟨"CountLeastModel", "part", "(I)I"⟩ : Cond) ∈ TB := tb_i 641 (by rfl) (by rfl)
set_option maxRecDepth 20000 in
theorem wm_624 : (.code ⟨"CountLeastModel", "part", "(I)I"⟩ prog_6_method_19_code 3 (some .int) : Cond) ∈ TB := tb_i 642 (by rfl) (by rfl)
set_option maxRecDepth 20000 in
theorem wm_625 : (.methodLink "CountLeastModel" 94 ⟨"CountLeastModel", "parts", "(II)Z"⟩ : Cond) ∈ TB := tb_i 643 (by rfl) (by rfl)
set_option maxRecDepth 20000 in
theorem wm_627 : (.instanceMethod ⟨"CountLeastModel", "parts", "(II)Z"⟩ : Cond) ∈ TB := tb_i 645 (by rfl) (by rfl)
set_option maxRecDepth 20000 in
theorem wm_628 : (.code ⟨"CountLeastModel", "parts", "(II)Z"⟩ prog_6_method_18_code 8 (some .boolean) : Cond) ∈ TB := tb_i 646 (by rfl) (by rfl)
set_option maxRecDepth 20000 in
theorem wm_629 : (.methodLink "CountLeastModel" 91 ⟨"CountLeastModel", "fits", "(III)Z"⟩ : Cond) ∈ TB := tb_i 647 (by rfl) (by rfl)
set_option maxRecDepth 20000 in
theorem wm_631 : (.instanceMethod ⟨"CountLeastModel", "fits", "(III)Z"⟩ : Cond) ∈ TB := tb_i 649 (by rfl) (by rfl)
set_option maxRecDepth 20000 in
theorem wm_632 : (.code ⟨"CountLeastModel", "fits", "(III)Z"⟩ prog_6_method_17_code 6 (some .boolean) : Cond) ∈ TB := tb_i 650 (by rfl) (by rfl)
set_option maxRecDepth 20000 in
theorem wm_633 : (.methodLink "CountLeastModel" 88 ⟨"CountLeastModel", "clashes", "(III)Z"⟩ : Cond) ∈ TB := tb_i 651 (by rfl) (by rfl)
set_option maxRecDepth 20000 in
theorem wm_635 : (.instanceMethod ⟨"CountLeastModel", "clashes", "(III)Z"⟩ : Cond) ∈ TB := tb_i 653 (by rfl) (by rfl)
set_option maxRecDepth 20000 in
theorem wm_636 : (.code ⟨"CountLeastModel", "clashes", "(III)Z"⟩ prog_6_method_16_code 4 (some .boolean) : Cond) ∈ TB := tb_i 654 (by rfl) (by rfl)
set_option maxRecDepth 20000 in
theorem wm_637 : (.methodLink "CountLeastLaw" 122 ⟨"CountLeastModel", "animal", "(I)I"⟩ : Cond) ∈ TB := tb_i 655 (by rfl) (by rfl)
set_option maxRecDepth 20000 in
theorem wm_638 : (.instanceMethod ⟨"CountLeastModel", "animal", "(I)I"⟩ : Cond) ∈ TB := tb_i 656 (by rfl) (by rfl)
set_option maxRecDepth 20000 in
theorem wm_639 : (.selects "CountLeastModel" ⟨"CountLeastModel", "animal", "(I)I"⟩ ⟨"CountLeastModel", "animal", "(I)I"⟩ : Cond) ∈ TB := tb_i 657 (by rfl) (by rfl)
set_option maxRecDepth 20000 in
theorem wm_640 : (.code ⟨"CountLeastModel", "animal", "(I)I"⟩ prog_6_method_21_code 4 (some .int) : Cond) ∈ TB := tb_i 658 (by rfl) (by rfl)
set_option maxRecDepth 20000 in
theorem wm_641 : (.methodLink "CountLeastLaw" 125 ⟨"CountLeastModel", "clashing", "(II)I"⟩ : Cond) ∈ TB := tb_i 659 (by rfl) (by rfl)
set_option maxRecDepth 20000 in
theorem wm_642 : (.instanceMethod ⟨"CountLeastModel", "clashing", "(II)I"⟩ : Cond) ∈ TB := tb_i 660 (by rfl) (by rfl)
set_option maxRecDepth 20000 in
theorem wm_643 : (.selects "CountLeastModel" ⟨"CountLeastModel", "clashing", "(II)I"⟩ ⟨"CountLeastModel", "clashing", "(II)I"⟩ : Cond) ∈ TB := tb_i 661 (by rfl) (by rfl)
set_option maxRecDepth 20000 in
theorem wm_644 : (.code ⟨"CountLeastModel", "clashing", "(II)I"⟩ prog_6_method_25_code 6 (some .int) : Cond) ∈ TB := tb_i 662 (by rfl) (by rfl)
set_option maxRecDepth 20000 in
theorem wm_645 : (.methodLink "CountLeastModel" 107 ⟨"CountLeastModel", "greatest", "(I)I"⟩ : Cond) ∈ TB := tb_i 663 (by rfl) (by rfl)
set_option maxRecDepth 20000 in
theorem wm_647 : (.instanceMethod ⟨"CountLeastModel", "greatest", "(I)I"⟩ : Cond) ∈ TB := tb_i 665 (by rfl) (by rfl)
set_option maxRecDepth 20000 in
theorem wm_648 : (.code ⟨"CountLeastModel", "greatest", "(I)I"⟩ prog_6_method_24_code 8 (some .int) : Cond) ∈ TB := tb_i 666 (by rfl) (by rfl)
set_option maxRecDepth 20000 in
theorem wm_649 : (.methodLink "CountLeastModel" 101 ⟨"CountLeastModel", "sizeOf", "(I)I"⟩ : Cond) ∈ TB := tb_i 667 (by rfl) (by rfl)
set_option maxRecDepth 20000 in
theorem wm_650 : (.static ⟨"CountLeastModel", "sizeOf", "(I)I"⟩ : Cond) ∈ TB := tb_i 668 (by rfl) (by rfl)
set_option maxRecDepth 20000 in
theorem wm_651 : (.code ⟨"CountLeastModel", "sizeOf", "(I)I"⟩ prog_6_method_23_code 3 (some .int) : Cond) ∈ TB := tb_i 669 (by rfl) (by rfl)
set_option maxRecDepth 20000 in
theorem wm_652 : (.methodLink "CountLeastModel" 104 ⟨"CountLeastModel", "isClashing", "(II)Z"⟩ : Cond) ∈ TB := tb_i 670 (by rfl) (by rfl)
set_option maxRecDepth 20000 in
theorem wm_654 : (.instanceMethod ⟨"CountLeastModel", "isClashing", "(II)Z"⟩ : Cond) ∈ TB := tb_i 672 (by rfl) (by rfl)
set_option maxRecDepth 20000 in
theorem wm_655 : (.code ⟨"CountLeastModel", "isClashing", "(II)Z"⟩ prog_6_method_22_code 6 (some .boolean) : Cond) ∈ TB := tb_i 673 (by rfl) (by rfl)
set_option maxRecDepth 20000 in
theorem wm_656 : (.methodLink "CountLeastLaw" 128 ⟨"CountLeastModel", "weight", "(II)I"⟩ : Cond) ∈ TB := tb_i 674 (by rfl) (by rfl)
set_option maxRecDepth 20000 in
theorem wm_657 : (.instanceMethod ⟨"CountLeastModel", "weight", "(II)I"⟩ : Cond) ∈ TB := tb_i 675 (by rfl) (by rfl)
set_option maxRecDepth 20000 in
theorem wm_658 : (.selects "CountLeastModel" ⟨"CountLeastModel", "weight", "(II)I"⟩ ⟨"CountLeastModel", "weight", "(II)I"⟩ : Cond) ∈ TB := tb_i 676 (by rfl) (by rfl)
set_option maxRecDepth 20000 in
theorem wm_659 : (.code ⟨"CountLeastModel", "weight", "(II)I"⟩ prog_6_method_26_code 4 (some .int) : Cond) ∈ TB := tb_i 677 (by rfl) (by rfl)
set_option maxRecDepth 20000 in
theorem wm_660 : (.constant "CountLeastModel" 110 (1000000 : Int32) : Cond) ∈ TB := tb_i 678 (by rfl) (by rfl)
set_option maxRecDepth 20000 in
theorem wm_661 : (.methodLink "CountLeastLaw" 131 ⟨"CountLeastModel", "sum", "(I)I"⟩ : Cond) ∈ TB := tb_i 679 (by rfl) (by rfl)
set_option maxRecDepth 20000 in
theorem wm_662 : (.instanceMethod ⟨"CountLeastModel", "sum", "(I)I"⟩ : Cond) ∈ TB := tb_i 680 (by rfl) (by rfl)
set_option maxRecDepth 20000 in
theorem wm_663 : (.selects "CountLeastModel" ⟨"CountLeastModel", "sum", "(I)I"⟩ ⟨"CountLeastModel", "sum", "(I)I"⟩ : Cond) ∈ TB := tb_i 681 (by rfl) (by rfl)
set_option maxRecDepth 20000 in
theorem wm_664 : (.code ⟨"CountLeastModel", "sum", "(I)I"⟩ prog_6_method_27_code 4 (some .int) : Cond) ∈ TB := tb_i 682 (by rfl) (by rfl)
set_option maxRecDepth 20000 in
theorem wm_665 : (.methodLink "CountLeastLaw" 134 ⟨"CountLeastModel", "share", "(II)I"⟩ : Cond) ∈ TB := tb_i 683 (by rfl) (by rfl)
set_option maxRecDepth 20000 in
theorem wm_666 : (.instanceMethod ⟨"CountLeastModel", "share", "(II)I"⟩ : Cond) ∈ TB := tb_i 684 (by rfl) (by rfl)
set_option maxRecDepth 20000 in
theorem wm_667 : (.selects "CountLeastModel" ⟨"CountLeastModel", "share", "(II)I"⟩ ⟨"CountLeastModel", "share", "(II)I"⟩ : Cond) ∈ TB := tb_i 685 (by rfl) (by rfl)
set_option maxRecDepth 20000 in
theorem wm_668 : (.code ⟨"CountLeastModel", "share", "(II)I"⟩ prog_6_method_29_code 5 (some .int) : Cond) ∈ TB := tb_i 686 (by rfl) (by rfl)
set_option maxRecDepth 20000 in
theorem wm_669 : (.methodLink "CountLeastModel" 117 ⟨"CountLeastModel", "lessen", "(II)V"⟩ : Cond) ∈ TB := tb_i 687 (by rfl) (by rfl)
set_option maxRecDepth 20000 in
theorem wm_671 : (.instanceMethod ⟨"CountLeastModel", "lessen", "(II)V"⟩ : Cond) ∈ TB := tb_i 689 (by rfl) (by rfl)
set_option maxRecDepth 20000 in
theorem wm_672 : (.code ⟨"CountLeastModel", "lessen", "(II)V"⟩ prog_6_method_28_code 4 none : Cond) ∈ TB := tb_i 690 (by rfl) (by rfl)
set_option maxRecDepth 20000 in
theorem wm_673 : (.methodLink "CountLeastLaw" 138 ⟨"CountLeastModel", "sieve", "(III)V"⟩ : Cond) ∈ TB := tb_i 691 (by rfl) (by rfl)
set_option maxRecDepth 20000 in
theorem wm_674 : (.instanceMethod ⟨"CountLeastModel", "sieve", "(III)V"⟩ : Cond) ∈ TB := tb_i 692 (by rfl) (by rfl)
set_option maxRecDepth 20000 in
theorem wm_675 : (.selects "CountLeastModel" ⟨"CountLeastModel", "sieve", "(III)V"⟩ ⟨"CountLeastModel", "sieve", "(III)V"⟩ : Cond) ∈ TB := tb_i 693 (by rfl) (by rfl)
set_option maxRecDepth 20000 in
theorem wm_676 : (.code ⟨"CountLeastModel", "sieve", "(III)V"⟩ prog_6_method_30_code 4 none : Cond) ∈ TB := tb_i 694 (by rfl) (by rfl)
set_option maxRecDepth 20000 in
theorem wm_677 : (.methodLink "CountLeastLaw" 141 ⟨"CountLeastModel", "scaled", "(II)I"⟩ : Cond) ∈ TB := tb_i 695 (by rfl) (by rfl)
set_option maxRecDepth 20000 in
theorem wm_678 : (.instanceMethod ⟨"CountLeastModel", "scaled", "(II)I"⟩ : Cond) ∈ TB := tb_i 696 (by rfl) (by rfl)
set_option maxRecDepth 20000 in
theorem wm_679 : (.selects "CountLeastModel" ⟨"CountLeastModel", "scaled", "(II)I"⟩ ⟨"CountLeastModel", "scaled", "(II)I"⟩ : Cond) ∈ TB := tb_i 697 (by rfl) (by rfl)
set_option maxRecDepth 20000 in
theorem wm_680 : (.code ⟨"CountLeastModel", "scaled", "(II)I"⟩ prog_6_method_31_code 4 (some .int) : Cond) ∈ TB := tb_i 698 (by rfl) (by rfl)
set_option maxRecDepth 20000 in
theorem wm_681 : (.methodLink "CountLeastLaw" 144 ⟨"CountLeastModel", "diverse", "(I)I"⟩ : Cond) ∈ TB := tb_i 699 (by rfl) (by rfl)
set_option maxRecDepth 20000 in
theorem wm_682 : (.instanceMethod ⟨"CountLeastModel", "diverse", "(I)I"⟩ : Cond) ∈ TB := tb_i 700 (by rfl) (by rfl)
set_option maxRecDepth 20000 in
theorem wm_683 : (.selects "CountLeastModel" ⟨"CountLeastModel", "diverse", "(I)I"⟩ ⟨"CountLeastModel", "diverse", "(I)I"⟩ : Cond) ∈ TB := tb_i 701 (by rfl) (by rfl)
set_option maxRecDepth 20000 in
theorem wm_684 : (.code ⟨"CountLeastModel", "diverse", "(I)I"⟩ prog_6_method_32_code 5 (some .int) : Cond) ∈ TB := tb_i 702 (by rfl) (by rfl)
set_option maxRecDepth 20000 in
theorem wm_685 : (.methodLink "CountLeastLaw" 147 ⟨"CountLeastModel", "pieces", "(I)I"⟩ : Cond) ∈ TB := tb_i 703 (by rfl) (by rfl)
set_option maxRecDepth 20000 in
theorem wm_686 : (.instanceMethod ⟨"CountLeastModel", "pieces", "(I)I"⟩ : Cond) ∈ TB := tb_i 704 (by rfl) (by rfl)
set_option maxRecDepth 20000 in
theorem wm_687 : (.selects "CountLeastModel" ⟨"CountLeastModel", "pieces", "(I)I"⟩ ⟨"CountLeastModel", "pieces", "(I)I"⟩ : Cond) ∈ TB := tb_i 705 (by rfl) (by rfl)
set_option maxRecDepth 20000 in
theorem wm_688 : (.code ⟨"CountLeastModel", "pieces", "(I)I"⟩ prog_6_method_33_code 2 (some .int) : Cond) ∈ TB := tb_i 706 (by rfl) (by rfl)
set_option maxRecDepth 20000 in
theorem wm_689 : (.arrayClass .long : Cond) ∈ TB := tb_i 707 (by rfl) (by rfl)
set_option maxRecDepth 20000 in
theorem wm_690 : (.sameMethod "java/lang/Throwable" "java/lang/Throwable" "fillInStackTrace" "(I)Ljava/lang/Throwable;" : Cond) ∈ TB := tb_i 708 (by rfl) (by rfl)
theorem wp_0 : (.selects "CountLeast" ⟨"CountLeast", "kindAt", "(I)LCountLeast$Kind;"⟩ ⟨"CountLeast", "kindAt", "(I)LCountLeast$Kind;"⟩ : Cond) ∈ TB := tb_i 0 (by rfl) (by rfl)
theorem wp_1 : (.selects "java/lang/Throwable" ⟨"java/lang/Throwable", "fillInStackTrace", "(I)Ljava/lang/Throwable;"⟩ ⟨"java/lang/Throwable", "fillInStackTrace", "(I)Ljava/lang/Throwable;"⟩ : Cond) ∈ TB := tb_i 1 (by rfl) (by rfl)
theorem wp_2 : (.selects "CountLeast" ⟨"CountLeast", "pieceAt", "(I)LCountLeast$Piece;"⟩ ⟨"CountLeast", "pieceAt", "(I)LCountLeast$Piece;"⟩ : Cond) ∈ TB := tb_i 2 (by rfl) (by rfl)
theorem wp_3 : (.selects "CountLeast$Kind" ⟨"CountLeast$Kind", "sidesClash", "(LCountLeast$Piece;LCountLeast$Piece;)Z"⟩ ⟨"CountLeast$Kind", "sidesClash", "(LCountLeast$Piece;LCountLeast$Piece;)Z"⟩ : Cond) ∈ TB := tb_i 3 (by rfl) (by rfl)
theorem wp_4 : (.selects "CountLeast$Kind" ⟨"CountLeast$Kind", "sizesClash", "(LCountLeast$Piece;LCountLeast$Piece;)Z"⟩ ⟨"CountLeast$Kind", "sizesClash", "(LCountLeast$Piece;LCountLeast$Piece;)Z"⟩ : Cond) ∈ TB := tb_i 4 (by rfl) (by rfl)
theorem wp_5 : (.selects "CountLeast$Kind" ⟨"CountLeast$Kind", "markFoes", "()V"⟩ ⟨"CountLeast$Kind", "markFoes", "()V"⟩ : Cond) ∈ TB := tb_i 5 (by rfl) (by rfl)
theorem wp_6 : (.selects "CountLeast$Parting" ⟨"CountLeast$Parting", "growFoes", "(III)V"⟩ ⟨"CountLeast$Parting", "growFoes", "(III)V"⟩ : Cond) ∈ TB := tb_i 6 (by rfl) (by rfl)
theorem wp_7 : (.selects "CountLeast$Parting" ⟨"CountLeast$Parting", "fill", "(II)Z"⟩ ⟨"CountLeast$Parting", "fill", "(II)Z"⟩ : Cond) ∈ TB := tb_i 7 (by rfl) (by rfl)
theorem wp_8 : (.selects "CountLeastModel" ⟨"CountLeastModel", "throwing", "(ZZZ)Z"⟩ ⟨"CountLeastModel", "throwing", "(ZZZ)Z"⟩ : Cond) ∈ TB := tb_i 8 (by rfl) (by rfl)
theorem wp_9 : (.selects "CountLeastModel" ⟨"CountLeastModel", "isPiece", "(I)Z"⟩ ⟨"CountLeastModel", "isPiece", "(I)Z"⟩ : Cond) ∈ TB := tb_i 9 (by rfl) (by rfl)
theorem wp_10 : (.selects "CountLeastModel" ⟨"CountLeastModel", "rule", "(II)I"⟩ ⟨"CountLeastModel", "rule", "(II)I"⟩ : Cond) ∈ TB := tb_i 10 (by rfl) (by rfl)
theorem wp_11 : (.selects "CountLeastModel" ⟨"CountLeastModel", "part", "(I)I"⟩ ⟨"CountLeastModel", "part", "(I)I"⟩ : Cond) ∈ TB := tb_i 11 (by rfl) (by rfl)
theorem wp_12 : (.selects "CountLeastModel" ⟨"CountLeastModel", "parts", "(II)Z"⟩ ⟨"CountLeastModel", "parts", "(II)Z"⟩ : Cond) ∈ TB := tb_i 12 (by rfl) (by rfl)
theorem wp_13 : (.selects "CountLeastModel" ⟨"CountLeastModel", "fits", "(III)Z"⟩ ⟨"CountLeastModel", "fits", "(III)Z"⟩ : Cond) ∈ TB := tb_i 13 (by rfl) (by rfl)
theorem wp_14 : (.selects "CountLeastModel" ⟨"CountLeastModel", "clashes", "(III)Z"⟩ ⟨"CountLeastModel", "clashes", "(III)Z"⟩ : Cond) ∈ TB := tb_i 14 (by rfl) (by rfl)
theorem wp_15 : (.selects "CountLeastModel" ⟨"CountLeastModel", "greatest", "(I)I"⟩ ⟨"CountLeastModel", "greatest", "(I)I"⟩ : Cond) ∈ TB := tb_i 15 (by rfl) (by rfl)
theorem wp_16 : (.selects "CountLeastModel" ⟨"CountLeastModel", "isClashing", "(II)Z"⟩ ⟨"CountLeastModel", "isClashing", "(II)Z"⟩ : Cond) ∈ TB := tb_i 16 (by rfl) (by rfl)
theorem wp_17 : (.selects "CountLeastModel" ⟨"CountLeastModel", "lessen", "(II)V"⟩ ⟨"CountLeastModel", "lessen", "(II)V"⟩ : Cond) ∈ TB := tb_i 17 (by rfl) (by rfl)
theorem inC : ∀ w ∈ u_ws RC TC 3, w ∈ TB := by
  intro w hw
  obtain ⟨k, hk, rfl⟩ := List.mem_map.mp hw
  have hk := List.mem_range.mp hk
  match k, hk with
  | 0, _ => exact wm_103
  | 1, _ => exact wm_105
  | 2, _ => exact wm_107
  | k + 3, h => exact absurd h (by omega)
theorem inK : ∀ w ∈ u_ws RK TK 10, w ∈ TB := by
  intro w hw
  obtain ⟨k, hk, rfl⟩ := List.mem_map.mp hw
  have hk := List.mem_range.mp hk
  match k, hk with
  | 0, _ => exact wm_79
  | 1, _ => exact wm_81
  | 2, _ => exact wm_83
  | 3, _ => exact wm_85
  | 4, _ => exact wm_87
  | 5, _ => exact wm_89
  | 6, _ => exact wm_91
  | 7, _ => exact wm_93
  | 8, _ => exact wm_95
  | 9, _ => exact wm_97
  | k + 10, h => exact absurd h (by omega)
theorem inP : ∀ w ∈ u_ws RP TP 6, w ∈ TB := by
  intro w hw
  obtain ⟨k, hk, rfl⟩ := List.mem_map.mp hw
  have hk := List.mem_range.mp hk
  match k, hk with
  | 0, _ => exact wm_45
  | 1, _ => exact wm_47
  | 2, _ => exact wm_49
  | 3, _ => exact wm_51
  | 4, _ => exact wm_53
  | 5, _ => exact wm_55
  | k + 6, h => exact absurd h (by omega)
theorem inQ : ∀ w ∈ u_ws RQ TQ 9, w ∈ TB := by
  intro w hw
  obtain ⟨k, hk, rfl⟩ := List.mem_map.mp hw
  have hk := List.mem_range.mp hk
  match k, hk with
  | 0, _ => exact wm_259
  | 1, _ => exact wm_261
  | 2, _ => exact wm_263
  | 3, _ => exact wm_265
  | 4, _ => exact wm_267
  | 5, _ => exact wm_269
  | 6, _ => exact wm_271
  | 7, _ => exact wm_273
  | 8, _ => exact wm_275
  | k + 9, h => exact absurd h (by omega)
theorem inM : ∀ w ∈ u_ws RM TM 21, w ∈ TB := by
  intro w hw
  obtain ⟨k, hk, rfl⟩ := List.mem_map.mp hw
  have hk := List.mem_range.mp hk
  match k, hk with
  | 0, _ => exact wm_520
  | 1, _ => exact wm_522
  | 2, _ => exact wm_524
  | 3, _ => exact wm_526
  | 4, _ => exact wm_528
  | 5, _ => exact wm_530
  | 6, _ => exact wm_532
  | 7, _ => exact wm_534
  | 8, _ => exact wm_536
  | 9, _ => exact wm_538
  | 10, _ => exact wm_540
  | 11, _ => exact wm_542
  | 12, _ => exact wm_544
  | 13, _ => exact wm_546
  | 14, _ => exact wm_548
  | 15, _ => exact wm_550
  | 16, _ => exact wm_552
  | 17, _ => exact wm_554
  | 18, _ => exact wm_556
  | 19, _ => exact wm_558
  | 20, _ => exact wm_560
  | k + 21, h => exact absurd h (by omega)
