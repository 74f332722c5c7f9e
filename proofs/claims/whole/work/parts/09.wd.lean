/-! ===== each word of the tables by its place ===== -/
theorem wd_1_0 : (Jvm.Cond.initialized "TradeLogsLaw") ∈ WS := ws_1 0 rfl rfl
theorem wd_1_1 : (Jvm.Cond.initialized "TradeLogs") ∈ WS := ws_1 1 rfl rfl
theorem wd_1_2 : (Jvm.Cond.initialized "TradeLogs$State") ∈ WS := ws_1 2 rfl rfl
theorem wd_1_3 : (Jvm.Cond.initialized "TradeLogs$Mentor") ∈ WS := ws_1 3 rfl rfl
theorem wd_1_4 : (Jvm.Cond.initialized "TradeLogs$Apprentice") ∈ WS := ws_1 4 rfl rfl
theorem wd_1_5 : (Jvm.Cond.initialized "TradeLogs$EntryQueue") ∈ WS := ws_1 5 rfl rfl
theorem wd_1_6 : (Jvm.Cond.initialized "TradeLogs$DaySet") ∈ WS := ws_1 6 rfl rfl
theorem wd_1_7 : (Jvm.Cond.initialized "TradeLogs$UndoStack") ∈ WS := ws_1 7 rfl rfl
theorem wd_1_8 : (Jvm.Cond.initialized "TradeLogs$CommandText") ∈ WS := ws_1 8 rfl rfl
theorem wd_1_9 : (Jvm.Cond.initialized "TradeLogsModel") ∈ WS := ws_1 9 rfl rfl
theorem wd_1_10 : (Jvm.Cond.initialized "java/lang/Throwable") ∈ WS := ws_1 10 rfl rfl
theorem wd_1_11 : (Jvm.Cond.initialized "java/lang/Exception") ∈ WS := ws_1 11 rfl rfl
theorem wd_1_12 : (Jvm.Cond.initialized "java/lang/RuntimeException") ∈ WS := ws_1 12 rfl rfl
theorem wd_1_13 : (Jvm.Cond.initialized "java/lang/IndexOutOfBoundsException") ∈ WS := ws_1 13 rfl rfl
theorem wd_1_14 : (Jvm.Cond.initialized "java/lang/IllegalArgumentException") ∈ WS := ws_1 14 rfl rfl
theorem wd_1_15 : (Jvm.Cond.initialized "java/lang/IllegalStateException") ∈ WS := ws_1 15 rfl rfl
theorem wd_1_16 : (Jvm.Cond.initialized "java/lang/System") ∈ WS := ws_1 16 rfl rfl
theorem wd_1_17 : (Jvm.Cond.initialized "java/lang/Math") ∈ WS := ws_1 17 rfl rfl
theorem wd_1_18 : (Jvm.Cond.initialized "java/lang/String") ∈ WS := ws_1 18 rfl rfl
theorem wd_1_19 : (Jvm.Cond.initialized "java/lang/StringLatin1") ∈ WS := ws_1 19 rfl rfl
theorem wd_1_20 : (Jvm.Cond.initialized "jdk/internal/util/Preconditions") ∈ WS := ws_1 20 rfl rfl
theorem wd_1_21 : (Jvm.Cond.initialized "java/lang/StringUTF16") ∈ WS := ws_1 21 rfl rfl
theorem wd_1_22 : (Jvm.Cond.initialized "TradeLogs$1") ∈ WS := ws_1 22 rfl rfl
theorem wd_1_23 : (Jvm.Cond.classLink "TradeLogsLaw" (8 : Nat) "TradeLogs") ∈ WS := ws_1 23 rfl rfl
theorem wd_1_24 : (Jvm.Cond.instantiable "TradeLogs" (3 : Nat)) ∈ WS := ws_1 24 rfl rfl
theorem wd_1_25 : (Jvm.Cond.methodLink "TradeLogsLaw" (96 : Nat) ({ cls := "TradeLogs", name := "<init>", desc := "()V" } : Jvm.MethodName)) ∈ WS := ws_1 25 rfl rfl
theorem wd_1_26 : (Jvm.Cond.instanceMethod ({ cls := "TradeLogs", name := "<init>", desc := "()V" } : Jvm.MethodName)) ∈ WS := ws_1 26 rfl rfl
theorem wd_1_27 : (Jvm.Cond.code ({ cls := "TradeLogs", name := "<init>", desc := "()V" } : Jvm.MethodName) prog_1_method_1_code (1 : Nat) (Option.none : Option Jvm.ClassFile.FieldType)) ∈ WS := ws_1 27 rfl rfl
theorem wd_1_28 : (Jvm.Cond.methodLink "TradeLogs" (1 : Nat) ({ cls := "java/lang/Object", name := "<init>", desc := "()V" } : Jvm.MethodName)) ∈ WS := ws_1 28 rfl rfl
theorem wd_1_29 : (Jvm.Cond.instanceMethod ({ cls := "java/lang/Object", name := "<init>", desc := "()V" } : Jvm.MethodName)) ∈ WS := ws_1 29 rfl rfl
theorem wd_1_30 : (Jvm.Cond.code ({ cls := "java/lang/Object", name := "<init>", desc := "()V" } : Jvm.MethodName) object_method_1_code (1 : Nat) (Option.none : Option Jvm.ClassFile.FieldType)) ∈ WS := ws_1 30 rfl rfl
theorem wd_1_31 : (Jvm.Cond.classLink "TradeLogs" (7 : Nat) "TradeLogs$State") ∈ WS := ws_1 31 rfl rfl
theorem wd_1_32 : (Jvm.Cond.instantiable "TradeLogs$State" (9 : Nat)) ∈ WS := ws_1 32 rfl rfl
theorem wd_1_33 : (Jvm.Cond.methodLink "TradeLogs" (9 : Nat) ({ cls := "TradeLogs$State", name := "<init>", desc := "()V" } : Jvm.MethodName)) ∈ WS := ws_1 33 rfl rfl
theorem wd_1_34 : (Jvm.Cond.instanceMethod ({ cls := "TradeLogs$State", name := "<init>", desc := "()V" } : Jvm.MethodName)) ∈ WS := ws_1 34 rfl rfl
theorem wd_1_35 : (Jvm.Cond.code ({ cls := "TradeLogs$State", name := "<init>", desc := "()V" } : Jvm.MethodName) prog_9_method_1_code (2 : Nat) (Option.none : Option Jvm.ClassFile.FieldType)) ∈ WS := ws_1 35 rfl rfl
theorem wd_1_36 : (Jvm.Cond.methodLink "TradeLogs$State" (3 : Nat) ({ cls := "java/lang/Object", name := "<init>", desc := "()V" } : Jvm.MethodName)) ∈ WS := ws_1 36 rfl rfl
theorem wd_1_37 : (Jvm.Cond.classLink "TradeLogs$State" (9 : Nat) "[[I") ∈ WS := ws_1 37 rfl rfl
theorem wd_1_39 : (Jvm.Cond.classLink "TradeLogs$State" (16 : Nat) "TradeLogs$Mentor") ∈ WS := ws_1 39 rfl rfl
theorem wd_1_41 : (Jvm.Cond.classLink "TradeLogs$State" (22 : Nat) "TradeLogs$Apprentice") ∈ WS := ws_1 41 rfl rfl
theorem wd_1_43 : (Jvm.Cond.instantiable "TradeLogs$Mentor" (3 : Nat)) ∈ WS := ws_1 43 rfl rfl
theorem wd_1_45 : (Jvm.Cond.instanceMethod ({ cls := "TradeLogs$Mentor", name := "<init>", desc := "()V" } : Jvm.MethodName)) ∈ WS := ws_1 45 rfl rfl
theorem wd_1_46 : (Jvm.Cond.code ({ cls := "TradeLogs$Mentor", name := "<init>", desc := "()V" } : Jvm.MethodName) prog_8_method_1_code (1 : Nat) (Option.none : Option Jvm.ClassFile.FieldType)) ∈ WS := ws_1 46 rfl rfl
theorem wd_1_47 : (Jvm.Cond.methodLink "TradeLogs$Mentor" (1 : Nat) ({ cls := "java/lang/Object", name := "<init>", desc := "()V" } : Jvm.MethodName)) ∈ WS := ws_1 47 rfl rfl
theorem wd_1_48 : (Jvm.Cond.fieldLink "TradeLogs$Mentor" (7 : Nat) "TradeLogs$Mentor" "ratio" "I") ∈ WS := ws_1 48 rfl rfl
theorem wd_1_49 : (Jvm.Cond.fieldLink "TradeLogs$State" (86 : Nat) "TradeLogs$Mentor" "ratio" "I") ∈ WS := ws_1 49 rfl rfl
theorem wd_1_50 : (Jvm.Cond.fieldLink "TradeLogs$Mentor" (13 : Nat) "TradeLogs$Mentor" "trades" "I") ∈ WS := ws_1 50 rfl rfl
theorem wd_1_51 : (Jvm.Cond.fieldLink "TradeLogs$State" (76 : Nat) "TradeLogs$Mentor" "trades" "I") ∈ WS := ws_1 51 rfl rfl
theorem wd_1_52 : (Jvm.Cond.fieldLink "TradeLogs$Mentor" (16 : Nat) "TradeLogs$Mentor" "confirmed" "I") ∈ WS := ws_1 52 rfl rfl
theorem wd_1_53 : (Jvm.Cond.fieldLink "TradeLogs$State" (178 : Nat) "TradeLogs$Mentor" "confirmed" "I") ∈ WS := ws_1 53 rfl rfl
theorem wd_1_54 : (Jvm.Cond.lays "TradeLogs$Mentor" "TradeLogs$Mentor" "ratio" "I") ∈ WS := ws_1 54 rfl rfl
theorem wd_1_56 : (Jvm.Cond.lays "TradeLogs$Mentor" "TradeLogs$Mentor" "trades" "I") ∈ WS := ws_1 56 rfl rfl
theorem wd_1_58 : (Jvm.Cond.lays "TradeLogs$Mentor" "TradeLogs$Mentor" "confirmed" "I") ∈ WS := ws_1 58 rfl rfl
theorem wd_1_61 : (Jvm.Cond.arrayClass Jvm.ClassFile.FieldType.int) ∈ WS := ws_1 61 rfl rfl
theorem wd_1_62 : (Jvm.Cond.instantiable "TradeLogs$Apprentice" (11 : Nat)) ∈ WS := ws_1 62 rfl rfl
theorem wd_1_64 : (Jvm.Cond.instanceMethod ({ cls := "TradeLogs$Apprentice", name := "<init>", desc := "()V" } : Jvm.MethodName)) ∈ WS := ws_1 64 rfl rfl
theorem wd_1_65 : (Jvm.Cond.code ({ cls := "TradeLogs$Apprentice", name := "<init>", desc := "()V" } : Jvm.MethodName) prog_3_method_1_code (1 : Nat) (Option.none : Option Jvm.ClassFile.FieldType)) ∈ WS := ws_1 65 rfl rfl
theorem wd_1_66 : (Jvm.Cond.methodLink "TradeLogs$Apprentice" (3 : Nat) ({ cls := "java/lang/Object", name := "<init>", desc := "()V" } : Jvm.MethodName)) ∈ WS := ws_1 66 rfl rfl
theorem wd_1_67 : (Jvm.Cond.classLink "TradeLogs$Apprentice" (15 : Nat) "TradeLogs$EntryQueue") ∈ WS := ws_1 67 rfl rfl
theorem wd_1_68 : (Jvm.Cond.instantiable "TradeLogs$EntryQueue" (2 : Nat)) ∈ WS := ws_1 68 rfl rfl
theorem wd_1_70 : (Jvm.Cond.instanceMethod ({ cls := "TradeLogs$EntryQueue", name := "<init>", desc := "()V" } : Jvm.MethodName)) ∈ WS := ws_1 70 rfl rfl
theorem wd_1_71 : (Jvm.Cond.code ({ cls := "TradeLogs$EntryQueue", name := "<init>", desc := "()V" } : Jvm.MethodName) prog_7_method_1_code (1 : Nat) (Option.none : Option Jvm.ClassFile.FieldType)) ∈ WS := ws_1 71 rfl rfl
theorem wd_1_72 : (Jvm.Cond.methodLink "TradeLogs$EntryQueue" (3 : Nat) ({ cls := "java/lang/Object", name := "<init>", desc := "()V" } : Jvm.MethodName)) ∈ WS := ws_1 72 rfl rfl
theorem wd_1_73 : (Jvm.Cond.classLink "TradeLogs$EntryQueue" (9 : Nat) "[[I") ∈ WS := ws_1 73 rfl rfl
theorem wd_1_74 : (Jvm.Cond.fieldLink "TradeLogs$EntryQueue" (11 : Nat) "TradeLogs$EntryQueue" "columns" "[[I") ∈ WS := ws_1 74 rfl rfl
theorem wd_1_75 : (Jvm.Cond.fieldLink "TradeLogs$EntryQueue" (16 : Nat) "TradeLogs$EntryQueue" "size" "I") ∈ WS := ws_1 75 rfl rfl
theorem wd_1_76 : (Jvm.Cond.fieldLink "TradeLogs$Apprentice" (35 : Nat) "TradeLogs$EntryQueue" "size" "I") ∈ WS := ws_1 76 rfl rfl
theorem wd_1_77 : (Jvm.Cond.fieldLink "TradeLogs$State" (97 : Nat) "TradeLogs$EntryQueue" "size" "I") ∈ WS := ws_1 77 rfl rfl
theorem wd_1_78 : (Jvm.Cond.laysFinal "TradeLogs$EntryQueue" "TradeLogs$EntryQueue" "columns" "[[I") ∈ WS := ws_1 78 rfl rfl
theorem wd_1_80 : (Jvm.Cond.lays "TradeLogs$EntryQueue" "TradeLogs$EntryQueue" "size" "I") ∈ WS := ws_1 80 rfl rfl
theorem wd_1_83 : (Jvm.Cond.classLink "TradeLogs$Apprentice" (25 : Nat) "TradeLogs$DaySet") ∈ WS := ws_1 83 rfl rfl
theorem wd_1_84 : (Jvm.Cond.instantiable "TradeLogs$DaySet" (2 : Nat)) ∈ WS := ws_1 84 rfl rfl
theorem wd_1_86 : (Jvm.Cond.instanceMethod ({ cls := "TradeLogs$DaySet", name := "<init>", desc := "()V" } : Jvm.MethodName)) ∈ WS := ws_1 86 rfl rfl
theorem wd_1_87 : (Jvm.Cond.code ({ cls := "TradeLogs$DaySet", name := "<init>", desc := "()V" } : Jvm.MethodName) prog_6_method_1_code (1 : Nat) (Option.none : Option Jvm.ClassFile.FieldType)) ∈ WS := ws_1 87 rfl rfl
theorem wd_1_88 : (Jvm.Cond.methodLink "TradeLogs$DaySet" (3 : Nat) ({ cls := "java/lang/Object", name := "<init>", desc := "()V" } : Jvm.MethodName)) ∈ WS := ws_1 88 rfl rfl
theorem wd_1_89 : (Jvm.Cond.fieldLink "TradeLogs$DaySet" (11 : Nat) "TradeLogs$DaySet" "words" "[J") ∈ WS := ws_1 89 rfl rfl
theorem wd_1_90 : (Jvm.Cond.fieldLink "TradeLogs$DaySet" (19 : Nat) "TradeLogs$DaySet" "size" "I") ∈ WS := ws_1 90 rfl rfl
theorem wd_1_91 : (Jvm.Cond.fieldLink "TradeLogs$State" (170 : Nat) "TradeLogs$DaySet" "size" "I") ∈ WS := ws_1 91 rfl rfl
theorem wd_1_92 : (Jvm.Cond.laysFinal "TradeLogs$DaySet" "TradeLogs$DaySet" "words" "[J") ∈ WS := ws_1 92 rfl rfl
theorem wd_1_94 : (Jvm.Cond.lays "TradeLogs$DaySet" "TradeLogs$DaySet" "size" "I") ∈ WS := ws_1 94 rfl rfl
theorem wd_1_97 : (Jvm.Cond.arrayClass Jvm.ClassFile.FieldType.long) ∈ WS := ws_1 97 rfl rfl
theorem wd_1_98 : (Jvm.Cond.fieldLink "TradeLogs$Apprentice" (9 : Nat) "TradeLogs$Apprentice" "done" "[I") ∈ WS := ws_1 98 rfl rfl
theorem wd_1_99 : (Jvm.Cond.fieldLink "TradeLogs$Apprentice" (18 : Nat) "TradeLogs$Apprentice" "pending" "LTradeLogs$EntryQueue;") ∈ WS := ws_1 99 rfl rfl
theorem wd_1_100 : (Jvm.Cond.fieldLink "TradeLogs$State" (102 : Nat) "TradeLogs$Apprentice" "pending" "LTradeLogs$EntryQueue;") ∈ WS := ws_1 100 rfl rfl
theorem wd_1_101 : (Jvm.Cond.fieldLink "TradeLogs$Apprentice" (22 : Nat) "TradeLogs$Apprentice" "doubted" "LTradeLogs$EntryQueue;") ∈ WS := ws_1 101 rfl rfl
theorem wd_1_102 : (Jvm.Cond.fieldLink "TradeLogs$State" (93 : Nat) "TradeLogs$Apprentice" "doubted" "LTradeLogs$EntryQueue;") ∈ WS := ws_1 102 rfl rfl
theorem wd_1_103 : (Jvm.Cond.fieldLink "TradeLogs$Apprentice" (28 : Nat) "TradeLogs$Apprentice" "releases" "LTradeLogs$DaySet;") ∈ WS := ws_1 103 rfl rfl
theorem wd_1_104 : (Jvm.Cond.fieldLink "TradeLogs$State" (163 : Nat) "TradeLogs$Apprentice" "releases" "LTradeLogs$DaySet;") ∈ WS := ws_1 104 rfl rfl
theorem wd_1_105 : (Jvm.Cond.fieldLink "TradeLogs$Apprentice" (32 : Nat) "TradeLogs$Apprentice" "worked" "LTradeLogs$DaySet;") ∈ WS := ws_1 105 rfl rfl
theorem wd_1_106 : (Jvm.Cond.fieldLink "TradeLogs$State" (105 : Nat) "TradeLogs$Apprentice" "worked" "LTradeLogs$DaySet;") ∈ WS := ws_1 106 rfl rfl
theorem wd_1_107 : (Jvm.Cond.fieldLink "TradeLogs$Apprentice" (42 : Nat) "TradeLogs$Apprentice" "trade" "I") ∈ WS := ws_1 107 rfl rfl
theorem wd_1_108 : (Jvm.Cond.fieldLink "TradeLogs$State" (114 : Nat) "TradeLogs$Apprentice" "trade" "I") ∈ WS := ws_1 108 rfl rfl
theorem wd_1_109 : (Jvm.Cond.fieldLink "TradeLogs$Apprentice" (45 : Nat) "TradeLogs$Apprentice" "mentor" "I") ∈ WS := ws_1 109 rfl rfl
theorem wd_1_110 : (Jvm.Cond.fieldLink "TradeLogs$State" (79 : Nat) "TradeLogs$Apprentice" "mentor" "I") ∈ WS := ws_1 110 rfl rfl
theorem wd_1_111 : (Jvm.Cond.fieldLink "TradeLogs$Apprentice" (48 : Nat) "TradeLogs$Apprentice" "refused" "I") ∈ WS := ws_1 111 rfl rfl
theorem wd_1_112 : (Jvm.Cond.fieldLink "TradeLogs$State" (187 : Nat) "TradeLogs$Apprentice" "refused" "I") ∈ WS := ws_1 112 rfl rfl
theorem wd_1_113 : (Jvm.Cond.fieldLink "TradeLogs$Apprentice" (51 : Nat) "TradeLogs$Apprentice" "workedDays" "I") ∈ WS := ws_1 113 rfl rfl
theorem wd_1_114 : (Jvm.Cond.fieldLink "TradeLogs$State" (209 : Nat) "TradeLogs$Apprentice" "workedDays" "I") ∈ WS := ws_1 114 rfl rfl
theorem wd_1_115 : (Jvm.Cond.fieldLink "TradeLogs$Apprentice" (54 : Nat) "TradeLogs$Apprentice" "hoursToday" "I") ∈ WS := ws_1 115 rfl rfl
theorem wd_1_116 : (Jvm.Cond.fieldLink "TradeLogs$State" (196 : Nat) "TradeLogs$Apprentice" "hoursToday" "I") ∈ WS := ws_1 116 rfl rfl
theorem wd_1_117 : (Jvm.Cond.fieldLink "TradeLogs$Apprentice" (57 : Nat) "TradeLogs$Apprentice" "moves" "I") ∈ WS := ws_1 117 rfl rfl
theorem wd_1_118 : (Jvm.Cond.fieldLink "TradeLogs$State" (212 : Nat) "TradeLogs$Apprentice" "moves" "I") ∈ WS := ws_1 118 rfl rfl
theorem wd_1_119 : (Jvm.Cond.laysFinal "TradeLogs$Apprentice" "TradeLogs$Apprentice" "done" "[I") ∈ WS := ws_1 119 rfl rfl
theorem wd_1_121 : (Jvm.Cond.laysFinal "TradeLogs$Apprentice" "TradeLogs$Apprentice" "pending" "LTradeLogs$EntryQueue;") ∈ WS := ws_1 121 rfl rfl
theorem wd_1_123 : (Jvm.Cond.laysFinal "TradeLogs$Apprentice" "TradeLogs$Apprentice" "doubted" "LTradeLogs$EntryQueue;") ∈ WS := ws_1 123 rfl rfl
theorem wd_1_125 : (Jvm.Cond.laysFinal "TradeLogs$Apprentice" "TradeLogs$Apprentice" "releases" "LTradeLogs$DaySet;") ∈ WS := ws_1 125 rfl rfl
theorem wd_1_127 : (Jvm.Cond.laysFinal "TradeLogs$Apprentice" "TradeLogs$Apprentice" "worked" "LTradeLogs$DaySet;") ∈ WS := ws_1 127 rfl rfl
theorem wd_1_129 : (Jvm.Cond.lays "TradeLogs$Apprentice" "TradeLogs$Apprentice" "trade" "I") ∈ WS := ws_1 129 rfl rfl
theorem wd_1_131 : (Jvm.Cond.lays "TradeLogs$Apprentice" "TradeLogs$Apprentice" "mentor" "I") ∈ WS := ws_1 131 rfl rfl
theorem wd_1_133 : (Jvm.Cond.lays "TradeLogs$Apprentice" "TradeLogs$Apprentice" "refused" "I") ∈ WS := ws_1 133 rfl rfl
theorem wd_1_135 : (Jvm.Cond.lays "TradeLogs$Apprentice" "TradeLogs$Apprentice" "workedDays" "I") ∈ WS := ws_1 135 rfl rfl
theorem wd_1_137 : (Jvm.Cond.lays "TradeLogs$Apprentice" "TradeLogs$Apprentice" "hoursToday" "I") ∈ WS := ws_1 137 rfl rfl
theorem wd_1_139 : (Jvm.Cond.lays "TradeLogs$Apprentice" "TradeLogs$Apprentice" "moves" "I") ∈ WS := ws_1 139 rfl rfl
theorem wd_1_142 : (Jvm.Cond.fieldLink "TradeLogs$State" (11 : Nat) "TradeLogs$State" "needs" "[[I") ∈ WS := ws_1 142 rfl rfl
theorem wd_1_143 : (Jvm.Cond.fieldLink "TradeLogs$State" (18 : Nat) "TradeLogs$State" "mentors" "[LTradeLogs$Mentor;") ∈ WS := ws_1 143 rfl rfl
theorem wd_1_144 : (Jvm.Cond.fieldLink "TradeLogs$State" (24 : Nat) "TradeLogs$State" "apprentices" "[LTradeLogs$Apprentice;") ∈ WS := ws_1 144 rfl rfl
theorem wd_1_145 : (Jvm.Cond.fieldLink "TradeLogs$State" (29 : Nat) "TradeLogs$State" "noMentor" "LTradeLogs$Mentor;") ∈ WS := ws_1 145 rfl rfl
theorem wd_1_146 : (Jvm.Cond.fieldLink "TradeLogs$State" (34 : Nat) "TradeLogs$State" "noApprentice" "LTradeLogs$Apprentice;") ∈ WS := ws_1 146 rfl rfl
theorem wd_1_147 : (Jvm.Cond.fieldLink "TradeLogs$State" (38 : Nat) "TradeLogs$State" "tradeCount" "I") ∈ WS := ws_1 147 rfl rfl
theorem wd_1_148 : (Jvm.Cond.fieldLink "TradeLogs" (246 : Nat) "TradeLogs$State" "tradeCount" "I") ∈ WS := ws_1 148 rfl rfl
theorem wd_1_149 : (Jvm.Cond.fieldLink "TradeLogs$State" (42 : Nat) "TradeLogs$State" "mentorCount" "I") ∈ WS := ws_1 149 rfl rfl
theorem wd_1_150 : (Jvm.Cond.fieldLink "TradeLogs" (208 : Nat) "TradeLogs$State" "mentorCount" "I") ∈ WS := ws_1 150 rfl rfl
theorem wd_1_151 : (Jvm.Cond.fieldLink "TradeLogs$State" (45 : Nat) "TradeLogs$State" "apprenticeCount" "I") ∈ WS := ws_1 151 rfl rfl
theorem wd_1_152 : (Jvm.Cond.fieldLink "TradeLogs" (211 : Nat) "TradeLogs$State" "apprenticeCount" "I") ∈ WS := ws_1 152 rfl rfl
theorem wd_1_153 : (Jvm.Cond.fieldLink "TradeLogs$State" (48 : Nat) "TradeLogs$State" "day" "I") ∈ WS := ws_1 153 rfl rfl
theorem wd_1_154 : (Jvm.Cond.fieldLink "TradeLogs" (277 : Nat) "TradeLogs$State" "day" "I") ∈ WS := ws_1 154 rfl rfl
theorem wd_1_155 : (Jvm.Cond.laysFinal "TradeLogs$State" "TradeLogs$State" "needs" "[[I") ∈ WS := ws_1 155 rfl rfl
theorem wd_1_157 : (Jvm.Cond.laysFinal "TradeLogs$State" "TradeLogs$State" "mentors" "[LTradeLogs$Mentor;") ∈ WS := ws_1 157 rfl rfl
theorem wd_1_159 : (Jvm.Cond.laysFinal "TradeLogs$State" "TradeLogs$State" "apprentices" "[LTradeLogs$Apprentice;") ∈ WS := ws_1 159 rfl rfl
theorem wd_1_161 : (Jvm.Cond.laysFinal "TradeLogs$State" "TradeLogs$State" "noMentor" "LTradeLogs$Mentor;") ∈ WS := ws_1 161 rfl rfl
theorem wd_1_163 : (Jvm.Cond.laysFinal "TradeLogs$State" "TradeLogs$State" "noApprentice" "LTradeLogs$Apprentice;") ∈ WS := ws_1 163 rfl rfl
theorem wd_1_165 : (Jvm.Cond.lays "TradeLogs$State" "TradeLogs$State" "tradeCount" "I") ∈ WS := ws_1 165 rfl rfl
theorem wd_1_167 : (Jvm.Cond.lays "TradeLogs$State" "TradeLogs$State" "mentorCount" "I") ∈ WS := ws_1 167 rfl rfl
theorem wd_1_169 : (Jvm.Cond.lays "TradeLogs$State" "TradeLogs$State" "apprenticeCount" "I") ∈ WS := ws_1 169 rfl rfl
theorem wd_1_171 : (Jvm.Cond.lays "TradeLogs$State" "TradeLogs$State" "day" "I") ∈ WS := ws_1 171 rfl rfl
theorem wd_1_174 : (Jvm.Cond.classLink "TradeLogs" (16 : Nat) "TradeLogs$UndoStack") ∈ WS := ws_1 174 rfl rfl
theorem wd_1_175 : (Jvm.Cond.instantiable "TradeLogs$UndoStack" (3 : Nat)) ∈ WS := ws_1 175 rfl rfl
theorem wd_1_176 : (Jvm.Cond.methodLink "TradeLogs" (18 : Nat) ({ cls := "TradeLogs$UndoStack", name := "<init>", desc := "()V" } : Jvm.MethodName)) ∈ WS := ws_1 176 rfl rfl
theorem wd_1_177 : (Jvm.Cond.instanceMethod ({ cls := "TradeLogs$UndoStack", name := "<init>", desc := "()V" } : Jvm.MethodName)) ∈ WS := ws_1 177 rfl rfl
theorem wd_1_178 : (Jvm.Cond.code ({ cls := "TradeLogs$UndoStack", name := "<init>", desc := "()V" } : Jvm.MethodName) prog_10_method_1_code (2 : Nat) (Option.none : Option Jvm.ClassFile.FieldType)) ∈ WS := ws_1 178 rfl rfl
theorem wd_1_179 : (Jvm.Cond.methodLink "TradeLogs$UndoStack" (3 : Nat) ({ cls := "java/lang/Object", name := "<init>", desc := "()V" } : Jvm.MethodName)) ∈ WS := ws_1 179 rfl rfl
theorem wd_1_180 : (Jvm.Cond.classLink "TradeLogs$UndoStack" (9 : Nat) "TradeLogs$State") ∈ WS := ws_1 180 rfl rfl
theorem wd_1_182 : (Jvm.Cond.methodLink "TradeLogs$UndoStack" (17 : Nat) ({ cls := "TradeLogs$State", name := "<init>", desc := "()V" } : Jvm.MethodName)) ∈ WS := ws_1 182 rfl rfl
theorem wd_1_183 : (Jvm.Cond.fieldLink "TradeLogs$UndoStack" (11 : Nat) "TradeLogs$UndoStack" "saved" "[LTradeLogs$State;") ∈ WS := ws_1 183 rfl rfl
theorem wd_1_184 : (Jvm.Cond.fieldLink "TradeLogs$UndoStack" (18 : Nat) "TradeLogs$UndoStack" "oldest" "I") ∈ WS := ws_1 184 rfl rfl
theorem wd_1_185 : (Jvm.Cond.fieldLink "TradeLogs$UndoStack" (22 : Nat) "TradeLogs$UndoStack" "size" "I") ∈ WS := ws_1 185 rfl rfl
theorem wd_1_186 : (Jvm.Cond.fieldLink "TradeLogs" (195 : Nat) "TradeLogs$UndoStack" "size" "I") ∈ WS := ws_1 186 rfl rfl
theorem wd_1_187 : (Jvm.Cond.laysFinal "TradeLogs$UndoStack" "TradeLogs$UndoStack" "saved" "[LTradeLogs$State;") ∈ WS := ws_1 187 rfl rfl
theorem wd_1_189 : (Jvm.Cond.lays "TradeLogs$UndoStack" "TradeLogs$UndoStack" "oldest" "I") ∈ WS := ws_1 189 rfl rfl
theorem wd_1_191 : (Jvm.Cond.lays "TradeLogs$UndoStack" "TradeLogs$UndoStack" "size" "I") ∈ WS := ws_1 191 rfl rfl
theorem wd_1_194 : (Jvm.Cond.classLink "TradeLogs" (23 : Nat) "TradeLogs$CommandText") ∈ WS := ws_1 194 rfl rfl
theorem wd_1_195 : (Jvm.Cond.instantiable "TradeLogs$CommandText" (11 : Nat)) ∈ WS := ws_1 195 rfl rfl
theorem wd_1_197 : (Jvm.Cond.instanceMethod ({ cls := "TradeLogs$CommandText", name := "<init>", desc := "()V" } : Jvm.MethodName)) ∈ WS := ws_1 197 rfl rfl
theorem wd_1_198 : (Jvm.Cond.code ({ cls := "TradeLogs$CommandText", name := "<init>", desc := "()V" } : Jvm.MethodName) prog_5_method_1_code (1 : Nat) (Option.none : Option Jvm.ClassFile.FieldType)) ∈ WS := ws_1 198 rfl rfl
theorem wd_1_199 : (Jvm.Cond.methodLink "TradeLogs$CommandText" (3 : Nat) ({ cls := "java/lang/Object", name := "<init>", desc := "()V" } : Jvm.MethodName)) ∈ WS := ws_1 199 rfl rfl
theorem wd_1_200 : (Jvm.Cond.classLink "TradeLogs$CommandText" (15 : Nat) "TradeLogs$Command") ∈ WS := ws_1 200 rfl rfl
theorem wd_1_202 : (Jvm.Cond.classLink "TradeLogs$CommandText" (21 : Nat) "[[I") ∈ WS := ws_1 202 rfl rfl
theorem wd_1_203 : (Jvm.Cond.fieldLink "TradeLogs$CommandText" (9 : Nat) "TradeLogs$CommandText" "bytes" "[I") ∈ WS := ws_1 203 rfl rfl
theorem wd_1_204 : (Jvm.Cond.fieldLink "TradeLogs$CommandText" (17 : Nat) "TradeLogs$CommandText" "commands" "[LTradeLogs$Command;") ∈ WS := ws_1 204 rfl rfl
theorem wd_1_205 : (Jvm.Cond.fieldLink "TradeLogs$CommandText" (23 : Nat) "TradeLogs$CommandText" "numbers" "[[I") ∈ WS := ws_1 205 rfl rfl
theorem wd_1_206 : (Jvm.Cond.fieldLink "TradeLogs$CommandText" (26 : Nat) "TradeLogs$CommandText" "length" "I") ∈ WS := ws_1 206 rfl rfl
theorem wd_1_207 : (Jvm.Cond.fieldLink "TradeLogs" (172 : Nat) "TradeLogs$CommandText" "length" "I") ∈ WS := ws_1 207 rfl rfl
theorem wd_1_208 : (Jvm.Cond.fieldLink "TradeLogs$CommandText" (30 : Nat) "TradeLogs$CommandText" "count" "I") ∈ WS := ws_1 208 rfl rfl
theorem wd_1_209 : (Jvm.Cond.fieldLink "TradeLogs" (186 : Nat) "TradeLogs$CommandText" "count" "I") ∈ WS := ws_1 209 rfl rfl
theorem wd_1_210 : (Jvm.Cond.fieldLink "TradeLogs$CommandText" (33 : Nat) "TradeLogs$CommandText" "place" "I") ∈ WS := ws_1 210 rfl rfl
theorem wd_1_211 : (Jvm.Cond.fieldLink "TradeLogs$CommandText" (44 : Nat) "TradeLogs$CommandText" "wordStart" "I") ∈ WS := ws_1 211 rfl rfl
theorem wd_1_212 : (Jvm.Cond.fieldLink "TradeLogs$CommandText" (89 : Nat) "TradeLogs$CommandText" "numbersDue" "I") ∈ WS := ws_1 212 rfl rfl
theorem wd_1_213 : (Jvm.Cond.fieldLink "TradeLogs$CommandText" (86 : Nat) "TradeLogs$CommandText" "numbersRead" "I") ∈ WS := ws_1 213 rfl rfl
theorem wd_1_214 : (Jvm.Cond.fieldLink "TradeLogs$CommandText" (80 : Nat) "TradeLogs$CommandText" "digits" "I") ∈ WS := ws_1 214 rfl rfl
theorem wd_1_215 : (Jvm.Cond.fieldLink "TradeLogs$CommandText" (77 : Nat) "TradeLogs$CommandText" "number" "I") ∈ WS := ws_1 215 rfl rfl
theorem wd_1_216 : (Jvm.Cond.laysFinal "TradeLogs$CommandText" "TradeLogs$CommandText" "bytes" "[I") ∈ WS := ws_1 216 rfl rfl
theorem wd_1_218 : (Jvm.Cond.laysFinal "TradeLogs$CommandText" "TradeLogs$CommandText" "commands" "[LTradeLogs$Command;") ∈ WS := ws_1 218 rfl rfl
theorem wd_1_220 : (Jvm.Cond.laysFinal "TradeLogs$CommandText" "TradeLogs$CommandText" "numbers" "[[I") ∈ WS := ws_1 220 rfl rfl
theorem wd_1_222 : (Jvm.Cond.lays "TradeLogs$CommandText" "TradeLogs$CommandText" "length" "I") ∈ WS := ws_1 222 rfl rfl
theorem wd_1_224 : (Jvm.Cond.lays "TradeLogs$CommandText" "TradeLogs$CommandText" "count" "I") ∈ WS := ws_1 224 rfl rfl
theorem wd_1_226 : (Jvm.Cond.lays "TradeLogs$CommandText" "TradeLogs$CommandText" "place" "I") ∈ WS := ws_1 226 rfl rfl
theorem wd_1_228 : (Jvm.Cond.lays "TradeLogs$CommandText" "TradeLogs$CommandText" "wordStart" "I") ∈ WS := ws_1 228 rfl rfl
theorem wd_1_230 : (Jvm.Cond.lays "TradeLogs$CommandText" "TradeLogs$CommandText" "numbersDue" "I") ∈ WS := ws_1 230 rfl rfl
theorem wd_1_232 : (Jvm.Cond.lays "TradeLogs$CommandText" "TradeLogs$CommandText" "numbersRead" "I") ∈ WS := ws_1 232 rfl rfl
theorem wd_1_234 : (Jvm.Cond.lays "TradeLogs$CommandText" "TradeLogs$CommandText" "digits" "I") ∈ WS := ws_1 234 rfl rfl
theorem wd_1_236 : (Jvm.Cond.lays "TradeLogs$CommandText" "TradeLogs$CommandText" "number" "I") ∈ WS := ws_1 236 rfl rfl
theorem wd_1_239 : (Jvm.Cond.fieldLink "TradeLogs" (10 : Nat) "TradeLogs" "state" "LTradeLogs$State;") ∈ WS := ws_1 239 rfl rfl
theorem wd_2_0 : (Jvm.Cond.fieldLink "TradeLogs" (19 : Nat) "TradeLogs" "undoStack" "LTradeLogs$UndoStack;") ∈ WS := ws_2 0 rfl rfl
theorem wd_2_1 : (Jvm.Cond.fieldLink "TradeLogs" (26 : Nat) "TradeLogs" "commandText" "LTradeLogs$CommandText;") ∈ WS := ws_2 1 rfl rfl
theorem wd_2_2 : (Jvm.Cond.laysFinal "TradeLogs" "TradeLogs" "state" "LTradeLogs$State;") ∈ WS := ws_2 2 rfl rfl
theorem wd_2_4 : (Jvm.Cond.laysFinal "TradeLogs" "TradeLogs" "undoStack" "LTradeLogs$UndoStack;") ∈ WS := ws_2 4 rfl rfl
theorem wd_2_6 : (Jvm.Cond.laysFinal "TradeLogs" "TradeLogs" "commandText" "LTradeLogs$CommandText;") ∈ WS := ws_2 6 rfl rfl
theorem wd_2_9 : (Jvm.Cond.methodLink "TradeLogsLaw" (183 : Nat) ({ cls := "TradeLogs", name := "clearCommands", desc := "()I" } : Jvm.MethodName)) ∈ WS := ws_2 9 rfl rfl
theorem wd_2_10 : (Jvm.Cond.instanceMethod ({ cls := "TradeLogs", name := "clearCommands", desc := "()I" } : Jvm.MethodName)) ∈ WS := ws_2 10 rfl rfl
theorem wd_2_11 : (Jvm.Cond.selects "TradeLogs" ({ cls := "TradeLogs", name := "clearCommands", desc := "()I" } : Jvm.MethodName) ({ cls := "TradeLogs", name := "clearCommands", desc := "()I" } : Jvm.MethodName)) ∈ WS := ws_2 11 rfl rfl
theorem wd_2_12 : (Jvm.Cond.code ({ cls := "TradeLogs", name := "clearCommands", desc := "()I" } : Jvm.MethodName) prog_1_method_26_code (1 : Nat) (Option.some Jvm.ClassFile.FieldType.int)) ∈ WS := ws_2 12 rfl rfl
theorem wd_2_13 : (Jvm.Cond.methodLink "TradeLogs" (179 : Nat) ({ cls := "TradeLogs$CommandText", name := "empty", desc := "()I" } : Jvm.MethodName)) ∈ WS := ws_2 13 rfl rfl
theorem wd_2_14 : (Jvm.Cond.instanceMethod ({ cls := "TradeLogs$CommandText", name := "empty", desc := "()I" } : Jvm.MethodName)) ∈ WS := ws_2 14 rfl rfl
theorem wd_2_15 : (Jvm.Cond.selects "TradeLogs$CommandText" ({ cls := "TradeLogs$CommandText", name := "empty", desc := "()I" } : Jvm.MethodName) ({ cls := "TradeLogs$CommandText", name := "empty", desc := "()I" } : Jvm.MethodName)) ∈ WS := ws_2 15 rfl rfl
theorem wd_2_16 : (Jvm.Cond.code ({ cls := "TradeLogs$CommandText", name := "empty", desc := "()I" } : Jvm.MethodName) prog_5_method_3_code (2 : Nat) (Option.some Jvm.ClassFile.FieldType.int)) ∈ WS := ws_2 16 rfl rfl
theorem wd_2_17 : (Jvm.Cond.methodLink "TradeLogsLaw" (187 : Nat) ({ cls := "TradeLogs", name := "runCommands", desc := "()I" } : Jvm.MethodName)) ∈ WS := ws_2 17 rfl rfl
theorem wd_2_18 : (Jvm.Cond.instanceMethod ({ cls := "TradeLogs", name := "runCommands", desc := "()I" } : Jvm.MethodName)) ∈ WS := ws_2 18 rfl rfl
theorem wd_2_19 : (Jvm.Cond.selects "TradeLogs" ({ cls := "TradeLogs", name := "runCommands", desc := "()I" } : Jvm.MethodName) ({ cls := "TradeLogs", name := "runCommands", desc := "()I" } : Jvm.MethodName)) ∈ WS := ws_2 19 rfl rfl
theorem wd_2_20 : (Jvm.Cond.code ({ cls := "TradeLogs", name := "runCommands", desc := "()I" } : Jvm.MethodName) prog_1_method_27_code (4 : Nat) (Option.some Jvm.ClassFile.FieldType.int)) ∈ WS := ws_2 20 rfl rfl
theorem wd_2_21 : (Jvm.Cond.methodLink "TradeLogs" (183 : Nat) ({ cls := "TradeLogs$CommandText", name := "readCommands", desc := "()I" } : Jvm.MethodName)) ∈ WS := ws_2 21 rfl rfl
theorem wd_2_22 : (Jvm.Cond.instanceMethod ({ cls := "TradeLogs$CommandText", name := "readCommands", desc := "()I" } : Jvm.MethodName)) ∈ WS := ws_2 22 rfl rfl
theorem wd_2_23 : (Jvm.Cond.selects "TradeLogs$CommandText" ({ cls := "TradeLogs$CommandText", name := "readCommands", desc := "()I" } : Jvm.MethodName) ({ cls := "TradeLogs$CommandText", name := "readCommands", desc := "()I" } : Jvm.MethodName)) ∈ WS := ws_2 23 rfl rfl
theorem wd_2_24 : (Jvm.Cond.code ({ cls := "TradeLogs$CommandText", name := "readCommands", desc := "()I" } : Jvm.MethodName) prog_5_method_6_code (3 : Nat) (Option.some Jvm.ClassFile.FieldType.int)) ∈ WS := ws_2 24 rfl rfl
theorem wd_2_25 : (Jvm.Cond.methodLink "TradeLogs$CommandText" (36 : Nat) ({ cls := "TradeLogs$CommandText", name := "readByte", desc := "(II)I" } : Jvm.MethodName)) ∈ WS := ws_2 25 rfl rfl
theorem wd_2_27 : (Jvm.Cond.instanceMethod ({ cls := "TradeLogs$CommandText", name := "readByte", desc := "(II)I" } : Jvm.MethodName)) ∈ WS := ws_2 27 rfl rfl
theorem wd_2_28 : (Jvm.Cond.code ({ cls := "TradeLogs$CommandText", name := "readByte", desc := "(II)I" } : Jvm.MethodName) prog_5_method_8_code (3 : Nat) (Option.some Jvm.ClassFile.FieldType.int)) ∈ WS := ws_2 28 rfl rfl
theorem wd_2_29 : (Jvm.Cond.methodLink "TradeLogs$CommandText" (51 : Nat) ({ cls := "TradeLogs$CommandText", name := "readBeforeWord", desc := "(II)I" } : Jvm.MethodName)) ∈ WS := ws_2 29 rfl rfl
theorem wd_2_31 : (Jvm.Cond.instanceMethod ({ cls := "TradeLogs$CommandText", name := "readBeforeWord", desc := "(II)I" } : Jvm.MethodName)) ∈ WS := ws_2 31 rfl rfl
theorem wd_2_32 : (Jvm.Cond.code ({ cls := "TradeLogs$CommandText", name := "readBeforeWord", desc := "(II)I" } : Jvm.MethodName) prog_5_method_9_code (3 : Nat) (Option.some Jvm.ClassFile.FieldType.int)) ∈ WS := ws_2 32 rfl rfl
theorem wd_2_33 : (Jvm.Cond.methodLink "TradeLogs$CommandText" (66 : Nat) ({ cls := "TradeLogs$CommandText", name := "isLetter", desc := "(I)Z" } : Jvm.MethodName)) ∈ WS := ws_2 33 rfl rfl
theorem wd_2_34 : (Jvm.Cond.static ({ cls := "TradeLogs$CommandText", name := "isLetter", desc := "(I)Z" } : Jvm.MethodName)) ∈ WS := ws_2 34 rfl rfl
theorem wd_2_35 : (Jvm.Cond.code ({ cls := "TradeLogs$CommandText", name := "isLetter", desc := "(I)Z" } : Jvm.MethodName) prog_5_method_18_code (1 : Nat) (Option.some Jvm.ClassFile.FieldType.boolean)) ∈ WS := ws_2 35 rfl rfl
theorem wd_2_36 : (Jvm.Cond.methodLink "TradeLogs$CommandText" (54 : Nat) ({ cls := "TradeLogs$CommandText", name := "readInWord", desc := "(II)I" } : Jvm.MethodName)) ∈ WS := ws_2 36 rfl rfl
theorem wd_2_38 : (Jvm.Cond.instanceMethod ({ cls := "TradeLogs$CommandText", name := "readInWord", desc := "(II)I" } : Jvm.MethodName)) ∈ WS := ws_2 38 rfl rfl
theorem wd_2_39 : (Jvm.Cond.code ({ cls := "TradeLogs$CommandText", name := "readInWord", desc := "(II)I" } : Jvm.MethodName) prog_5_method_10_code (4 : Nat) (Option.some Jvm.ClassFile.FieldType.int)) ∈ WS := ws_2 39 rfl rfl
theorem wd_2_40 : (Jvm.Cond.methodLink "TradeLogs$CommandText" (47 : Nat) ({ cls := "TradeLogs$CommandText", name := "commandOf", desc := "(II)LTradeLogs$Command;" } : Jvm.MethodName)) ∈ WS := ws_2 40 rfl rfl
theorem wd_2_42 : (Jvm.Cond.instanceMethod ({ cls := "TradeLogs$CommandText", name := "commandOf", desc := "(II)LTradeLogs$Command;" } : Jvm.MethodName)) ∈ WS := ws_2 42 rfl rfl
theorem wd_2_43 : (Jvm.Cond.code ({ cls := "TradeLogs$CommandText", name := "commandOf", desc := "(II)LTradeLogs$Command;" } : Jvm.MethodName) prog_5_method_16_code (4 : Nat) (Option.some (Jvm.ClassFile.FieldType.object "TradeLogs$Command"))) ∈ WS := ws_2 43 rfl rfl
theorem wd_2_44 : (Jvm.Cond.fieldLink "TradeLogs$CommandText" (94 : Nat) "TradeLogs$CommandText" "COMMANDS" "[LTradeLogs$Command;") ∈ WS := ws_2 44 rfl rfl
theorem wd_2_46 : (Jvm.Cond.methodLink "TradeLogs$CommandText" (101 : Nat) ({ cls := "TradeLogs$CommandText", name := "isWord", desc := "(Ljava/lang/String;II)Z" } : Jvm.MethodName)) ∈ WS := ws_2 46 rfl rfl
theorem wd_2_48 : (Jvm.Cond.instanceMethod ({ cls := "TradeLogs$CommandText", name := "isWord", desc := "(Ljava/lang/String;II)Z" } : Jvm.MethodName)) ∈ WS := ws_2 48 rfl rfl
theorem wd_2_49 : (Jvm.Cond.code ({ cls := "TradeLogs$CommandText", name := "isWord", desc := "(Ljava/lang/String;II)Z" } : Jvm.MethodName) prog_5_method_17_code (5 : Nat) (Option.some Jvm.ClassFile.FieldType.boolean)) ∈ WS := ws_2 49 rfl rfl
theorem wd_2_50 : (Jvm.Cond.methodLink "TradeLogs$CommandText" (105 : Nat) ({ cls := "java/lang/String", name := "length", desc := "()I" } : Jvm.MethodName)) ∈ WS := ws_2 50 rfl rfl
theorem wd_2_51 : (Jvm.Cond.instanceMethod ({ cls := "java/lang/String", name := "length", desc := "()I" } : Jvm.MethodName)) ∈ WS := ws_2 51 rfl rfl
theorem wd_2_52 : (Jvm.Cond.selects "java/lang/String" ({ cls := "java/lang/String", name := "length", desc := "()I" } : Jvm.MethodName) ({ cls := "java/lang/String", name := "length", desc := "()I" } : Jvm.MethodName)) ∈ WS := ws_2 52 rfl rfl
theorem wd_2_53 : (Jvm.Cond.code ({ cls := "java/lang/String", name := "length", desc := "()I" } : Jvm.MethodName) prog_20_method_54_code (1 : Nat) (Option.some Jvm.ClassFile.FieldType.int)) ∈ WS := ws_2 53 rfl rfl
theorem wd_2_54 : (Jvm.Cond.methodLink "java/lang/String" (335 : Nat) ({ cls := "java/lang/String", name := "coder", desc := "()B" } : Jvm.MethodName)) ∈ WS := ws_2 54 rfl rfl
theorem wd_2_55 : (Jvm.Cond.instanceMethod ({ cls := "java/lang/String", name := "coder", desc := "()B" } : Jvm.MethodName)) ∈ WS := ws_2 55 rfl rfl
theorem wd_2_56 : (Jvm.Cond.selects "java/lang/String" ({ cls := "java/lang/String", name := "coder", desc := "()B" } : Jvm.MethodName) ({ cls := "java/lang/String", name := "coder", desc := "()B" } : Jvm.MethodName)) ∈ WS := ws_2 56 rfl rfl
theorem wd_2_57 : (Jvm.Cond.code ({ cls := "java/lang/String", name := "coder", desc := "()B" } : Jvm.MethodName) prog_20_method_152_code (1 : Nat) (Option.some Jvm.ClassFile.FieldType.byte)) ∈ WS := ws_2 57 rfl rfl
theorem wd_2_58 : (Jvm.Cond.fieldLink "java/lang/String" (38 : Nat) "java/lang/String" "COMPACT_STRINGS" "Z") ∈ WS := ws_2 58 rfl rfl
theorem wd_2_60 : (Jvm.Cond.methodLink "TradeLogs$CommandText" (109 : Nat) ({ cls := "java/lang/String", name := "charAt", desc := "(I)C" } : Jvm.MethodName)) ∈ WS := ws_2 60 rfl rfl
theorem wd_2_61 : (Jvm.Cond.instanceMethod ({ cls := "java/lang/String", name := "charAt", desc := "(I)C" } : Jvm.MethodName)) ∈ WS := ws_2 61 rfl rfl
theorem wd_2_62 : (Jvm.Cond.selects "java/lang/String" ({ cls := "java/lang/String", name := "charAt", desc := "(I)C" } : Jvm.MethodName) ({ cls := "java/lang/String", name := "charAt", desc := "(I)C" } : Jvm.MethodName)) ∈ WS := ws_2 62 rfl rfl
theorem wd_2_63 : (Jvm.Cond.code ({ cls := "java/lang/String", name := "charAt", desc := "(I)C" } : Jvm.MethodName) prog_20_method_56_code (2 : Nat) (Option.some Jvm.ClassFile.FieldType.char)) ∈ WS := ws_2 63 rfl rfl
theorem wd_2_64 : (Jvm.Cond.methodLink "java/lang/String" (492 : Nat) ({ cls := "java/lang/String", name := "isLatin1", desc := "()Z" } : Jvm.MethodName)) ∈ WS := ws_2 64 rfl rfl
theorem wd_2_65 : (Jvm.Cond.instanceMethod ({ cls := "java/lang/String", name := "isLatin1", desc := "()Z" } : Jvm.MethodName)) ∈ WS := ws_2 65 rfl rfl
theorem wd_2_66 : (Jvm.Cond.selects "java/lang/String" ({ cls := "java/lang/String", name := "isLatin1", desc := "()Z" } : Jvm.MethodName) ({ cls := "java/lang/String", name := "isLatin1", desc := "()Z" } : Jvm.MethodName)) ∈ WS := ws_2 66 rfl rfl
theorem wd_2_67 : (Jvm.Cond.code ({ cls := "java/lang/String", name := "isLatin1", desc := "()Z" } : Jvm.MethodName) prog_20_method_154_code (1 : Nat) (Option.some Jvm.ClassFile.FieldType.boolean)) ∈ WS := ws_2 67 rfl rfl
theorem wd_2_68 : (Jvm.Cond.methodLink "java/lang/String" (495 : Nat) ({ cls := "java/lang/StringLatin1", name := "charAt", desc := "([BI)C" } : Jvm.MethodName)) ∈ WS := ws_2 68 rfl rfl
theorem wd_2_69 : (Jvm.Cond.static ({ cls := "java/lang/StringLatin1", name := "charAt", desc := "([BI)C" } : Jvm.MethodName)) ∈ WS := ws_2 69 rfl rfl
theorem wd_2_70 : (Jvm.Cond.code ({ cls := "java/lang/StringLatin1", name := "charAt", desc := "([BI)C" } : Jvm.MethodName) prog_21_method_2_code (2 : Nat) (Option.some Jvm.ClassFile.FieldType.char)) ∈ WS := ws_2 70 rfl rfl
theorem wd_2_71 : (Jvm.Cond.methodLink "java/lang/StringLatin1" (9 : Nat) ({ cls := "java/lang/String", name := "checkIndex", desc := "(II)V" } : Jvm.MethodName)) ∈ WS := ws_2 71 rfl rfl
theorem wd_2_72 : (Jvm.Cond.static ({ cls := "java/lang/String", name := "checkIndex", desc := "(II)V" } : Jvm.MethodName)) ∈ WS := ws_2 72 rfl rfl
theorem wd_2_73 : (Jvm.Cond.code ({ cls := "java/lang/String", name := "checkIndex", desc := "(II)V" } : Jvm.MethodName) prog_20_method_155_code (2 : Nat) (Option.none : Option Jvm.ClassFile.FieldType)) ∈ WS := ws_2 73 rfl rfl
theorem wd_2_74 : (Jvm.Cond.fieldLink "java/lang/String" (1053 : Nat) "jdk/internal/util/Preconditions" "SIOOBE_FORMATTER" "Ljava/util/function/BiFunction;") ∈ WS := ws_2 74 rfl rfl
theorem wd_2_76 : (Jvm.Cond.methodLink "java/lang/String" (1059 : Nat) ({ cls := "jdk/internal/util/Preconditions", name := "checkIndex", desc := "(IILjava/util/function/BiFunction;)I" } : Jvm.MethodName)) ∈ WS := ws_2 76 rfl rfl
theorem wd_2_77 : (Jvm.Cond.static ({ cls := "jdk/internal/util/Preconditions", name := "checkIndex", desc := "(IILjava/util/function/BiFunction;)I" } : Jvm.MethodName)) ∈ WS := ws_2 77 rfl rfl
theorem wd_2_78 : (Jvm.Cond.code ({ cls := "jdk/internal/util/Preconditions", name := "checkIndex", desc := "(IILjava/util/function/BiFunction;)I" } : Jvm.MethodName) prog_25_method_11_code (3 : Nat) (Option.some Jvm.ClassFile.FieldType.int)) ∈ WS := ws_2 78 rfl rfl
theorem wd_2_79 : (Jvm.Cond.methodLink "java/lang/String" (498 : Nat) ({ cls := "java/lang/StringUTF16", name := "charAt", desc := "([BI)C" } : Jvm.MethodName)) ∈ WS := ws_2 79 rfl rfl
theorem wd_2_80 : (Jvm.Cond.static ({ cls := "java/lang/StringUTF16", name := "charAt", desc := "([BI)C" } : Jvm.MethodName)) ∈ WS := ws_2 80 rfl rfl
theorem wd_2_81 : (Jvm.Cond.code ({ cls := "java/lang/StringUTF16", name := "charAt", desc := "([BI)C" } : Jvm.MethodName) prog_22_method_83_code (2 : Nat) (Option.some Jvm.ClassFile.FieldType.char)) ∈ WS := ws_2 81 rfl rfl
theorem wd_2_82 : (Jvm.Cond.methodLink "java/lang/StringUTF16" (67 : Nat) ({ cls := "java/lang/StringUTF16", name := "checkIndex", desc := "(I[B)V" } : Jvm.MethodName)) ∈ WS := ws_2 82 rfl rfl
theorem wd_2_83 : (Jvm.Cond.static ({ cls := "java/lang/StringUTF16", name := "checkIndex", desc := "(I[B)V" } : Jvm.MethodName)) ∈ WS := ws_2 83 rfl rfl
theorem wd_2_84 : (Jvm.Cond.code ({ cls := "java/lang/StringUTF16", name := "checkIndex", desc := "(I[B)V" } : Jvm.MethodName) prog_22_method_91_code (2 : Nat) (Option.none : Option Jvm.ClassFile.FieldType)) ∈ WS := ws_2 84 rfl rfl
theorem wd_2_85 : (Jvm.Cond.methodLink "java/lang/StringUTF16" (48 : Nat) ({ cls := "java/lang/StringUTF16", name := "length", desc := "([B)I" } : Jvm.MethodName)) ∈ WS := ws_2 85 rfl rfl
theorem wd_2_86 : (Jvm.Cond.static ({ cls := "java/lang/StringUTF16", name := "length", desc := "([B)I" } : Jvm.MethodName)) ∈ WS := ws_2 86 rfl rfl
theorem wd_2_87 : (Jvm.Cond.code ({ cls := "java/lang/StringUTF16", name := "length", desc := "([B)I" } : Jvm.MethodName) prog_22_method_6_code (1 : Nat) (Option.some Jvm.ClassFile.FieldType.int)) ∈ WS := ws_2 87 rfl rfl
theorem wd_2_88 : (Jvm.Cond.methodLink "java/lang/StringUTF16" (414 : Nat) ({ cls := "java/lang/String", name := "checkIndex", desc := "(II)V" } : Jvm.MethodName)) ∈ WS := ws_2 88 rfl rfl
theorem wd_2_89 : (Jvm.Cond.methodLink "java/lang/StringUTF16" (71 : Nat) ({ cls := "java/lang/StringUTF16", name := "getChar", desc := "([BI)C" } : Jvm.MethodName)) ∈ WS := ws_2 89 rfl rfl
theorem wd_2_90 : (Jvm.Cond.static ({ cls := "java/lang/StringUTF16", name := "getChar", desc := "([BI)C" } : Jvm.MethodName)) ∈ WS := ws_2 90 rfl rfl
theorem wd_2_91 : (Jvm.Cond.code ({ cls := "java/lang/StringUTF16", name := "getChar", desc := "([BI)C" } : Jvm.MethodName) prog_22_method_5_code (2 : Nat) (Option.some Jvm.ClassFile.FieldType.char)) ∈ WS := ws_2 91 rfl rfl
theorem wd_2_92 : (Jvm.Cond.fieldLink "java/lang/StringUTF16" (44 : Nat) "java/lang/StringUTF16" "$assertionsDisabled" "Z") ∈ WS := ws_2 92 rfl rfl
theorem wd_2_94 : (Jvm.Cond.fieldLink "java/lang/StringUTF16" (59 : Nat) "java/lang/StringUTF16" "HI_BYTE_SHIFT" "I") ∈ WS := ws_2 94 rfl rfl
theorem wd_2_96 : (Jvm.Cond.fieldLink "java/lang/StringUTF16" (63 : Nat) "java/lang/StringUTF16" "LO_BYTE_SHIFT" "I") ∈ WS := ws_2 96 rfl rfl
theorem wd_2_98 : (Jvm.Cond.methodLink "TradeLogs$CommandText" (70 : Nat) ({ cls := "TradeLogs$CommandText", name := "beginCommand", desc := "(LTradeLogs$Command;)V" } : Jvm.MethodName)) ∈ WS := ws_2 98 rfl rfl
theorem wd_2_100 : (Jvm.Cond.instanceMethod ({ cls := "TradeLogs$CommandText", name := "beginCommand", desc := "(LTradeLogs$Command;)V" } : Jvm.MethodName)) ∈ WS := ws_2 100 rfl rfl
theorem wd_2_101 : (Jvm.Cond.code ({ cls := "TradeLogs$CommandText", name := "beginCommand", desc := "(LTradeLogs$Command;)V" } : Jvm.MethodName) prog_5_method_14_code (2 : Nat) (Option.none : Option Jvm.ClassFile.FieldType)) ∈ WS := ws_2 101 rfl rfl
theorem wd_2_102 : (Jvm.Cond.methodLink "TradeLogs$CommandText" (57 : Nat) ({ cls := "TradeLogs$CommandText", name := "readBeforeNumber", desc := "(II)I" } : Jvm.MethodName)) ∈ WS := ws_2 102 rfl rfl
theorem wd_2_104 : (Jvm.Cond.instanceMethod ({ cls := "TradeLogs$CommandText", name := "readBeforeNumber", desc := "(II)I" } : Jvm.MethodName)) ∈ WS := ws_2 104 rfl rfl
theorem wd_2_105 : (Jvm.Cond.code ({ cls := "TradeLogs$CommandText", name := "readBeforeNumber", desc := "(II)I" } : Jvm.MethodName) prog_5_method_11_code (3 : Nat) (Option.some Jvm.ClassFile.FieldType.int)) ∈ WS := ws_2 105 rfl rfl
theorem wd_2_106 : (Jvm.Cond.methodLink "TradeLogs$CommandText" (74 : Nat) ({ cls := "TradeLogs$CommandText", name := "isDigit", desc := "(I)Z" } : Jvm.MethodName)) ∈ WS := ws_2 106 rfl rfl
theorem wd_2_107 : (Jvm.Cond.static ({ cls := "TradeLogs$CommandText", name := "isDigit", desc := "(I)Z" } : Jvm.MethodName)) ∈ WS := ws_2 107 rfl rfl
theorem wd_2_108 : (Jvm.Cond.code ({ cls := "TradeLogs$CommandText", name := "isDigit", desc := "(I)Z" } : Jvm.MethodName) prog_5_method_19_code (1 : Nat) (Option.some Jvm.ClassFile.FieldType.boolean)) ∈ WS := ws_2 108 rfl rfl
theorem wd_2_109 : (Jvm.Cond.methodLink "TradeLogs$CommandText" (60 : Nat) ({ cls := "TradeLogs$CommandText", name := "readInNumber", desc := "(II)I" } : Jvm.MethodName)) ∈ WS := ws_2 109 rfl rfl
theorem wd_2_111 : (Jvm.Cond.instanceMethod ({ cls := "TradeLogs$CommandText", name := "readInNumber", desc := "(II)I" } : Jvm.MethodName)) ∈ WS := ws_2 111 rfl rfl
theorem wd_2_112 : (Jvm.Cond.code ({ cls := "TradeLogs$CommandText", name := "readInNumber", desc := "(II)I" } : Jvm.MethodName) prog_5_method_12_code (3 : Nat) (Option.some Jvm.ClassFile.FieldType.int)) ∈ WS := ws_2 112 rfl rfl
theorem wd_2_113 : (Jvm.Cond.methodLink "TradeLogs$CommandText" (83 : Nat) ({ cls := "TradeLogs$CommandText", name := "keepNumber", desc := "()V" } : Jvm.MethodName)) ∈ WS := ws_2 113 rfl rfl
theorem wd_2_115 : (Jvm.Cond.instanceMethod ({ cls := "TradeLogs$CommandText", name := "keepNumber", desc := "()V" } : Jvm.MethodName)) ∈ WS := ws_2 115 rfl rfl
theorem wd_2_116 : (Jvm.Cond.code ({ cls := "TradeLogs$CommandText", name := "keepNumber", desc := "()V" } : Jvm.MethodName) prog_5_method_15_code (1 : Nat) (Option.none : Option Jvm.ClassFile.FieldType)) ∈ WS := ws_2 116 rfl rfl
theorem wd_2_117 : (Jvm.Cond.methodLink "TradeLogs$CommandText" (63 : Nat) ({ cls := "TradeLogs$CommandText", name := "readBehindNumbers", desc := "(II)I" } : Jvm.MethodName)) ∈ WS := ws_2 117 rfl rfl
theorem wd_2_119 : (Jvm.Cond.instanceMethod ({ cls := "TradeLogs$CommandText", name := "readBehindNumbers", desc := "(II)I" } : Jvm.MethodName)) ∈ WS := ws_2 119 rfl rfl
theorem wd_2_120 : (Jvm.Cond.code ({ cls := "TradeLogs$CommandText", name := "readBehindNumbers", desc := "(II)I" } : Jvm.MethodName) prog_5_method_13_code (3 : Nat) (Option.some Jvm.ClassFile.FieldType.int)) ∈ WS := ws_2 120 rfl rfl
theorem wd_2_121 : (Jvm.Cond.methodLink "TradeLogs$CommandText" (40 : Nat) ({ cls := "TradeLogs$CommandText", name := "faultOfEnd", desc := "()I" } : Jvm.MethodName)) ∈ WS := ws_2 121 rfl rfl
theorem wd_2_123 : (Jvm.Cond.instanceMethod ({ cls := "TradeLogs$CommandText", name := "faultOfEnd", desc := "()I" } : Jvm.MethodName)) ∈ WS := ws_2 123 rfl rfl
theorem wd_2_124 : (Jvm.Cond.code ({ cls := "TradeLogs$CommandText", name := "faultOfEnd", desc := "()I" } : Jvm.MethodName) prog_5_method_7_code (1 : Nat) (Option.some Jvm.ClassFile.FieldType.int)) ∈ WS := ws_2 124 rfl rfl
theorem wd_2_125 : (Jvm.Cond.methodLink "TradeLogs" (38 : Nat) ({ cls := "TradeLogs$UndoStack", name := "save", desc := "(LTradeLogs$State;)V" } : Jvm.MethodName)) ∈ WS := ws_2 125 rfl rfl
theorem wd_2_126 : (Jvm.Cond.instanceMethod ({ cls := "TradeLogs$UndoStack", name := "save", desc := "(LTradeLogs$State;)V" } : Jvm.MethodName)) ∈ WS := ws_2 126 rfl rfl
theorem wd_2_127 : (Jvm.Cond.selects "TradeLogs$UndoStack" ({ cls := "TradeLogs$UndoStack", name := "save", desc := "(LTradeLogs$State;)V" } : Jvm.MethodName) ({ cls := "TradeLogs$UndoStack", name := "save", desc := "(LTradeLogs$State;)V" } : Jvm.MethodName)) ∈ WS := ws_2 127 rfl rfl
theorem wd_2_128 : (Jvm.Cond.code ({ cls := "TradeLogs$UndoStack", name := "save", desc := "(LTradeLogs$State;)V" } : Jvm.MethodName) prog_10_method_2_code (2 : Nat) (Option.none : Option Jvm.ClassFile.FieldType)) ∈ WS := ws_2 128 rfl rfl
theorem wd_2_129 : (Jvm.Cond.methodLink "TradeLogs$UndoStack" (25 : Nat) ({ cls := "TradeLogs$State", name := "copyState", desc := "(LTradeLogs$State;)V" } : Jvm.MethodName)) ∈ WS := ws_2 129 rfl rfl
theorem wd_2_130 : (Jvm.Cond.instanceMethod ({ cls := "TradeLogs$State", name := "copyState", desc := "(LTradeLogs$State;)V" } : Jvm.MethodName)) ∈ WS := ws_2 130 rfl rfl
theorem wd_2_131 : (Jvm.Cond.selects "TradeLogs$State" ({ cls := "TradeLogs$State", name := "copyState", desc := "(LTradeLogs$State;)V" } : Jvm.MethodName) ({ cls := "TradeLogs$State", name := "copyState", desc := "(LTradeLogs$State;)V" } : Jvm.MethodName)) ∈ WS := ws_2 131 rfl rfl
theorem wd_2_132 : (Jvm.Cond.code ({ cls := "TradeLogs$State", name := "copyState", desc := "(LTradeLogs$State;)V" } : Jvm.MethodName) prog_9_method_2_code (3 : Nat) (Option.none : Option Jvm.ClassFile.FieldType)) ∈ WS := ws_2 132 rfl rfl
theorem wd_2_133 : (Jvm.Cond.methodLink "TradeLogs$State" (51 : Nat) ({ cls := "java/lang/System", name := "arraycopy", desc := "(Ljava/lang/Object;ILjava/lang/Object;II)V" } : Jvm.MethodName)) ∈ WS := ws_2 133 rfl rfl
theorem wd_2_134 : (Jvm.Cond.static ({ cls := "java/lang/System", name := "arraycopy", desc := "(Ljava/lang/Object;ILjava/lang/Object;II)V" } : Jvm.MethodName)) ∈ WS := ws_2 134 rfl rfl
theorem wd_2_135 : (Jvm.Cond.native ({ cls := "java/lang/System", name := "arraycopy", desc := "(Ljava/lang/Object;ILjava/lang/Object;II)V" } : Jvm.MethodName)) ∈ WS := ws_2 135 rfl rfl
theorem wd_2_136 : (Jvm.Cond.methodLink "TradeLogs$State" (57 : Nat) ({ cls := "TradeLogs$Mentor", name := "copyMentor", desc := "(LTradeLogs$Mentor;)V" } : Jvm.MethodName)) ∈ WS := ws_2 136 rfl rfl
theorem wd_2_137 : (Jvm.Cond.instanceMethod ({ cls := "TradeLogs$Mentor", name := "copyMentor", desc := "(LTradeLogs$Mentor;)V" } : Jvm.MethodName)) ∈ WS := ws_2 137 rfl rfl
theorem wd_2_138 : (Jvm.Cond.selects "TradeLogs$Mentor" ({ cls := "TradeLogs$Mentor", name := "copyMentor", desc := "(LTradeLogs$Mentor;)V" } : Jvm.MethodName) ({ cls := "TradeLogs$Mentor", name := "copyMentor", desc := "(LTradeLogs$Mentor;)V" } : Jvm.MethodName)) ∈ WS := ws_2 138 rfl rfl
theorem wd_2_139 : (Jvm.Cond.code ({ cls := "TradeLogs$Mentor", name := "copyMentor", desc := "(LTradeLogs$Mentor;)V" } : Jvm.MethodName) prog_8_method_3_code (2 : Nat) (Option.none : Option Jvm.ClassFile.FieldType)) ∈ WS := ws_2 139 rfl rfl
theorem wd_2_140 : (Jvm.Cond.methodLink "TradeLogs$State" (61 : Nat) ({ cls := "TradeLogs$Apprentice", name := "copyApprentice", desc := "(LTradeLogs$Apprentice;)V" } : Jvm.MethodName)) ∈ WS := ws_2 140 rfl rfl
theorem wd_2_141 : (Jvm.Cond.instanceMethod ({ cls := "TradeLogs$Apprentice", name := "copyApprentice", desc := "(LTradeLogs$Apprentice;)V" } : Jvm.MethodName)) ∈ WS := ws_2 141 rfl rfl
theorem wd_2_142 : (Jvm.Cond.selects "TradeLogs$Apprentice" ({ cls := "TradeLogs$Apprentice", name := "copyApprentice", desc := "(LTradeLogs$Apprentice;)V" } : Jvm.MethodName) ({ cls := "TradeLogs$Apprentice", name := "copyApprentice", desc := "(LTradeLogs$Apprentice;)V" } : Jvm.MethodName)) ∈ WS := ws_2 142 rfl rfl
theorem wd_2_143 : (Jvm.Cond.code ({ cls := "TradeLogs$Apprentice", name := "copyApprentice", desc := "(LTradeLogs$Apprentice;)V" } : Jvm.MethodName) prog_3_method_14_code (2 : Nat) (Option.none : Option Jvm.ClassFile.FieldType)) ∈ WS := ws_2 143 rfl rfl
theorem wd_2_144 : (Jvm.Cond.methodLink "TradeLogs$Apprentice" (103 : Nat) ({ cls := "java/lang/System", name := "arraycopy", desc := "(Ljava/lang/Object;ILjava/lang/Object;II)V" } : Jvm.MethodName)) ∈ WS := ws_2 144 rfl rfl
theorem wd_2_145 : (Jvm.Cond.methodLink "TradeLogs$Apprentice" (109 : Nat) ({ cls := "TradeLogs$EntryQueue", name := "copyEntries", desc := "(LTradeLogs$EntryQueue;)V" } : Jvm.MethodName)) ∈ WS := ws_2 145 rfl rfl
theorem wd_2_146 : (Jvm.Cond.instanceMethod ({ cls := "TradeLogs$EntryQueue", name := "copyEntries", desc := "(LTradeLogs$EntryQueue;)V" } : Jvm.MethodName)) ∈ WS := ws_2 146 rfl rfl
theorem wd_2_147 : (Jvm.Cond.selects "TradeLogs$EntryQueue" ({ cls := "TradeLogs$EntryQueue", name := "copyEntries", desc := "(LTradeLogs$EntryQueue;)V" } : Jvm.MethodName) ({ cls := "TradeLogs$EntryQueue", name := "copyEntries", desc := "(LTradeLogs$EntryQueue;)V" } : Jvm.MethodName)) ∈ WS := ws_2 147 rfl rfl
theorem wd_2_148 : (Jvm.Cond.code ({ cls := "TradeLogs$EntryQueue", name := "copyEntries", desc := "(LTradeLogs$EntryQueue;)V" } : Jvm.MethodName) prog_7_method_9_code (3 : Nat) (Option.none : Option Jvm.ClassFile.FieldType)) ∈ WS := ws_2 148 rfl rfl
theorem wd_2_149 : (Jvm.Cond.methodLink "TradeLogs$EntryQueue" (20 : Nat) ({ cls := "java/lang/System", name := "arraycopy", desc := "(Ljava/lang/Object;ILjava/lang/Object;II)V" } : Jvm.MethodName)) ∈ WS := ws_2 149 rfl rfl
theorem wd_2_150 : (Jvm.Cond.methodLink "TradeLogs$Apprentice" (113 : Nat) ({ cls := "TradeLogs$DaySet", name := "copyDays", desc := "(LTradeLogs$DaySet;)V" } : Jvm.MethodName)) ∈ WS := ws_2 150 rfl rfl
theorem wd_2_151 : (Jvm.Cond.instanceMethod ({ cls := "TradeLogs$DaySet", name := "copyDays", desc := "(LTradeLogs$DaySet;)V" } : Jvm.MethodName)) ∈ WS := ws_2 151 rfl rfl
theorem wd_2_152 : (Jvm.Cond.selects "TradeLogs$DaySet" ({ cls := "TradeLogs$DaySet", name := "copyDays", desc := "(LTradeLogs$DaySet;)V" } : Jvm.MethodName) ({ cls := "TradeLogs$DaySet", name := "copyDays", desc := "(LTradeLogs$DaySet;)V" } : Jvm.MethodName)) ∈ WS := ws_2 152 rfl rfl
theorem wd_2_153 : (Jvm.Cond.code ({ cls := "TradeLogs$DaySet", name := "copyDays", desc := "(LTradeLogs$DaySet;)V" } : Jvm.MethodName) prog_6_method_6_code (2 : Nat) (Option.none : Option Jvm.ClassFile.FieldType)) ∈ WS := ws_2 153 rfl rfl
theorem wd_2_154 : (Jvm.Cond.methodLink "TradeLogs$DaySet" (29 : Nat) ({ cls := "java/lang/System", name := "arraycopy", desc := "(Ljava/lang/Object;ILjava/lang/Object;II)V" } : Jvm.MethodName)) ∈ WS := ws_2 154 rfl rfl
theorem wd_2_155 : (Jvm.Cond.methodLink "TradeLogs" (189 : Nat) ({ cls := "TradeLogs", name := "faultOfCommand", desc := "(I)I" } : Jvm.MethodName)) ∈ WS := ws_2 155 rfl rfl
theorem wd_2_157 : (Jvm.Cond.instanceMethod ({ cls := "TradeLogs", name := "faultOfCommand", desc := "(I)I" } : Jvm.MethodName)) ∈ WS := ws_2 157 rfl rfl
theorem wd_2_158 : (Jvm.Cond.code ({ cls := "TradeLogs", name := "faultOfCommand", desc := "(I)I" } : Jvm.MethodName) prog_1_method_51_code (6 : Nat) (Option.some Jvm.ClassFile.FieldType.int)) ∈ WS := ws_2 158 rfl rfl
theorem wd_2_159 : (Jvm.Cond.methodLink "TradeLogs" (280 : Nat) ({ cls := "TradeLogs$CommandText", name := "commandAt", desc := "(I)LTradeLogs$Command;" } : Jvm.MethodName)) ∈ WS := ws_2 159 rfl rfl
theorem wd_2_160 : (Jvm.Cond.instanceMethod ({ cls := "TradeLogs$CommandText", name := "commandAt", desc := "(I)LTradeLogs$Command;" } : Jvm.MethodName)) ∈ WS := ws_2 160 rfl rfl
theorem wd_2_161 : (Jvm.Cond.selects "TradeLogs$CommandText" ({ cls := "TradeLogs$CommandText", name := "commandAt", desc := "(I)LTradeLogs$Command;" } : Jvm.MethodName) ({ cls := "TradeLogs$CommandText", name := "commandAt", desc := "(I)LTradeLogs$Command;" } : Jvm.MethodName)) ∈ WS := ws_2 161 rfl rfl
theorem wd_2_162 : (Jvm.Cond.code ({ cls := "TradeLogs$CommandText", name := "commandAt", desc := "(I)LTradeLogs$Command;" } : Jvm.MethodName) prog_5_method_4_code (2 : Nat) (Option.some (Jvm.ClassFile.FieldType.object "TradeLogs$Command"))) ∈ WS := ws_2 162 rfl rfl
theorem wd_2_163 : (Jvm.Cond.methodLink "TradeLogs" (284 : Nat) ({ cls := "TradeLogs$CommandText", name := "numberAt", desc := "(II)I" } : Jvm.MethodName)) ∈ WS := ws_2 163 rfl rfl
theorem wd_2_164 : (Jvm.Cond.instanceMethod ({ cls := "TradeLogs$CommandText", name := "numberAt", desc := "(II)I" } : Jvm.MethodName)) ∈ WS := ws_2 164 rfl rfl
theorem wd_2_165 : (Jvm.Cond.selects "TradeLogs$CommandText" ({ cls := "TradeLogs$CommandText", name := "numberAt", desc := "(II)I" } : Jvm.MethodName) ({ cls := "TradeLogs$CommandText", name := "numberAt", desc := "(II)I" } : Jvm.MethodName)) ∈ WS := ws_2 165 rfl rfl
theorem wd_2_166 : (Jvm.Cond.code ({ cls := "TradeLogs$CommandText", name := "numberAt", desc := "(II)I" } : Jvm.MethodName) prog_5_method_5_code (4 : Nat) (Option.some Jvm.ClassFile.FieldType.int)) ∈ WS := ws_2 166 rfl rfl
theorem wd_2_167 : (Jvm.Cond.fieldLink "TradeLogs" (287 : Nat) "TradeLogs$1" "$SwitchMap$TradeLogs$Command" "[I") ∈ WS := ws_2 167 rfl rfl
theorem wd_2_169 : (Jvm.Cond.methodLink "TradeLogs" (293 : Nat) ({ cls := "TradeLogs$Command", name := "ordinal", desc := "()I" } : Jvm.MethodName)) ∈ WS := ws_2 169 rfl rfl
theorem wd_2_172 : (Jvm.Cond.selects "TradeLogs$Command" ({ cls := "TradeLogs$Command", name := "ordinal", desc := "()I" } : Jvm.MethodName) ({ cls := "java/lang/Enum", name := "ordinal", desc := "()I" } : Jvm.MethodName)) ∈ WS := ws_2 172 rfl rfl
theorem wd_2_173 : (Jvm.Cond.instanceMethod ({ cls := "java/lang/Enum", name := "ordinal", desc := "()I" } : Jvm.MethodName)) ∈ WS := ws_2 173 rfl rfl
theorem wd_2_174 : (Jvm.Cond.code ({ cls := "java/lang/Enum", name := "ordinal", desc := "()I" } : Jvm.MethodName) prog_13_method_2_code (1 : Nat) (Option.some Jvm.ClassFile.FieldType.int)) ∈ WS := ws_2 174 rfl rfl
theorem wd_2_175 : (Jvm.Cond.methodLink "TradeLogs" (30 : Nat) ({ cls := "TradeLogs", name := "faultOfTrade", desc := "(III)I" } : Jvm.MethodName)) ∈ WS := ws_2 175 rfl rfl
theorem wd_2_177 : (Jvm.Cond.instanceMethod ({ cls := "TradeLogs", name := "faultOfTrade", desc := "(III)I" } : Jvm.MethodName)) ∈ WS := ws_2 177 rfl rfl
theorem wd_2_178 : (Jvm.Cond.code ({ cls := "TradeLogs", name := "faultOfTrade", desc := "(III)I" } : Jvm.MethodName) prog_1_method_37_code (4 : Nat) (Option.some Jvm.ClassFile.FieldType.int)) ∈ WS := ws_2 178 rfl rfl
theorem wd_2_179 : (Jvm.Cond.methodLink "TradeLogs" (130 : Nat) ({ cls := "TradeLogs", name := "isWithin", desc := "(III)Z" } : Jvm.MethodName)) ∈ WS := ws_2 179 rfl rfl
theorem wd_2_180 : (Jvm.Cond.static ({ cls := "TradeLogs", name := "isWithin", desc := "(III)Z" } : Jvm.MethodName)) ∈ WS := ws_2 180 rfl rfl
theorem wd_2_181 : (Jvm.Cond.code ({ cls := "TradeLogs", name := "isWithin", desc := "(III)Z" } : Jvm.MethodName) prog_1_method_35_code (3 : Nat) (Option.some Jvm.ClassFile.FieldType.boolean)) ∈ WS := ws_2 181 rfl rfl
theorem wd_2_182 : (Jvm.Cond.methodLink "TradeLogs" (45 : Nat) ({ cls := "TradeLogs", name := "faultOfMentor", desc := "(II)I" } : Jvm.MethodName)) ∈ WS := ws_2 182 rfl rfl
theorem wd_2_184 : (Jvm.Cond.instanceMethod ({ cls := "TradeLogs", name := "faultOfMentor", desc := "(II)I" } : Jvm.MethodName)) ∈ WS := ws_2 184 rfl rfl
theorem wd_2_185 : (Jvm.Cond.code ({ cls := "TradeLogs", name := "faultOfMentor", desc := "(II)I" } : Jvm.MethodName) prog_1_method_38_code (3 : Nat) (Option.some Jvm.ClassFile.FieldType.int)) ∈ WS := ws_2 185 rfl rfl
theorem wd_2_186 : (Jvm.Cond.methodLink "TradeLogs" (52 : Nat) ({ cls := "TradeLogs", name := "faultOfApprentice", desc := "(II)I" } : Jvm.MethodName)) ∈ WS := ws_2 186 rfl rfl
theorem wd_2_188 : (Jvm.Cond.instanceMethod ({ cls := "TradeLogs", name := "faultOfApprentice", desc := "(II)I" } : Jvm.MethodName)) ∈ WS := ws_2 188 rfl rfl
theorem wd_2_189 : (Jvm.Cond.code ({ cls := "TradeLogs", name := "faultOfApprentice", desc := "(II)I" } : Jvm.MethodName) prog_1_method_39_code (3 : Nat) (Option.some Jvm.ClassFile.FieldType.int)) ∈ WS := ws_2 189 rfl rfl
theorem wd_2_190 : (Jvm.Cond.methodLink "TradeLogs" (249 : Nat) ({ cls := "TradeLogs$State", name := "hasTrade", desc := "(I)Z" } : Jvm.MethodName)) ∈ WS := ws_2 190 rfl rfl
theorem wd_2_191 : (Jvm.Cond.instanceMethod ({ cls := "TradeLogs$State", name := "hasTrade", desc := "(I)Z" } : Jvm.MethodName)) ∈ WS := ws_2 191 rfl rfl
theorem wd_2_192 : (Jvm.Cond.selects "TradeLogs$State" ({ cls := "TradeLogs$State", name := "hasTrade", desc := "(I)Z" } : Jvm.MethodName) ({ cls := "TradeLogs$State", name := "hasTrade", desc := "(I)Z" } : Jvm.MethodName)) ∈ WS := ws_2 192 rfl rfl
theorem wd_2_193 : (Jvm.Cond.code ({ cls := "TradeLogs$State", name := "hasTrade", desc := "(I)Z" } : Jvm.MethodName) prog_9_method_3_code (2 : Nat) (Option.some Jvm.ClassFile.FieldType.boolean)) ∈ WS := ws_2 193 rfl rfl
theorem wd_2_194 : (Jvm.Cond.methodLink "TradeLogs" (126 : Nat) ({ cls := "TradeLogs$State", name := "hasMentor", desc := "(I)Z" } : Jvm.MethodName)) ∈ WS := ws_2 194 rfl rfl
theorem wd_2_195 : (Jvm.Cond.instanceMethod ({ cls := "TradeLogs$State", name := "hasMentor", desc := "(I)Z" } : Jvm.MethodName)) ∈ WS := ws_2 195 rfl rfl
theorem wd_2_196 : (Jvm.Cond.selects "TradeLogs$State" ({ cls := "TradeLogs$State", name := "hasMentor", desc := "(I)Z" } : Jvm.MethodName) ({ cls := "TradeLogs$State", name := "hasMentor", desc := "(I)Z" } : Jvm.MethodName)) ∈ WS := ws_2 196 rfl rfl
theorem wd_2_197 : (Jvm.Cond.code ({ cls := "TradeLogs$State", name := "hasMentor", desc := "(I)Z" } : Jvm.MethodName) prog_9_method_4_code (2 : Nat) (Option.some Jvm.ClassFile.FieldType.boolean)) ∈ WS := ws_2 197 rfl rfl
theorem wd_2_198 : (Jvm.Cond.methodLink "TradeLogs" (252 : Nat) ({ cls := "TradeLogs$State", name := "teaches", desc := "(II)Z" } : Jvm.MethodName)) ∈ WS := ws_2 198 rfl rfl
theorem wd_2_199 : (Jvm.Cond.instanceMethod ({ cls := "TradeLogs$State", name := "teaches", desc := "(II)Z" } : Jvm.MethodName)) ∈ WS := ws_2 199 rfl rfl
theorem wd_2_200 : (Jvm.Cond.selects "TradeLogs$State" ({ cls := "TradeLogs$State", name := "teaches", desc := "(II)Z" } : Jvm.MethodName) ({ cls := "TradeLogs$State", name := "teaches", desc := "(II)Z" } : Jvm.MethodName)) ∈ WS := ws_2 200 rfl rfl
theorem wd_2_201 : (Jvm.Cond.code ({ cls := "TradeLogs$State", name := "teaches", desc := "(II)Z" } : Jvm.MethodName) prog_9_method_8_code (3 : Nat) (Option.some Jvm.ClassFile.FieldType.boolean)) ∈ WS := ws_2 201 rfl rfl
theorem wd_2_202 : (Jvm.Cond.methodLink "TradeLogs$State" (72 : Nat) ({ cls := "TradeLogs$State", name := "mentorAt", desc := "(I)LTradeLogs$Mentor;" } : Jvm.MethodName)) ∈ WS := ws_2 202 rfl rfl
theorem wd_2_204 : (Jvm.Cond.instanceMethod ({ cls := "TradeLogs$State", name := "mentorAt", desc := "(I)LTradeLogs$Mentor;" } : Jvm.MethodName)) ∈ WS := ws_2 204 rfl rfl
theorem wd_2_205 : (Jvm.Cond.code ({ cls := "TradeLogs$State", name := "mentorAt", desc := "(I)LTradeLogs$Mentor;" } : Jvm.MethodName) prog_9_method_7_code (2 : Nat) (Option.some (Jvm.ClassFile.FieldType.object "TradeLogs$Mentor"))) ∈ WS := ws_2 205 rfl rfl
theorem wd_2_206 : (Jvm.Cond.methodLink "TradeLogs$State" (69 : Nat) ({ cls := "TradeLogs$State", name := "hasMentor", desc := "(I)Z" } : Jvm.MethodName)) ∈ WS := ws_2 206 rfl rfl
theorem wd_2_207 : (Jvm.Cond.methodLink "TradeLogs" (255 : Nat) ({ cls := "TradeLogs$State", name := "isFull", desc := "(I)Z" } : Jvm.MethodName)) ∈ WS := ws_2 207 rfl rfl
theorem wd_2_208 : (Jvm.Cond.instanceMethod ({ cls := "TradeLogs$State", name := "isFull", desc := "(I)Z" } : Jvm.MethodName)) ∈ WS := ws_2 208 rfl rfl
theorem wd_2_209 : (Jvm.Cond.selects "TradeLogs$State" ({ cls := "TradeLogs$State", name := "isFull", desc := "(I)Z" } : Jvm.MethodName) ({ cls := "TradeLogs$State", name := "isFull", desc := "(I)Z" } : Jvm.MethodName)) ∈ WS := ws_2 209 rfl rfl
theorem wd_2_210 : (Jvm.Cond.code ({ cls := "TradeLogs$State", name := "isFull", desc := "(I)Z" } : Jvm.MethodName) prog_9_method_10_code (2 : Nat) (Option.some Jvm.ClassFile.FieldType.boolean)) ∈ WS := ws_2 210 rfl rfl
theorem wd_2_211 : (Jvm.Cond.methodLink "TradeLogs$State" (82 : Nat) ({ cls := "TradeLogs$State", name := "apprenticesOf", desc := "(I)I" } : Jvm.MethodName)) ∈ WS := ws_2 211 rfl rfl
theorem wd_2_212 : (Jvm.Cond.instanceMethod ({ cls := "TradeLogs$State", name := "apprenticesOf", desc := "(I)I" } : Jvm.MethodName)) ∈ WS := ws_2 212 rfl rfl
theorem wd_2_213 : (Jvm.Cond.selects "TradeLogs$State" ({ cls := "TradeLogs$State", name := "apprenticesOf", desc := "(I)I" } : Jvm.MethodName) ({ cls := "TradeLogs$State", name := "apprenticesOf", desc := "(I)I" } : Jvm.MethodName)) ∈ WS := ws_2 213 rfl rfl
theorem wd_2_214 : (Jvm.Cond.code ({ cls := "TradeLogs$State", name := "apprenticesOf", desc := "(I)I" } : Jvm.MethodName) prog_9_method_9_code (4 : Nat) (Option.some Jvm.ClassFile.FieldType.int)) ∈ WS := ws_2 214 rfl rfl
theorem wd_2_215 : (Jvm.Cond.methodLink "TradeLogs" (64 : Nat) ({ cls := "TradeLogs", name := "faultOfLog", desc := "(III)I" } : Jvm.MethodName)) ∈ WS := ws_2 215 rfl rfl
theorem wd_2_217 : (Jvm.Cond.instanceMethod ({ cls := "TradeLogs", name := "faultOfLog", desc := "(III)I" } : Jvm.MethodName)) ∈ WS := ws_2 217 rfl rfl
theorem wd_2_218 : (Jvm.Cond.code ({ cls := "TradeLogs", name := "faultOfLog", desc := "(III)I" } : Jvm.MethodName) prog_1_method_41_code (4 : Nat) (Option.some Jvm.ClassFile.FieldType.int)) ∈ WS := ws_2 218 rfl rfl
theorem wd_2_219 : (Jvm.Cond.methodLink "TradeLogs" (137 : Nat) ({ cls := "TradeLogs$State", name := "hasApprentice", desc := "(I)Z" } : Jvm.MethodName)) ∈ WS := ws_2 219 rfl rfl
theorem wd_2_220 : (Jvm.Cond.instanceMethod ({ cls := "TradeLogs$State", name := "hasApprentice", desc := "(I)Z" } : Jvm.MethodName)) ∈ WS := ws_2 220 rfl rfl
theorem wd_2_221 : (Jvm.Cond.selects "TradeLogs$State" ({ cls := "TradeLogs$State", name := "hasApprentice", desc := "(I)Z" } : Jvm.MethodName) ({ cls := "TradeLogs$State", name := "hasApprentice", desc := "(I)Z" } : Jvm.MethodName)) ∈ WS := ws_2 221 rfl rfl
theorem wd_2_222 : (Jvm.Cond.code ({ cls := "TradeLogs$State", name := "hasApprentice", desc := "(I)Z" } : Jvm.MethodName) prog_9_method_5_code (2 : Nat) (Option.some Jvm.ClassFile.FieldType.boolean)) ∈ WS := ws_2 222 rfl rfl
theorem wd_2_223 : (Jvm.Cond.methodLink "TradeLogs" (143 : Nat) ({ cls := "TradeLogs", name := "isPart", desc := "(I)Z" } : Jvm.MethodName)) ∈ WS := ws_2 223 rfl rfl
theorem wd_2_224 : (Jvm.Cond.static ({ cls := "TradeLogs", name := "isPart", desc := "(I)Z" } : Jvm.MethodName)) ∈ WS := ws_2 224 rfl rfl
theorem wd_2_225 : (Jvm.Cond.code ({ cls := "TradeLogs", name := "isPart", desc := "(I)Z" } : Jvm.MethodName) prog_1_method_36_code (1 : Nat) (Option.some Jvm.ClassFile.FieldType.boolean)) ∈ WS := ws_2 225 rfl rfl
theorem wd_2_226 : (Jvm.Cond.methodLink "TradeLogs" (261 : Nat) ({ cls := "TradeLogs$State", name := "canWork", desc := "(II)Z" } : Jvm.MethodName)) ∈ WS := ws_2 226 rfl rfl
theorem wd_2_227 : (Jvm.Cond.instanceMethod ({ cls := "TradeLogs$State", name := "canWork", desc := "(II)Z" } : Jvm.MethodName)) ∈ WS := ws_2 227 rfl rfl
theorem wd_2_228 : (Jvm.Cond.selects "TradeLogs$State" ({ cls := "TradeLogs$State", name := "canWork", desc := "(II)Z" } : Jvm.MethodName) ({ cls := "TradeLogs$State", name := "canWork", desc := "(II)Z" } : Jvm.MethodName)) ∈ WS := ws_2 228 rfl rfl
theorem wd_2_229 : (Jvm.Cond.code ({ cls := "TradeLogs$State", name := "canWork", desc := "(II)Z" } : Jvm.MethodName) prog_9_method_17_code (3 : Nat) (Option.some Jvm.ClassFile.FieldType.boolean)) ∈ WS := ws_2 229 rfl rfl
theorem wd_2_230 : (Jvm.Cond.methodLink "TradeLogs$State" (89 : Nat) ({ cls := "TradeLogs$State", name := "apprenticeAt", desc := "(I)LTradeLogs$Apprentice;" } : Jvm.MethodName)) ∈ WS := ws_2 230 rfl rfl
theorem wd_2_232 : (Jvm.Cond.instanceMethod ({ cls := "TradeLogs$State", name := "apprenticeAt", desc := "(I)LTradeLogs$Apprentice;" } : Jvm.MethodName)) ∈ WS := ws_2 232 rfl rfl
theorem wd_2_233 : (Jvm.Cond.code ({ cls := "TradeLogs$State", name := "apprenticeAt", desc := "(I)LTradeLogs$Apprentice;" } : Jvm.MethodName) prog_9_method_6_code (2 : Nat) (Option.some (Jvm.ClassFile.FieldType.object "TradeLogs$Apprentice"))) ∈ WS := ws_2 233 rfl rfl
theorem wd_2_234 : (Jvm.Cond.methodLink "TradeLogs$State" (65 : Nat) ({ cls := "TradeLogs$State", name := "hasApprentice", desc := "(I)Z" } : Jvm.MethodName)) ∈ WS := ws_2 234 rfl rfl
theorem wd_2_235 : (Jvm.Cond.methodLink "TradeLogs$State" (133 : Nat) ({ cls := "TradeLogs$Apprentice", name := "hasRoomFor", desc := "(II)Z" } : Jvm.MethodName)) ∈ WS := ws_2 235 rfl rfl
theorem wd_2_236 : (Jvm.Cond.instanceMethod ({ cls := "TradeLogs$Apprentice", name := "hasRoomFor", desc := "(II)Z" } : Jvm.MethodName)) ∈ WS := ws_2 236 rfl rfl
theorem wd_2_237 : (Jvm.Cond.selects "TradeLogs$Apprentice" ({ cls := "TradeLogs$Apprentice", name := "hasRoomFor", desc := "(II)Z" } : Jvm.MethodName) ({ cls := "TradeLogs$Apprentice", name := "hasRoomFor", desc := "(II)Z" } : Jvm.MethodName)) ∈ WS := ws_2 237 rfl rfl
theorem wd_2_238 : (Jvm.Cond.code ({ cls := "TradeLogs$Apprentice", name := "hasRoomFor", desc := "(II)Z" } : Jvm.MethodName) prog_3_method_6_code (3 : Nat) (Option.some Jvm.ClassFile.FieldType.boolean)) ∈ WS := ws_2 238 rfl rfl
theorem wd_2_239 : (Jvm.Cond.methodLink "TradeLogs$Apprentice" (66 : Nat) ({ cls := "TradeLogs$DaySet", name := "has", desc := "(I)Z" } : Jvm.MethodName)) ∈ WS := ws_2 239 rfl rfl
theorem wd_3_0 : (Jvm.Cond.instanceMethod ({ cls := "TradeLogs$DaySet", name := "has", desc := "(I)Z" } : Jvm.MethodName)) ∈ WS := ws_3 0 rfl rfl
theorem wd_3_1 : (Jvm.Cond.selects "TradeLogs$DaySet" ({ cls := "TradeLogs$DaySet", name := "has", desc := "(I)Z" } : Jvm.MethodName) ({ cls := "TradeLogs$DaySet", name := "has", desc := "(I)Z" } : Jvm.MethodName)) ∈ WS := ws_3 1 rfl rfl
theorem wd_3_2 : (Jvm.Cond.code ({ cls := "TradeLogs$DaySet", name := "has", desc := "(I)Z" } : Jvm.MethodName) prog_6_method_2_code (2 : Nat) (Option.some Jvm.ClassFile.FieldType.boolean)) ∈ WS := ws_3 2 rfl rfl
theorem wd_3_3 : (Jvm.Cond.methodLink "TradeLogs" (70 : Nat) ({ cls := "TradeLogs", name := "faultOfConfirm", desc := "(II)I" } : Jvm.MethodName)) ∈ WS := ws_3 3 rfl rfl
theorem wd_3_5 : (Jvm.Cond.instanceMethod ({ cls := "TradeLogs", name := "faultOfConfirm", desc := "(II)I" } : Jvm.MethodName)) ∈ WS := ws_3 5 rfl rfl
theorem wd_3_6 : (Jvm.Cond.code ({ cls := "TradeLogs", name := "faultOfConfirm", desc := "(II)I" } : Jvm.MethodName) prog_1_method_42_code (3 : Nat) (Option.some Jvm.ClassFile.FieldType.int)) ∈ WS := ws_3 6 rfl rfl
theorem wd_3_7 : (Jvm.Cond.methodLink "TradeLogs" (264 : Nat) ({ cls := "TradeLogs$State", name := "canConfirm", desc := "(II)Z" } : Jvm.MethodName)) ∈ WS := ws_3 7 rfl rfl
theorem wd_3_8 : (Jvm.Cond.instanceMethod ({ cls := "TradeLogs$State", name := "canConfirm", desc := "(II)Z" } : Jvm.MethodName)) ∈ WS := ws_3 8 rfl rfl
theorem wd_3_9 : (Jvm.Cond.selects "TradeLogs$State" ({ cls := "TradeLogs$State", name := "canConfirm", desc := "(II)Z" } : Jvm.MethodName) ({ cls := "TradeLogs$State", name := "canConfirm", desc := "(II)Z" } : Jvm.MethodName)) ∈ WS := ws_3 9 rfl rfl
theorem wd_3_10 : (Jvm.Cond.code ({ cls := "TradeLogs$State", name := "canConfirm", desc := "(II)Z" } : Jvm.MethodName) prog_9_method_18_code (6 : Nat) (Option.some Jvm.ClassFile.FieldType.boolean)) ∈ WS := ws_3 10 rfl rfl
theorem wd_3_11 : (Jvm.Cond.methodLink "TradeLogs$State" (137 : Nat) ({ cls := "TradeLogs$Apprentice", name := "canTakeFirst", desc := "(I)Z" } : Jvm.MethodName)) ∈ WS := ws_3 11 rfl rfl
theorem wd_3_12 : (Jvm.Cond.instanceMethod ({ cls := "TradeLogs$Apprentice", name := "canTakeFirst", desc := "(I)Z" } : Jvm.MethodName)) ∈ WS := ws_3 12 rfl rfl
theorem wd_3_13 : (Jvm.Cond.selects "TradeLogs$Apprentice" ({ cls := "TradeLogs$Apprentice", name := "canTakeFirst", desc := "(I)Z" } : Jvm.MethodName) ({ cls := "TradeLogs$Apprentice", name := "canTakeFirst", desc := "(I)Z" } : Jvm.MethodName)) ∈ WS := ws_3 13 rfl rfl
theorem wd_3_14 : (Jvm.Cond.code ({ cls := "TradeLogs$Apprentice", name := "canTakeFirst", desc := "(I)Z" } : Jvm.MethodName) prog_3_method_8_code (3 : Nat) (Option.some Jvm.ClassFile.FieldType.boolean)) ∈ WS := ws_3 14 rfl rfl
theorem wd_3_15 : (Jvm.Cond.methodLink "TradeLogs$Apprentice" (78 : Nat) ({ cls := "TradeLogs$EntryQueue", name := "hoursOfFirst", desc := "(III)I" } : Jvm.MethodName)) ∈ WS := ws_3 15 rfl rfl
theorem wd_3_16 : (Jvm.Cond.instanceMethod ({ cls := "TradeLogs$EntryQueue", name := "hoursOfFirst", desc := "(III)I" } : Jvm.MethodName)) ∈ WS := ws_3 16 rfl rfl
theorem wd_3_17 : (Jvm.Cond.selects "TradeLogs$EntryQueue" ({ cls := "TradeLogs$EntryQueue", name := "hoursOfFirst", desc := "(III)I" } : Jvm.MethodName) ({ cls := "TradeLogs$EntryQueue", name := "hoursOfFirst", desc := "(III)I" } : Jvm.MethodName)) ∈ WS := ws_3 17 rfl rfl
theorem wd_3_18 : (Jvm.Cond.code ({ cls := "TradeLogs$EntryQueue", name := "hoursOfFirst", desc := "(III)I" } : Jvm.MethodName) prog_7_method_8_code (7 : Nat) (Option.some Jvm.ClassFile.FieldType.int)) ∈ WS := ws_3 18 rfl rfl
theorem wd_3_19 : (Jvm.Cond.methodLink "TradeLogs$EntryQueue" (26 : Nat) ({ cls := "TradeLogs$EntryQueue", name := "valueAt", desc := "(II)I" } : Jvm.MethodName)) ∈ WS := ws_3 19 rfl rfl
theorem wd_3_20 : (Jvm.Cond.instanceMethod ({ cls := "TradeLogs$EntryQueue", name := "valueAt", desc := "(II)I" } : Jvm.MethodName)) ∈ WS := ws_3 20 rfl rfl
theorem wd_3_21 : (Jvm.Cond.selects "TradeLogs$EntryQueue" ({ cls := "TradeLogs$EntryQueue", name := "valueAt", desc := "(II)I" } : Jvm.MethodName) ({ cls := "TradeLogs$EntryQueue", name := "valueAt", desc := "(II)I" } : Jvm.MethodName)) ∈ WS := ws_3 21 rfl rfl
theorem wd_3_22 : (Jvm.Cond.code ({ cls := "TradeLogs$EntryQueue", name := "valueAt", desc := "(II)I" } : Jvm.MethodName) prog_7_method_2_code (4 : Nat) (Option.some Jvm.ClassFile.FieldType.int)) ∈ WS := ws_3 22 rfl rfl
theorem wd_3_23 : (Jvm.Cond.methodLink "TradeLogs$Apprentice" (82 : Nat) ({ cls := "TradeLogs$Apprentice", name := "canAdd", desc := "(II)Z" } : Jvm.MethodName)) ∈ WS := ws_3 23 rfl rfl
theorem wd_3_24 : (Jvm.Cond.instanceMethod ({ cls := "TradeLogs$Apprentice", name := "canAdd", desc := "(II)Z" } : Jvm.MethodName)) ∈ WS := ws_3 24 rfl rfl
theorem wd_3_25 : (Jvm.Cond.selects "TradeLogs$Apprentice" ({ cls := "TradeLogs$Apprentice", name := "canAdd", desc := "(II)Z" } : Jvm.MethodName) ({ cls := "TradeLogs$Apprentice", name := "canAdd", desc := "(II)Z" } : Jvm.MethodName)) ∈ WS := ws_3 25 rfl rfl
theorem wd_3_26 : (Jvm.Cond.code ({ cls := "TradeLogs$Apprentice", name := "canAdd", desc := "(II)Z" } : Jvm.MethodName) prog_3_method_4_code (5 : Nat) (Option.some Jvm.ClassFile.FieldType.boolean)) ∈ WS := ws_3 26 rfl rfl
theorem wd_3_27 : (Jvm.Cond.methodLink "TradeLogs$Apprentice" (60 : Nat) ({ cls := "TradeLogs$Apprentice", name := "doneIn", desc := "(I)I" } : Jvm.MethodName)) ∈ WS := ws_3 27 rfl rfl
theorem wd_3_28 : (Jvm.Cond.instanceMethod ({ cls := "TradeLogs$Apprentice", name := "doneIn", desc := "(I)I" } : Jvm.MethodName)) ∈ WS := ws_3 28 rfl rfl
theorem wd_3_29 : (Jvm.Cond.selects "TradeLogs$Apprentice" ({ cls := "TradeLogs$Apprentice", name := "doneIn", desc := "(I)I" } : Jvm.MethodName) ({ cls := "TradeLogs$Apprentice", name := "doneIn", desc := "(I)I" } : Jvm.MethodName)) ∈ WS := ws_3 29 rfl rfl
theorem wd_3_30 : (Jvm.Cond.code ({ cls := "TradeLogs$Apprentice", name := "doneIn", desc := "(I)I" } : Jvm.MethodName) prog_3_method_3_code (2 : Nat) (Option.some Jvm.ClassFile.FieldType.int)) ∈ WS := ws_3 30 rfl rfl
theorem wd_3_31 : (Jvm.Cond.constantLong "TradeLogs$Apprentice" (64 : Nat) (2147483647 : Int64)) ∈ WS := ws_3 31 rfl rfl
theorem wd_3_32 : (Jvm.Cond.methodLink "TradeLogs$State" (140 : Nat) ({ cls := "TradeLogs$EntryQueue", name := "countWith", desc := "(I)I" } : Jvm.MethodName)) ∈ WS := ws_3 32 rfl rfl
theorem wd_3_33 : (Jvm.Cond.instanceMethod ({ cls := "TradeLogs$EntryQueue", name := "countWith", desc := "(I)I" } : Jvm.MethodName)) ∈ WS := ws_3 33 rfl rfl
theorem wd_3_34 : (Jvm.Cond.selects "TradeLogs$EntryQueue" ({ cls := "TradeLogs$EntryQueue", name := "countWith", desc := "(I)I" } : Jvm.MethodName) ({ cls := "TradeLogs$EntryQueue", name := "countWith", desc := "(I)I" } : Jvm.MethodName)) ∈ WS := ws_3 34 rfl rfl
theorem wd_3_35 : (Jvm.Cond.code ({ cls := "TradeLogs$EntryQueue", name := "countWith", desc := "(I)I" } : Jvm.MethodName) prog_7_method_7_code (4 : Nat) (Option.some Jvm.ClassFile.FieldType.int)) ∈ WS := ws_3 35 rfl rfl
theorem wd_3_36 : (Jvm.Cond.methodLink "TradeLogs$State" (143 : Nat) ({ cls := "java/lang/Math", name := "min", desc := "(II)I" } : Jvm.MethodName)) ∈ WS := ws_3 36 rfl rfl
theorem wd_3_37 : (Jvm.Cond.static ({ cls := "java/lang/Math", name := "min", desc := "(II)I" } : Jvm.MethodName)) ∈ WS := ws_3 37 rfl rfl
theorem wd_3_38 : (Jvm.Cond.code ({ cls := "java/lang/Math", name := "min", desc := "(II)I" } : Jvm.MethodName) prog_18_method_69_code (2 : Nat) (Option.some Jvm.ClassFile.FieldType.int)) ∈ WS := ws_3 38 rfl rfl
theorem wd_3_39 : (Jvm.Cond.methodLink "TradeLogs" (76 : Nat) ({ cls := "TradeLogs", name := "faultOfDoubt", desc := "(I)I" } : Jvm.MethodName)) ∈ WS := ws_3 39 rfl rfl
theorem wd_3_41 : (Jvm.Cond.instanceMethod ({ cls := "TradeLogs", name := "faultOfDoubt", desc := "(I)I" } : Jvm.MethodName)) ∈ WS := ws_3 41 rfl rfl
theorem wd_3_42 : (Jvm.Cond.code ({ cls := "TradeLogs", name := "faultOfDoubt", desc := "(I)I" } : Jvm.MethodName) prog_1_method_43_code (3 : Nat) (Option.some Jvm.ClassFile.FieldType.int)) ∈ WS := ws_3 42 rfl rfl
theorem wd_3_43 : (Jvm.Cond.methodLink "TradeLogs" (267 : Nat) ({ cls := "TradeLogs$State", name := "mentorOf", desc := "(I)I" } : Jvm.MethodName)) ∈ WS := ws_3 43 rfl rfl
theorem wd_3_44 : (Jvm.Cond.instanceMethod ({ cls := "TradeLogs$State", name := "mentorOf", desc := "(I)I" } : Jvm.MethodName)) ∈ WS := ws_3 44 rfl rfl
theorem wd_3_45 : (Jvm.Cond.selects "TradeLogs$State" ({ cls := "TradeLogs$State", name := "mentorOf", desc := "(I)I" } : Jvm.MethodName) ({ cls := "TradeLogs$State", name := "mentorOf", desc := "(I)I" } : Jvm.MethodName)) ∈ WS := ws_3 45 rfl rfl
theorem wd_3_46 : (Jvm.Cond.code ({ cls := "TradeLogs$State", name := "mentorOf", desc := "(I)I" } : Jvm.MethodName) prog_9_method_11_code (2 : Nat) (Option.some Jvm.ClassFile.FieldType.int)) ∈ WS := ws_3 46 rfl rfl
theorem wd_3_47 : (Jvm.Cond.methodLink "TradeLogs" (223 : Nat) ({ cls := "TradeLogs$State", name := "entryCount", desc := "(IZ)I" } : Jvm.MethodName)) ∈ WS := ws_3 47 rfl rfl
theorem wd_3_48 : (Jvm.Cond.instanceMethod ({ cls := "TradeLogs$State", name := "entryCount", desc := "(IZ)I" } : Jvm.MethodName)) ∈ WS := ws_3 48 rfl rfl
theorem wd_3_49 : (Jvm.Cond.selects "TradeLogs$State" ({ cls := "TradeLogs$State", name := "entryCount", desc := "(IZ)I" } : Jvm.MethodName) ({ cls := "TradeLogs$State", name := "entryCount", desc := "(IZ)I" } : Jvm.MethodName)) ∈ WS := ws_3 49 rfl rfl
theorem wd_3_50 : (Jvm.Cond.code ({ cls := "TradeLogs$State", name := "entryCount", desc := "(IZ)I" } : Jvm.MethodName) prog_9_method_12_code (4 : Nat) (Option.some Jvm.ClassFile.FieldType.int)) ∈ WS := ws_3 50 rfl rfl
theorem wd_3_51 : (Jvm.Cond.methodLink "TradeLogs" (83 : Nat) ({ cls := "TradeLogs", name := "faultOfSettle", desc := "(IZ)I" } : Jvm.MethodName)) ∈ WS := ws_3 51 rfl rfl
theorem wd_3_53 : (Jvm.Cond.instanceMethod ({ cls := "TradeLogs", name := "faultOfSettle", desc := "(IZ)I" } : Jvm.MethodName)) ∈ WS := ws_3 53 rfl rfl
theorem wd_3_54 : (Jvm.Cond.code ({ cls := "TradeLogs", name := "faultOfSettle", desc := "(IZ)I" } : Jvm.MethodName) prog_1_method_44_code (3 : Nat) (Option.some Jvm.ClassFile.FieldType.int)) ∈ WS := ws_3 54 rfl rfl
theorem wd_3_55 : (Jvm.Cond.methodLink "TradeLogs" (270 : Nat) ({ cls := "TradeLogs$State", name := "canSettle", desc := "(IZ)Z" } : Jvm.MethodName)) ∈ WS := ws_3 55 rfl rfl
theorem wd_3_56 : (Jvm.Cond.instanceMethod ({ cls := "TradeLogs$State", name := "canSettle", desc := "(IZ)Z" } : Jvm.MethodName)) ∈ WS := ws_3 56 rfl rfl
theorem wd_3_57 : (Jvm.Cond.selects "TradeLogs$State" ({ cls := "TradeLogs$State", name := "canSettle", desc := "(IZ)Z" } : Jvm.MethodName) ({ cls := "TradeLogs$State", name := "canSettle", desc := "(IZ)Z" } : Jvm.MethodName)) ∈ WS := ws_3 57 rfl rfl
theorem wd_3_58 : (Jvm.Cond.code ({ cls := "TradeLogs$State", name := "canSettle", desc := "(IZ)Z" } : Jvm.MethodName) prog_9_method_19_code (4 : Nat) (Option.some Jvm.ClassFile.FieldType.boolean)) ∈ WS := ws_3 58 rfl rfl
theorem wd_3_59 : (Jvm.Cond.methodLink "TradeLogs$State" (146 : Nat) ({ cls := "TradeLogs$EntryQueue", name := "valueAt", desc := "(II)I" } : Jvm.MethodName)) ∈ WS := ws_3 59 rfl rfl
theorem wd_3_60 : (Jvm.Cond.methodLink "TradeLogs$State" (149 : Nat) ({ cls := "TradeLogs$Apprentice", name := "canAdd", desc := "(II)Z" } : Jvm.MethodName)) ∈ WS := ws_3 60 rfl rfl
theorem wd_3_61 : (Jvm.Cond.methodLink "TradeLogs" (102 : Nat) ({ cls := "TradeLogs", name := "faultOfMove", desc := "(II)I" } : Jvm.MethodName)) ∈ WS := ws_3 61 rfl rfl
theorem wd_3_63 : (Jvm.Cond.instanceMethod ({ cls := "TradeLogs", name := "faultOfMove", desc := "(II)I" } : Jvm.MethodName)) ∈ WS := ws_3 63 rfl rfl
theorem wd_3_64 : (Jvm.Cond.code ({ cls := "TradeLogs", name := "faultOfMove", desc := "(II)I" } : Jvm.MethodName) prog_1_method_48_code (3 : Nat) (Option.some Jvm.ClassFile.FieldType.int)) ∈ WS := ws_3 64 rfl rfl
theorem wd_3_65 : (Jvm.Cond.methodLink "TradeLogs" (120 : Nat) ({ cls := "TradeLogs", name := "faultOfPair", desc := "(II)I" } : Jvm.MethodName)) ∈ WS := ws_3 65 rfl rfl
theorem wd_3_67 : (Jvm.Cond.instanceMethod ({ cls := "TradeLogs", name := "faultOfPair", desc := "(II)I" } : Jvm.MethodName)) ∈ WS := ws_3 67 rfl rfl
theorem wd_3_68 : (Jvm.Cond.code ({ cls := "TradeLogs", name := "faultOfPair", desc := "(II)I" } : Jvm.MethodName) prog_1_method_47_code (3 : Nat) (Option.some Jvm.ClassFile.FieldType.int)) ∈ WS := ws_3 68 rfl rfl
theorem wd_3_69 : (Jvm.Cond.methodLink "TradeLogs" (123 : Nat) ({ cls := "TradeLogs$State", name := "obstacle", desc := "(II)I" } : Jvm.MethodName)) ∈ WS := ws_3 69 rfl rfl
theorem wd_3_70 : (Jvm.Cond.instanceMethod ({ cls := "TradeLogs$State", name := "obstacle", desc := "(II)I" } : Jvm.MethodName)) ∈ WS := ws_3 70 rfl rfl
theorem wd_3_71 : (Jvm.Cond.selects "TradeLogs$State" ({ cls := "TradeLogs$State", name := "obstacle", desc := "(II)I" } : Jvm.MethodName) ({ cls := "TradeLogs$State", name := "obstacle", desc := "(II)I" } : Jvm.MethodName)) ∈ WS := ws_3 71 rfl rfl
theorem wd_3_72 : (Jvm.Cond.code ({ cls := "TradeLogs$State", name := "obstacle", desc := "(II)I" } : Jvm.MethodName) prog_9_method_21_code (4 : Nat) (Option.some Jvm.ClassFile.FieldType.int)) ∈ WS := ws_3 72 rfl rfl
theorem wd_3_73 : (Jvm.Cond.methodLink "TradeLogs$State" (152 : Nat) ({ cls := "TradeLogs$State", name := "teaches", desc := "(II)Z" } : Jvm.MethodName)) ∈ WS := ws_3 73 rfl rfl
theorem wd_3_74 : (Jvm.Cond.methodLink "TradeLogs$State" (155 : Nat) ({ cls := "TradeLogs$State", name := "isFull", desc := "(I)Z" } : Jvm.MethodName)) ∈ WS := ws_3 74 rfl rfl
theorem wd_3_75 : (Jvm.Cond.methodLink "TradeLogs" (114 : Nat) ({ cls := "TradeLogs", name := "faultOfExchange", desc := "(II)I" } : Jvm.MethodName)) ∈ WS := ws_3 75 rfl rfl
theorem wd_3_77 : (Jvm.Cond.instanceMethod ({ cls := "TradeLogs", name := "faultOfExchange", desc := "(II)I" } : Jvm.MethodName)) ∈ WS := ws_3 77 rfl rfl
theorem wd_3_78 : (Jvm.Cond.code ({ cls := "TradeLogs", name := "faultOfExchange", desc := "(II)I" } : Jvm.MethodName) prog_1_method_50_code (3 : Nat) (Option.some Jvm.ClassFile.FieldType.int)) ∈ WS := ws_3 78 rfl rfl
theorem wd_3_79 : (Jvm.Cond.methodLink "TradeLogs" (162 : Nat) ({ cls := "TradeLogs$State", name := "canExchange", desc := "(II)Z" } : Jvm.MethodName)) ∈ WS := ws_3 79 rfl rfl
theorem wd_3_80 : (Jvm.Cond.instanceMethod ({ cls := "TradeLogs$State", name := "canExchange", desc := "(II)Z" } : Jvm.MethodName)) ∈ WS := ws_3 80 rfl rfl
theorem wd_3_81 : (Jvm.Cond.selects "TradeLogs$State" ({ cls := "TradeLogs$State", name := "canExchange", desc := "(II)Z" } : Jvm.MethodName) ({ cls := "TradeLogs$State", name := "canExchange", desc := "(II)Z" } : Jvm.MethodName)) ∈ WS := ws_3 81 rfl rfl
theorem wd_3_82 : (Jvm.Cond.code ({ cls := "TradeLogs$State", name := "canExchange", desc := "(II)Z" } : Jvm.MethodName) prog_9_method_22_code (5 : Nat) (Option.some Jvm.ClassFile.FieldType.boolean)) ∈ WS := ws_3 82 rfl rfl
theorem wd_3_83 : (Jvm.Cond.methodLink "TradeLogs" (58 : Nat) ({ cls := "TradeLogs", name := "faultOfRelease", desc := "(II)I" } : Jvm.MethodName)) ∈ WS := ws_3 83 rfl rfl
theorem wd_3_85 : (Jvm.Cond.instanceMethod ({ cls := "TradeLogs", name := "faultOfRelease", desc := "(II)I" } : Jvm.MethodName)) ∈ WS := ws_3 85 rfl rfl
theorem wd_3_86 : (Jvm.Cond.code ({ cls := "TradeLogs", name := "faultOfRelease", desc := "(II)I" } : Jvm.MethodName) prog_1_method_40_code (3 : Nat) (Option.some Jvm.ClassFile.FieldType.int)) ∈ WS := ws_3 86 rfl rfl
theorem wd_3_87 : (Jvm.Cond.methodLink "TradeLogs" (258 : Nat) ({ cls := "TradeLogs$State", name := "hasWorked", desc := "(II)Z" } : Jvm.MethodName)) ∈ WS := ws_3 87 rfl rfl
theorem wd_3_88 : (Jvm.Cond.instanceMethod ({ cls := "TradeLogs$State", name := "hasWorked", desc := "(II)Z" } : Jvm.MethodName)) ∈ WS := ws_3 88 rfl rfl
theorem wd_3_89 : (Jvm.Cond.selects "TradeLogs$State" ({ cls := "TradeLogs$State", name := "hasWorked", desc := "(II)Z" } : Jvm.MethodName) ({ cls := "TradeLogs$State", name := "hasWorked", desc := "(II)Z" } : Jvm.MethodName)) ∈ WS := ws_3 89 rfl rfl
theorem wd_3_90 : (Jvm.Cond.code ({ cls := "TradeLogs$State", name := "hasWorked", desc := "(II)Z" } : Jvm.MethodName) prog_9_method_13_code (3 : Nat) (Option.some Jvm.ClassFile.FieldType.boolean)) ∈ WS := ws_3 90 rfl rfl
theorem wd_3_91 : (Jvm.Cond.methodLink "TradeLogs$State" (109 : Nat) ({ cls := "TradeLogs$DaySet", name := "has", desc := "(I)Z" } : Jvm.MethodName)) ∈ WS := ws_3 91 rfl rfl
theorem wd_3_92 : (Jvm.Cond.methodLink "TradeLogs" (96 : Nat) ({ cls := "TradeLogs", name := "faultOfDays", desc := "(I)I" } : Jvm.MethodName)) ∈ WS := ws_3 92 rfl rfl
theorem wd_3_94 : (Jvm.Cond.instanceMethod ({ cls := "TradeLogs", name := "faultOfDays", desc := "(I)I" } : Jvm.MethodName)) ∈ WS := ws_3 94 rfl rfl
theorem wd_3_95 : (Jvm.Cond.code ({ cls := "TradeLogs", name := "faultOfDays", desc := "(I)I" } : Jvm.MethodName) prog_1_method_46_code (2 : Nat) (Option.some Jvm.ClassFile.FieldType.int)) ∈ WS := ws_3 95 rfl rfl
theorem wd_3_96 : (Jvm.Cond.methodLink "TradeLogs" (192 : Nat) ({ cls := "TradeLogs", name := "obey", desc := "(I)V" } : Jvm.MethodName)) ∈ WS := ws_3 96 rfl rfl
theorem wd_3_98 : (Jvm.Cond.instanceMethod ({ cls := "TradeLogs", name := "obey", desc := "(I)V" } : Jvm.MethodName)) ∈ WS := ws_3 98 rfl rfl
theorem wd_3_99 : (Jvm.Cond.code ({ cls := "TradeLogs", name := "obey", desc := "(I)V" } : Jvm.MethodName) prog_1_method_52_code (6 : Nat) (Option.none : Option Jvm.ClassFile.FieldType)) ∈ WS := ws_3 99 rfl rfl
theorem wd_3_100 : (Jvm.Cond.methodLink "TradeLogs" (42 : Nat) ({ cls := "TradeLogs$State", name := "putTrade", desc := "(III)I" } : Jvm.MethodName)) ∈ WS := ws_3 100 rfl rfl
theorem wd_3_101 : (Jvm.Cond.instanceMethod ({ cls := "TradeLogs$State", name := "putTrade", desc := "(III)I" } : Jvm.MethodName)) ∈ WS := ws_3 101 rfl rfl
theorem wd_3_102 : (Jvm.Cond.selects "TradeLogs$State" ({ cls := "TradeLogs$State", name := "putTrade", desc := "(III)I" } : Jvm.MethodName) ({ cls := "TradeLogs$State", name := "putTrade", desc := "(III)I" } : Jvm.MethodName)) ∈ WS := ws_3 102 rfl rfl
theorem wd_3_103 : (Jvm.Cond.code ({ cls := "TradeLogs$State", name := "putTrade", desc := "(III)I" } : Jvm.MethodName) prog_9_method_23_code (4 : Nat) (Option.some Jvm.ClassFile.FieldType.int)) ∈ WS := ws_3 103 rfl rfl
theorem wd_3_104 : (Jvm.Cond.methodLink "TradeLogs" (49 : Nat) ({ cls := "TradeLogs$State", name := "putMentor", desc := "(II)I" } : Jvm.MethodName)) ∈ WS := ws_3 104 rfl rfl
theorem wd_3_105 : (Jvm.Cond.instanceMethod ({ cls := "TradeLogs$State", name := "putMentor", desc := "(II)I" } : Jvm.MethodName)) ∈ WS := ws_3 105 rfl rfl
theorem wd_3_106 : (Jvm.Cond.selects "TradeLogs$State" ({ cls := "TradeLogs$State", name := "putMentor", desc := "(II)I" } : Jvm.MethodName) ({ cls := "TradeLogs$State", name := "putMentor", desc := "(II)I" } : Jvm.MethodName)) ∈ WS := ws_3 106 rfl rfl
theorem wd_3_107 : (Jvm.Cond.code ({ cls := "TradeLogs$State", name := "putMentor", desc := "(II)I" } : Jvm.MethodName) prog_9_method_24_code (3 : Nat) (Option.some Jvm.ClassFile.FieldType.int)) ∈ WS := ws_3 107 rfl rfl
theorem wd_3_108 : (Jvm.Cond.methodLink "TradeLogs$State" (158 : Nat) ({ cls := "TradeLogs$Mentor", name := "begin", desc := "(II)V" } : Jvm.MethodName)) ∈ WS := ws_3 108 rfl rfl
theorem wd_3_109 : (Jvm.Cond.instanceMethod ({ cls := "TradeLogs$Mentor", name := "begin", desc := "(II)V" } : Jvm.MethodName)) ∈ WS := ws_3 109 rfl rfl
theorem wd_3_110 : (Jvm.Cond.selects "TradeLogs$Mentor" ({ cls := "TradeLogs$Mentor", name := "begin", desc := "(II)V" } : Jvm.MethodName) ({ cls := "TradeLogs$Mentor", name := "begin", desc := "(II)V" } : Jvm.MethodName)) ∈ WS := ws_3 110 rfl rfl
theorem wd_3_111 : (Jvm.Cond.code ({ cls := "TradeLogs$Mentor", name := "begin", desc := "(II)V" } : Jvm.MethodName) prog_8_method_2_code (3 : Nat) (Option.none : Option Jvm.ClassFile.FieldType)) ∈ WS := ws_3 111 rfl rfl
theorem wd_3_112 : (Jvm.Cond.methodLink "TradeLogs" (55 : Nat) ({ cls := "TradeLogs$State", name := "putApprentice", desc := "(II)I" } : Jvm.MethodName)) ∈ WS := ws_3 112 rfl rfl
theorem wd_3_113 : (Jvm.Cond.instanceMethod ({ cls := "TradeLogs$State", name := "putApprentice", desc := "(II)I" } : Jvm.MethodName)) ∈ WS := ws_3 113 rfl rfl
theorem wd_3_114 : (Jvm.Cond.selects "TradeLogs$State" ({ cls := "TradeLogs$State", name := "putApprentice", desc := "(II)I" } : Jvm.MethodName) ({ cls := "TradeLogs$State", name := "putApprentice", desc := "(II)I" } : Jvm.MethodName)) ∈ WS := ws_3 114 rfl rfl
theorem wd_3_115 : (Jvm.Cond.code ({ cls := "TradeLogs$State", name := "putApprentice", desc := "(II)I" } : Jvm.MethodName) prog_9_method_25_code (3 : Nat) (Option.some Jvm.ClassFile.FieldType.int)) ∈ WS := ws_3 115 rfl rfl
theorem wd_3_116 : (Jvm.Cond.methodLink "TradeLogs$State" (162 : Nat) ({ cls := "TradeLogs$Apprentice", name := "begin", desc := "(II)V" } : Jvm.MethodName)) ∈ WS := ws_3 116 rfl rfl
theorem wd_3_117 : (Jvm.Cond.instanceMethod ({ cls := "TradeLogs$Apprentice", name := "begin", desc := "(II)V" } : Jvm.MethodName)) ∈ WS := ws_3 117 rfl rfl
theorem wd_3_118 : (Jvm.Cond.selects "TradeLogs$Apprentice" ({ cls := "TradeLogs$Apprentice", name := "begin", desc := "(II)V" } : Jvm.MethodName) ({ cls := "TradeLogs$Apprentice", name := "begin", desc := "(II)V" } : Jvm.MethodName)) ∈ WS := ws_3 118 rfl rfl
theorem wd_3_119 : (Jvm.Cond.code ({ cls := "TradeLogs$Apprentice", name := "begin", desc := "(II)V" } : Jvm.MethodName) prog_3_method_2_code (4 : Nat) (Option.none : Option Jvm.ClassFile.FieldType)) ∈ WS := ws_3 119 rfl rfl
theorem wd_3_120 : (Jvm.Cond.methodLink "TradeLogs$Apprentice" (39 : Nat) ({ cls := "TradeLogs$DaySet", name := "clear", desc := "()V" } : Jvm.MethodName)) ∈ WS := ws_3 120 rfl rfl
theorem wd_3_121 : (Jvm.Cond.instanceMethod ({ cls := "TradeLogs$DaySet", name := "clear", desc := "()V" } : Jvm.MethodName)) ∈ WS := ws_3 121 rfl rfl
theorem wd_3_122 : (Jvm.Cond.selects "TradeLogs$DaySet" ({ cls := "TradeLogs$DaySet", name := "clear", desc := "()V" } : Jvm.MethodName) ({ cls := "TradeLogs$DaySet", name := "clear", desc := "()V" } : Jvm.MethodName)) ∈ WS := ws_3 122 rfl rfl
theorem wd_3_123 : (Jvm.Cond.code ({ cls := "TradeLogs$DaySet", name := "clear", desc := "()V" } : Jvm.MethodName) prog_6_method_5_code (2 : Nat) (Option.none : Option Jvm.ClassFile.FieldType)) ∈ WS := ws_3 123 rfl rfl
theorem wd_3_124 : (Jvm.Cond.methodLink "TradeLogs" (67 : Nat) ({ cls := "TradeLogs$State", name := "putWork", desc := "(III)I" } : Jvm.MethodName)) ∈ WS := ws_3 124 rfl rfl
theorem wd_3_125 : (Jvm.Cond.instanceMethod ({ cls := "TradeLogs$State", name := "putWork", desc := "(III)I" } : Jvm.MethodName)) ∈ WS := ws_3 125 rfl rfl
theorem wd_3_126 : (Jvm.Cond.selects "TradeLogs$State" ({ cls := "TradeLogs$State", name := "putWork", desc := "(III)I" } : Jvm.MethodName) ({ cls := "TradeLogs$State", name := "putWork", desc := "(III)I" } : Jvm.MethodName)) ∈ WS := ws_3 126 rfl rfl
theorem wd_3_127 : (Jvm.Cond.code ({ cls := "TradeLogs$State", name := "putWork", desc := "(III)I" } : Jvm.MethodName) prog_9_method_27_code (5 : Nat) (Option.some Jvm.ClassFile.FieldType.int)) ∈ WS := ws_3 127 rfl rfl
theorem wd_3_128 : (Jvm.Cond.methodLink "TradeLogs$State" (171 : Nat) ({ cls := "TradeLogs$Apprentice", name := "work", desc := "(III)V" } : Jvm.MethodName)) ∈ WS := ws_3 128 rfl rfl
theorem wd_3_129 : (Jvm.Cond.instanceMethod ({ cls := "TradeLogs$Apprentice", name := "work", desc := "(III)V" } : Jvm.MethodName)) ∈ WS := ws_3 129 rfl rfl
theorem wd_3_130 : (Jvm.Cond.selects "TradeLogs$Apprentice" ({ cls := "TradeLogs$Apprentice", name := "work", desc := "(III)V" } : Jvm.MethodName) ({ cls := "TradeLogs$Apprentice", name := "work", desc := "(III)V" } : Jvm.MethodName)) ∈ WS := ws_3 130 rfl rfl
theorem wd_3_131 : (Jvm.Cond.code ({ cls := "TradeLogs$Apprentice", name := "work", desc := "(III)V" } : Jvm.MethodName) prog_3_method_7_code (4 : Nat) (Option.none : Option Jvm.ClassFile.FieldType)) ∈ WS := ws_3 131 rfl rfl
theorem wd_3_132 : (Jvm.Cond.methodLink "TradeLogs$Apprentice" (70 : Nat) ({ cls := "TradeLogs$DaySet", name := "put", desc := "(I)V" } : Jvm.MethodName)) ∈ WS := ws_3 132 rfl rfl
theorem wd_3_133 : (Jvm.Cond.instanceMethod ({ cls := "TradeLogs$DaySet", name := "put", desc := "(I)V" } : Jvm.MethodName)) ∈ WS := ws_3 133 rfl rfl
theorem wd_3_134 : (Jvm.Cond.selects "TradeLogs$DaySet" ({ cls := "TradeLogs$DaySet", name := "put", desc := "(I)V" } : Jvm.MethodName) ({ cls := "TradeLogs$DaySet", name := "put", desc := "(I)V" } : Jvm.MethodName)) ∈ WS := ws_3 134 rfl rfl
theorem wd_3_135 : (Jvm.Cond.code ({ cls := "TradeLogs$DaySet", name := "put", desc := "(I)V" } : Jvm.MethodName) prog_6_method_3_code (2 : Nat) (Option.none : Option Jvm.ClassFile.FieldType)) ∈ WS := ws_3 135 rfl rfl
theorem wd_3_136 : (Jvm.Cond.methodLink "TradeLogs$DaySet" (15 : Nat) ({ cls := "TradeLogs$DaySet", name := "has", desc := "(I)Z" } : Jvm.MethodName)) ∈ WS := ws_3 136 rfl rfl
theorem wd_3_137 : (Jvm.Cond.methodLink "TradeLogs$Apprentice" (74 : Nat) ({ cls := "TradeLogs$EntryQueue", name := "append", desc := "(IIII)V" } : Jvm.MethodName)) ∈ WS := ws_3 137 rfl rfl
theorem wd_3_138 : (Jvm.Cond.instanceMethod ({ cls := "TradeLogs$EntryQueue", name := "append", desc := "(IIII)V" } : Jvm.MethodName)) ∈ WS := ws_3 138 rfl rfl
theorem wd_3_139 : (Jvm.Cond.selects "TradeLogs$EntryQueue" ({ cls := "TradeLogs$EntryQueue", name := "append", desc := "(IIII)V" } : Jvm.MethodName) ({ cls := "TradeLogs$EntryQueue", name := "append", desc := "(IIII)V" } : Jvm.MethodName)) ∈ WS := ws_3 139 rfl rfl
theorem wd_3_140 : (Jvm.Cond.code ({ cls := "TradeLogs$EntryQueue", name := "append", desc := "(IIII)V" } : Jvm.MethodName) prog_7_method_3_code (5 : Nat) (Option.none : Option Jvm.ClassFile.FieldType)) ∈ WS := ws_3 140 rfl rfl
theorem wd_3_141 : (Jvm.Cond.methodLink "TradeLogs" (73 : Nat) ({ cls := "TradeLogs$State", name := "confirmPending", desc := "(II)I" } : Jvm.MethodName)) ∈ WS := ws_3 141 rfl rfl
theorem wd_3_142 : (Jvm.Cond.instanceMethod ({ cls := "TradeLogs$State", name := "confirmPending", desc := "(II)I" } : Jvm.MethodName)) ∈ WS := ws_3 142 rfl rfl
theorem wd_3_143 : (Jvm.Cond.selects "TradeLogs$State" ({ cls := "TradeLogs$State", name := "confirmPending", desc := "(II)I" } : Jvm.MethodName) ({ cls := "TradeLogs$State", name := "confirmPending", desc := "(II)I" } : Jvm.MethodName)) ∈ WS := ws_3 143 rfl rfl
theorem wd_3_144 : (Jvm.Cond.code ({ cls := "TradeLogs$State", name := "confirmPending", desc := "(II)I" } : Jvm.MethodName) prog_9_method_28_code (5 : Nat) (Option.some Jvm.ClassFile.FieldType.int)) ∈ WS := ws_3 144 rfl rfl
theorem wd_3_145 : (Jvm.Cond.methodLink "TradeLogs$State" (175 : Nat) ({ cls := "TradeLogs$Apprentice", name := "takeFirst", desc := "(I)I" } : Jvm.MethodName)) ∈ WS := ws_3 145 rfl rfl
theorem wd_3_146 : (Jvm.Cond.instanceMethod ({ cls := "TradeLogs$Apprentice", name := "takeFirst", desc := "(I)I" } : Jvm.MethodName)) ∈ WS := ws_3 146 rfl rfl
theorem wd_3_147 : (Jvm.Cond.selects "TradeLogs$Apprentice" ({ cls := "TradeLogs$Apprentice", name := "takeFirst", desc := "(I)I" } : Jvm.MethodName) ({ cls := "TradeLogs$Apprentice", name := "takeFirst", desc := "(I)I" } : Jvm.MethodName)) ∈ WS := ws_3 147 rfl rfl
theorem wd_3_148 : (Jvm.Cond.code ({ cls := "TradeLogs$Apprentice", name := "takeFirst", desc := "(I)I" } : Jvm.MethodName) prog_3_method_9_code (5 : Nat) (Option.some Jvm.ClassFile.FieldType.int)) ∈ WS := ws_3 148 rfl rfl
theorem wd_3_149 : (Jvm.Cond.methodLink "TradeLogs$Apprentice" (86 : Nat) ({ cls := "TradeLogs$EntryQueue", name := "valueAt", desc := "(II)I" } : Jvm.MethodName)) ∈ WS := ws_3 149 rfl rfl
theorem wd_3_150 : (Jvm.Cond.methodLink "TradeLogs$Apprentice" (90 : Nat) ({ cls := "TradeLogs$Apprentice", name := "addDone", desc := "(II)V" } : Jvm.MethodName)) ∈ WS := ws_3 150 rfl rfl
theorem wd_3_151 : (Jvm.Cond.instanceMethod ({ cls := "TradeLogs$Apprentice", name := "addDone", desc := "(II)V" } : Jvm.MethodName)) ∈ WS := ws_3 151 rfl rfl
theorem wd_3_152 : (Jvm.Cond.selects "TradeLogs$Apprentice" ({ cls := "TradeLogs$Apprentice", name := "addDone", desc := "(II)V" } : Jvm.MethodName) ({ cls := "TradeLogs$Apprentice", name := "addDone", desc := "(II)V" } : Jvm.MethodName)) ∈ WS := ws_3 152 rfl rfl
theorem wd_3_153 : (Jvm.Cond.code ({ cls := "TradeLogs$Apprentice", name := "addDone", desc := "(II)V" } : Jvm.MethodName) prog_3_method_5_code (3 : Nat) (Option.none : Option Jvm.ClassFile.FieldType)) ∈ WS := ws_3 153 rfl rfl
theorem wd_3_154 : (Jvm.Cond.methodLink "TradeLogs$Apprentice" (94 : Nat) ({ cls := "TradeLogs$EntryQueue", name := "removeAt", desc := "(I)V" } : Jvm.MethodName)) ∈ WS := ws_3 154 rfl rfl
theorem wd_3_155 : (Jvm.Cond.instanceMethod ({ cls := "TradeLogs$EntryQueue", name := "removeAt", desc := "(I)V" } : Jvm.MethodName)) ∈ WS := ws_3 155 rfl rfl
theorem wd_3_156 : (Jvm.Cond.selects "TradeLogs$EntryQueue" ({ cls := "TradeLogs$EntryQueue", name := "removeAt", desc := "(I)V" } : Jvm.MethodName) ({ cls := "TradeLogs$EntryQueue", name := "removeAt", desc := "(I)V" } : Jvm.MethodName)) ∈ WS := ws_3 156 rfl rfl
theorem wd_3_157 : (Jvm.Cond.code ({ cls := "TradeLogs$EntryQueue", name := "removeAt", desc := "(I)V" } : Jvm.MethodName) prog_7_method_4_code (3 : Nat) (Option.none : Option Jvm.ClassFile.FieldType)) ∈ WS := ws_3 157 rfl rfl
theorem wd_3_158 : (Jvm.Cond.methodLink "TradeLogs" (80 : Nat) ({ cls := "TradeLogs$State", name := "doubtOldest", desc := "(I)I" } : Jvm.MethodName)) ∈ WS := ws_3 158 rfl rfl
theorem wd_3_159 : (Jvm.Cond.instanceMethod ({ cls := "TradeLogs$State", name := "doubtOldest", desc := "(I)I" } : Jvm.MethodName)) ∈ WS := ws_3 159 rfl rfl
theorem wd_3_160 : (Jvm.Cond.selects "TradeLogs$State" ({ cls := "TradeLogs$State", name := "doubtOldest", desc := "(I)I" } : Jvm.MethodName) ({ cls := "TradeLogs$State", name := "doubtOldest", desc := "(I)I" } : Jvm.MethodName)) ∈ WS := ws_3 160 rfl rfl
theorem wd_3_161 : (Jvm.Cond.code ({ cls := "TradeLogs$State", name := "doubtOldest", desc := "(I)I" } : Jvm.MethodName) prog_9_method_29_code (4 : Nat) (Option.some Jvm.ClassFile.FieldType.int)) ∈ WS := ws_3 161 rfl rfl
theorem wd_3_162 : (Jvm.Cond.methodLink "TradeLogs$State" (181 : Nat) ({ cls := "TradeLogs$Apprentice", name := "doubtAt", desc := "(I)V" } : Jvm.MethodName)) ∈ WS := ws_3 162 rfl rfl
theorem wd_3_163 : (Jvm.Cond.instanceMethod ({ cls := "TradeLogs$Apprentice", name := "doubtAt", desc := "(I)V" } : Jvm.MethodName)) ∈ WS := ws_3 163 rfl rfl
theorem wd_3_164 : (Jvm.Cond.selects "TradeLogs$Apprentice" ({ cls := "TradeLogs$Apprentice", name := "doubtAt", desc := "(I)V" } : Jvm.MethodName) ({ cls := "TradeLogs$Apprentice", name := "doubtAt", desc := "(I)V" } : Jvm.MethodName)) ∈ WS := ws_3 164 rfl rfl
theorem wd_3_165 : (Jvm.Cond.code ({ cls := "TradeLogs$Apprentice", name := "doubtAt", desc := "(I)V" } : Jvm.MethodName) prog_3_method_10_code (2 : Nat) (Option.none : Option Jvm.ClassFile.FieldType)) ∈ WS := ws_3 165 rfl rfl
theorem wd_3_166 : (Jvm.Cond.methodLink "TradeLogs" (87 : Nat) ({ cls := "TradeLogs$State", name := "settleOldest", desc := "(IZ)I" } : Jvm.MethodName)) ∈ WS := ws_3 166 rfl rfl
theorem wd_3_167 : (Jvm.Cond.instanceMethod ({ cls := "TradeLogs$State", name := "settleOldest", desc := "(IZ)I" } : Jvm.MethodName)) ∈ WS := ws_3 167 rfl rfl
theorem wd_3_168 : (Jvm.Cond.selects "TradeLogs$State" ({ cls := "TradeLogs$State", name := "settleOldest", desc := "(IZ)I" } : Jvm.MethodName) ({ cls := "TradeLogs$State", name := "settleOldest", desc := "(IZ)I" } : Jvm.MethodName)) ∈ WS := ws_3 168 rfl rfl
theorem wd_3_169 : (Jvm.Cond.code ({ cls := "TradeLogs$State", name := "settleOldest", desc := "(IZ)I" } : Jvm.MethodName) prog_9_method_30_code (5 : Nat) (Option.some Jvm.ClassFile.FieldType.int)) ∈ WS := ws_3 169 rfl rfl
theorem wd_3_170 : (Jvm.Cond.methodLink "TradeLogs$State" (184 : Nat) ({ cls := "TradeLogs$Apprentice", name := "addDone", desc := "(II)V" } : Jvm.MethodName)) ∈ WS := ws_3 170 rfl rfl
theorem wd_3_171 : (Jvm.Cond.methodLink "TradeLogs$State" (190 : Nat) ({ cls := "TradeLogs$EntryQueue", name := "removeAt", desc := "(I)V" } : Jvm.MethodName)) ∈ WS := ws_3 171 rfl rfl
theorem wd_3_172 : (Jvm.Cond.methodLink "TradeLogs" (105 : Nat) ({ cls := "TradeLogs$State", name := "moveTo", desc := "(II)I" } : Jvm.MethodName)) ∈ WS := ws_3 172 rfl rfl
theorem wd_3_173 : (Jvm.Cond.instanceMethod ({ cls := "TradeLogs$State", name := "moveTo", desc := "(II)I" } : Jvm.MethodName)) ∈ WS := ws_3 173 rfl rfl
theorem wd_3_174 : (Jvm.Cond.selects "TradeLogs$State" ({ cls := "TradeLogs$State", name := "moveTo", desc := "(II)I" } : Jvm.MethodName) ({ cls := "TradeLogs$State", name := "moveTo", desc := "(II)I" } : Jvm.MethodName)) ∈ WS := ws_3 174 rfl rfl
theorem wd_3_175 : (Jvm.Cond.code ({ cls := "TradeLogs$State", name := "moveTo", desc := "(II)I" } : Jvm.MethodName) prog_9_method_33_code (3 : Nat) (Option.some Jvm.ClassFile.FieldType.int)) ∈ WS := ws_3 175 rfl rfl
theorem wd_3_176 : (Jvm.Cond.methodLink "TradeLogs$State" (199 : Nat) ({ cls := "TradeLogs$Apprentice", name := "leadTo", desc := "(I)I" } : Jvm.MethodName)) ∈ WS := ws_3 176 rfl rfl
theorem wd_3_177 : (Jvm.Cond.instanceMethod ({ cls := "TradeLogs$Apprentice", name := "leadTo", desc := "(I)I" } : Jvm.MethodName)) ∈ WS := ws_3 177 rfl rfl
theorem wd_3_178 : (Jvm.Cond.selects "TradeLogs$Apprentice" ({ cls := "TradeLogs$Apprentice", name := "leadTo", desc := "(I)I" } : Jvm.MethodName) ({ cls := "TradeLogs$Apprentice", name := "leadTo", desc := "(I)I" } : Jvm.MethodName)) ∈ WS := ws_3 178 rfl rfl
theorem wd_3_179 : (Jvm.Cond.code ({ cls := "TradeLogs$Apprentice", name := "leadTo", desc := "(I)I" } : Jvm.MethodName) prog_3_method_13_code (5 : Nat) (Option.some Jvm.ClassFile.FieldType.int)) ∈ WS := ws_3 179 rfl rfl
theorem wd_3_180 : (Jvm.Cond.methodLink "TradeLogs$Apprentice" (97 : Nat) ({ cls := "TradeLogs$Apprentice", name := "doubtAt", desc := "(I)V" } : Jvm.MethodName)) ∈ WS := ws_3 180 rfl rfl
theorem wd_3_181 : (Jvm.Cond.methodLink "TradeLogs" (117 : Nat) ({ cls := "TradeLogs$State", name := "exchangeBoth", desc := "(II)I" } : Jvm.MethodName)) ∈ WS := ws_3 181 rfl rfl
theorem wd_3_182 : (Jvm.Cond.instanceMethod ({ cls := "TradeLogs$State", name := "exchangeBoth", desc := "(II)I" } : Jvm.MethodName)) ∈ WS := ws_3 182 rfl rfl
theorem wd_3_183 : (Jvm.Cond.selects "TradeLogs$State" ({ cls := "TradeLogs$State", name := "exchangeBoth", desc := "(II)I" } : Jvm.MethodName) ({ cls := "TradeLogs$State", name := "exchangeBoth", desc := "(II)I" } : Jvm.MethodName)) ∈ WS := ws_3 183 rfl rfl
theorem wd_3_184 : (Jvm.Cond.code ({ cls := "TradeLogs$State", name := "exchangeBoth", desc := "(II)I" } : Jvm.MethodName) prog_9_method_35_code (5 : Nat) (Option.some Jvm.ClassFile.FieldType.int)) ∈ WS := ws_3 184 rfl rfl
theorem wd_3_185 : (Jvm.Cond.methodLink "TradeLogs" (61 : Nat) ({ cls := "TradeLogs$State", name := "putRelease", desc := "(II)I" } : Jvm.MethodName)) ∈ WS := ws_3 185 rfl rfl
theorem wd_3_186 : (Jvm.Cond.instanceMethod ({ cls := "TradeLogs$State", name := "putRelease", desc := "(II)I" } : Jvm.MethodName)) ∈ WS := ws_3 186 rfl rfl
theorem wd_3_187 : (Jvm.Cond.selects "TradeLogs$State" ({ cls := "TradeLogs$State", name := "putRelease", desc := "(II)I" } : Jvm.MethodName) ({ cls := "TradeLogs$State", name := "putRelease", desc := "(II)I" } : Jvm.MethodName)) ∈ WS := ws_3 187 rfl rfl
theorem wd_3_188 : (Jvm.Cond.code ({ cls := "TradeLogs$State", name := "putRelease", desc := "(II)I" } : Jvm.MethodName) prog_9_method_26_code (4 : Nat) (Option.some Jvm.ClassFile.FieldType.int)) ∈ WS := ws_3 188 rfl rfl
theorem wd_3_189 : (Jvm.Cond.methodLink "TradeLogs$State" (166 : Nat) ({ cls := "TradeLogs$DaySet", name := "put", desc := "(I)V" } : Jvm.MethodName)) ∈ WS := ws_3 189 rfl rfl
theorem wd_3_190 : (Jvm.Cond.methodLink "TradeLogs" (99 : Nat) ({ cls := "TradeLogs$State", name := "passDays", desc := "(I)I" } : Jvm.MethodName)) ∈ WS := ws_3 190 rfl rfl
theorem wd_3_191 : (Jvm.Cond.instanceMethod ({ cls := "TradeLogs$State", name := "passDays", desc := "(I)I" } : Jvm.MethodName)) ∈ WS := ws_3 191 rfl rfl
theorem wd_3_192 : (Jvm.Cond.selects "TradeLogs$State" ({ cls := "TradeLogs$State", name := "passDays", desc := "(I)I" } : Jvm.MethodName) ({ cls := "TradeLogs$State", name := "passDays", desc := "(I)I" } : Jvm.MethodName)) ∈ WS := ws_3 192 rfl rfl
theorem wd_3_193 : (Jvm.Cond.code ({ cls := "TradeLogs$State", name := "passDays", desc := "(I)I" } : Jvm.MethodName) prog_9_method_32_code (5 : Nat) (Option.some Jvm.ClassFile.FieldType.int)) ∈ WS := ws_3 193 rfl rfl
theorem wd_3_194 : (Jvm.Cond.methodLink "TradeLogs$State" (193 : Nat) ({ cls := "TradeLogs$Apprentice", name := "doubtUntil", desc := "(I)I" } : Jvm.MethodName)) ∈ WS := ws_3 194 rfl rfl
theorem wd_3_195 : (Jvm.Cond.instanceMethod ({ cls := "TradeLogs$Apprentice", name := "doubtUntil", desc := "(I)I" } : Jvm.MethodName)) ∈ WS := ws_3 195 rfl rfl
theorem wd_3_196 : (Jvm.Cond.selects "TradeLogs$Apprentice" ({ cls := "TradeLogs$Apprentice", name := "doubtUntil", desc := "(I)I" } : Jvm.MethodName) ({ cls := "TradeLogs$Apprentice", name := "doubtUntil", desc := "(I)I" } : Jvm.MethodName)) ∈ WS := ws_3 196 rfl rfl
theorem wd_3_197 : (Jvm.Cond.code ({ cls := "TradeLogs$Apprentice", name := "doubtUntil", desc := "(I)I" } : Jvm.MethodName) prog_3_method_11_code (5 : Nat) (Option.some Jvm.ClassFile.FieldType.int)) ∈ WS := ws_3 197 rfl rfl
theorem wd_3_198 : (Jvm.Cond.methodLink "TradeLogsLaw" (194 : Nat) ({ cls := "TradeLogs", name := "digest", desc := "()J" } : Jvm.MethodName)) ∈ WS := ws_3 198 rfl rfl
theorem wd_3_199 : (Jvm.Cond.instanceMethod ({ cls := "TradeLogs", name := "digest", desc := "()J" } : Jvm.MethodName)) ∈ WS := ws_3 199 rfl rfl
theorem wd_3_200 : (Jvm.Cond.selects "TradeLogs" ({ cls := "TradeLogs", name := "digest", desc := "()J" } : Jvm.MethodName) ({ cls := "TradeLogs", name := "digest", desc := "()J" } : Jvm.MethodName)) ∈ WS := ws_3 200 rfl rfl
theorem wd_3_201 : (Jvm.Cond.code ({ cls := "TradeLogs", name := "digest", desc := "()J" } : Jvm.MethodName) prog_1_method_29_code (5 : Nat) (Option.some Jvm.ClassFile.FieldType.long)) ∈ WS := ws_3 201 rfl rfl
theorem wd_3_202 : (Jvm.Cond.constantLong "TradeLogs" (202 : Nat) (43434 : Int64)) ∈ WS := ws_3 202 rfl rfl
theorem wd_3_203 : (Jvm.Cond.methodLink "TradeLogs" (204 : Nat) ({ cls := "TradeLogs", name := "withValue", desc := "(JI)J" } : Jvm.MethodName)) ∈ WS := ws_3 203 rfl rfl
theorem wd_3_204 : (Jvm.Cond.static ({ cls := "TradeLogs", name := "withValue", desc := "(JI)J" } : Jvm.MethodName)) ∈ WS := ws_3 204 rfl rfl
theorem wd_3_205 : (Jvm.Cond.code ({ cls := "TradeLogs", name := "withValue", desc := "(JI)J" } : Jvm.MethodName) prog_1_method_30_code (3 : Nat) (Option.some Jvm.ClassFile.FieldType.long)) ∈ WS := ws_3 205 rfl rfl
theorem wd_3_206 : (Jvm.Cond.constantLong "TradeLogs" (217 : Nat) (31 : Int64)) ∈ WS := ws_3 206 rfl rfl
theorem wd_3_207 : (Jvm.Cond.methodLink "TradeLogs" (153 : Nat) ({ cls := "TradeLogs", name := "valueOfWhole", desc := "(I)I" } : Jvm.MethodName)) ∈ WS := ws_3 207 rfl rfl
theorem wd_3_209 : (Jvm.Cond.instanceMethod ({ cls := "TradeLogs", name := "valueOfWhole", desc := "(I)I" } : Jvm.MethodName)) ∈ WS := ws_3 209 rfl rfl
theorem wd_3_210 : (Jvm.Cond.code ({ cls := "TradeLogs", name := "valueOfWhole", desc := "(I)I" } : Jvm.MethodName) prog_1_method_33_code (2 : Nat) (Option.some Jvm.ClassFile.FieldType.int)) ∈ WS := ws_3 210 rfl rfl
theorem wd_3_211 : (Jvm.Cond.methodLink "TradeLogs" (226 : Nat) ({ cls := "TradeLogs$State", name := "wholeValue", desc := "(I)I" } : Jvm.MethodName)) ∈ WS := ws_3 211 rfl rfl
theorem wd_3_212 : (Jvm.Cond.instanceMethod ({ cls := "TradeLogs$State", name := "wholeValue", desc := "(I)I" } : Jvm.MethodName)) ∈ WS := ws_3 212 rfl rfl
theorem wd_3_213 : (Jvm.Cond.selects "TradeLogs$State" ({ cls := "TradeLogs$State", name := "wholeValue", desc := "(I)I" } : Jvm.MethodName) ({ cls := "TradeLogs$State", name := "wholeValue", desc := "(I)I" } : Jvm.MethodName)) ∈ WS := ws_3 213 rfl rfl
theorem wd_3_214 : (Jvm.Cond.code ({ cls := "TradeLogs$State", name := "wholeValue", desc := "(I)I" } : Jvm.MethodName) prog_9_method_41_code (2 : Nat) (Option.some Jvm.ClassFile.FieldType.int)) ∈ WS := ws_3 214 rfl rfl
theorem wd_3_215 : (Jvm.Cond.methodLink "TradeLogs$State" (222 : Nat) ({ cls := "TradeLogs$State", name := "sumOfApprentices", desc := "(I)I" } : Jvm.MethodName)) ∈ WS := ws_3 215 rfl rfl
theorem wd_3_217 : (Jvm.Cond.instanceMethod ({ cls := "TradeLogs$State", name := "sumOfApprentices", desc := "(I)I" } : Jvm.MethodName)) ∈ WS := ws_3 217 rfl rfl
theorem wd_3_218 : (Jvm.Cond.code ({ cls := "TradeLogs$State", name := "sumOfApprentices", desc := "(I)I" } : Jvm.MethodName) prog_9_method_42_code (5 : Nat) (Option.some Jvm.ClassFile.FieldType.int)) ∈ WS := ws_3 218 rfl rfl
theorem wd_3_219 : (Jvm.Cond.methodLink "TradeLogs$State" (215 : Nat) ({ cls := "TradeLogs$State", name := "isComplete", desc := "(LTradeLogs$Apprentice;)Z" } : Jvm.MethodName)) ∈ WS := ws_3 219 rfl rfl
theorem wd_3_221 : (Jvm.Cond.instanceMethod ({ cls := "TradeLogs$State", name := "isComplete", desc := "(LTradeLogs$Apprentice;)Z" } : Jvm.MethodName)) ∈ WS := ws_3 221 rfl rfl
theorem wd_3_222 : (Jvm.Cond.code ({ cls := "TradeLogs$State", name := "isComplete", desc := "(LTradeLogs$Apprentice;)Z" } : Jvm.MethodName) prog_9_method_16_code (3 : Nat) (Option.some Jvm.ClassFile.FieldType.boolean)) ∈ WS := ws_3 222 rfl rfl
theorem wd_3_223 : (Jvm.Cond.methodLink "TradeLogs$State" (130 : Nat) ({ cls := "TradeLogs$State", name := "missingIn", desc := "(LTradeLogs$Apprentice;I)I" } : Jvm.MethodName)) ∈ WS := ws_3 223 rfl rfl
theorem wd_3_225 : (Jvm.Cond.instanceMethod ({ cls := "TradeLogs$State", name := "missingIn", desc := "(LTradeLogs$Apprentice;I)I" } : Jvm.MethodName)) ∈ WS := ws_3 225 rfl rfl
theorem wd_3_226 : (Jvm.Cond.code ({ cls := "TradeLogs$State", name := "missingIn", desc := "(LTradeLogs$Apprentice;I)I" } : Jvm.MethodName) prog_9_method_15_code (3 : Nat) (Option.some Jvm.ClassFile.FieldType.int)) ∈ WS := ws_3 226 rfl rfl
theorem wd_3_227 : (Jvm.Cond.methodLink "TradeLogs$State" (117 : Nat) ({ cls := "TradeLogs$State", name := "needOf", desc := "(LTradeLogs$Apprentice;I)I" } : Jvm.MethodName)) ∈ WS := ws_3 227 rfl rfl
theorem wd_3_229 : (Jvm.Cond.instanceMethod ({ cls := "TradeLogs$State", name := "needOf", desc := "(LTradeLogs$Apprentice;I)I" } : Jvm.MethodName)) ∈ WS := ws_3 229 rfl rfl
theorem wd_3_230 : (Jvm.Cond.code ({ cls := "TradeLogs$State", name := "needOf", desc := "(LTradeLogs$Apprentice;I)I" } : Jvm.MethodName) prog_9_method_14_code (4 : Nat) (Option.some Jvm.ClassFile.FieldType.int)) ∈ WS := ws_3 230 rfl rfl
theorem wd_3_231 : (Jvm.Cond.methodLink "TradeLogs$State" (121 : Nat) ({ cls := "TradeLogs$Apprentice", name := "doneIn", desc := "(I)I" } : Jvm.MethodName)) ∈ WS := ws_3 231 rfl rfl
theorem wd_3_232 : (Jvm.Cond.methodLink "TradeLogs$State" (124 : Nat) ({ cls := "java/lang/Math", name := "max", desc := "(II)I" } : Jvm.MethodName)) ∈ WS := ws_3 232 rfl rfl
theorem wd_3_233 : (Jvm.Cond.static ({ cls := "java/lang/Math", name := "max", desc := "(II)I" } : Jvm.MethodName)) ∈ WS := ws_3 233 rfl rfl
theorem wd_3_234 : (Jvm.Cond.code ({ cls := "java/lang/Math", name := "max", desc := "(II)I" } : Jvm.MethodName) prog_18_method_65_code (2 : Nat) (Option.some Jvm.ClassFile.FieldType.int)) ∈ WS := ws_3 234 rfl rfl
theorem wd_3_235 : (Jvm.Cond.methodLink "TradeLogs" (134 : Nat) ({ cls := "TradeLogs$State", name := "mentorValue", desc := "(II)I" } : Jvm.MethodName)) ∈ WS := ws_3 235 rfl rfl
theorem wd_3_236 : (Jvm.Cond.instanceMethod ({ cls := "TradeLogs$State", name := "mentorValue", desc := "(II)I" } : Jvm.MethodName)) ∈ WS := ws_3 236 rfl rfl
theorem wd_3_237 : (Jvm.Cond.selects "TradeLogs$State" ({ cls := "TradeLogs$State", name := "mentorValue", desc := "(II)I" } : Jvm.MethodName) ({ cls := "TradeLogs$State", name := "mentorValue", desc := "(II)I" } : Jvm.MethodName)) ∈ WS := ws_3 237 rfl rfl
theorem wd_3_238 : (Jvm.Cond.code ({ cls := "TradeLogs$State", name := "mentorValue", desc := "(II)I" } : Jvm.MethodName) prog_9_method_36_code (3 : Nat) (Option.some Jvm.ClassFile.FieldType.int)) ∈ WS := ws_3 238 rfl rfl
theorem wd_3_239 : (Jvm.Cond.methodLink "TradeLogs$State" (202 : Nat) ({ cls := "TradeLogs$State", name := "pendingWith", desc := "(I)I" } : Jvm.MethodName)) ∈ WS := ws_3 239 rfl rfl
theorem wd_4_1 : (Jvm.Cond.instanceMethod ({ cls := "TradeLogs$State", name := "pendingWith", desc := "(I)I" } : Jvm.MethodName)) ∈ WS := ws_4 1 rfl rfl
theorem wd_4_2 : (Jvm.Cond.code ({ cls := "TradeLogs$State", name := "pendingWith", desc := "(I)I" } : Jvm.MethodName) prog_9_method_37_code (4 : Nat) (Option.some Jvm.ClassFile.FieldType.int)) ∈ WS := ws_4 2 rfl rfl
theorem wd_4_3 : (Jvm.Cond.methodLink "TradeLogs" (214 : Nat) ({ cls := "TradeLogs", name := "withApprentice", desc := "(JI)J" } : Jvm.MethodName)) ∈ WS := ws_4 3 rfl rfl
theorem wd_4_5 : (Jvm.Cond.instanceMethod ({ cls := "TradeLogs", name := "withApprentice", desc := "(JI)J" } : Jvm.MethodName)) ∈ WS := ws_4 5 rfl rfl
theorem wd_4_6 : (Jvm.Cond.code ({ cls := "TradeLogs", name := "withApprentice", desc := "(JI)J" } : Jvm.MethodName) prog_1_method_31_code (8 : Nat) (Option.some Jvm.ClassFile.FieldType.long)) ∈ WS := ws_4 6 rfl rfl
theorem wd_4_7 : (Jvm.Cond.methodLink "TradeLogs" (140 : Nat) ({ cls := "TradeLogs$State", name := "apprenticeValue", desc := "(II)I" } : Jvm.MethodName)) ∈ WS := ws_4 7 rfl rfl
theorem wd_4_8 : (Jvm.Cond.instanceMethod ({ cls := "TradeLogs$State", name := "apprenticeValue", desc := "(II)I" } : Jvm.MethodName)) ∈ WS := ws_4 8 rfl rfl
theorem wd_4_9 : (Jvm.Cond.selects "TradeLogs$State" ({ cls := "TradeLogs$State", name := "apprenticeValue", desc := "(II)I" } : Jvm.MethodName) ({ cls := "TradeLogs$State", name := "apprenticeValue", desc := "(II)I" } : Jvm.MethodName)) ∈ WS := ws_4 9 rfl rfl
theorem wd_4_10 : (Jvm.Cond.code ({ cls := "TradeLogs$State", name := "apprenticeValue", desc := "(II)I" } : Jvm.MethodName) prog_9_method_38_code (4 : Nat) (Option.some Jvm.ClassFile.FieldType.int)) ∈ WS := ws_4 10 rfl rfl
theorem wd_4_11 : (Jvm.Cond.methodLink "TradeLogs$State" (205 : Nat) ({ cls := "TradeLogs$EntryQueue", name := "hoursInAll", desc := "()I" } : Jvm.MethodName)) ∈ WS := ws_4 11 rfl rfl
theorem wd_4_12 : (Jvm.Cond.instanceMethod ({ cls := "TradeLogs$EntryQueue", name := "hoursInAll", desc := "()I" } : Jvm.MethodName)) ∈ WS := ws_4 12 rfl rfl
theorem wd_4_13 : (Jvm.Cond.selects "TradeLogs$EntryQueue" ({ cls := "TradeLogs$EntryQueue", name := "hoursInAll", desc := "()I" } : Jvm.MethodName) ({ cls := "TradeLogs$EntryQueue", name := "hoursInAll", desc := "()I" } : Jvm.MethodName)) ∈ WS := ws_4 13 rfl rfl
theorem wd_4_14 : (Jvm.Cond.code ({ cls := "TradeLogs$EntryQueue", name := "hoursInAll", desc := "()I" } : Jvm.MethodName) prog_7_method_5_code (3 : Nat) (Option.some Jvm.ClassFile.FieldType.int)) ∈ WS := ws_4 14 rfl rfl
theorem wd_4_15 : (Jvm.Cond.methodLink "TradeLogs" (146 : Nat) ({ cls := "TradeLogs$State", name := "partValue", desc := "(III)I" } : Jvm.MethodName)) ∈ WS := ws_4 15 rfl rfl
theorem wd_4_16 : (Jvm.Cond.instanceMethod ({ cls := "TradeLogs$State", name := "partValue", desc := "(III)I" } : Jvm.MethodName)) ∈ WS := ws_4 16 rfl rfl
theorem wd_4_17 : (Jvm.Cond.selects "TradeLogs$State" ({ cls := "TradeLogs$State", name := "partValue", desc := "(III)I" } : Jvm.MethodName) ({ cls := "TradeLogs$State", name := "partValue", desc := "(III)I" } : Jvm.MethodName)) ∈ WS := ws_4 17 rfl rfl
theorem wd_4_18 : (Jvm.Cond.code ({ cls := "TradeLogs$State", name := "partValue", desc := "(III)I" } : Jvm.MethodName) prog_9_method_39_code (5 : Nat) (Option.some Jvm.ClassFile.FieldType.int)) ∈ WS := ws_4 18 rfl rfl
theorem wd_4_19 : (Jvm.Cond.methodLink "TradeLogs$State" (219 : Nat) ({ cls := "TradeLogs$EntryQueue", name := "hoursOfPart", desc := "(I)I" } : Jvm.MethodName)) ∈ WS := ws_4 19 rfl rfl
theorem wd_4_20 : (Jvm.Cond.instanceMethod ({ cls := "TradeLogs$EntryQueue", name := "hoursOfPart", desc := "(I)I" } : Jvm.MethodName)) ∈ WS := ws_4 20 rfl rfl
theorem wd_4_21 : (Jvm.Cond.selects "TradeLogs$EntryQueue" ({ cls := "TradeLogs$EntryQueue", name := "hoursOfPart", desc := "(I)I" } : Jvm.MethodName) ({ cls := "TradeLogs$EntryQueue", name := "hoursOfPart", desc := "(I)I" } : Jvm.MethodName)) ∈ WS := ws_4 21 rfl rfl
theorem wd_4_22 : (Jvm.Cond.code ({ cls := "TradeLogs$EntryQueue", name := "hoursOfPart", desc := "(I)I" } : Jvm.MethodName) prog_7_method_6_code (4 : Nat) (Option.some Jvm.ClassFile.FieldType.int)) ∈ WS := ws_4 22 rfl rfl
theorem wd_4_23 : (Jvm.Cond.methodLink "TradeLogs" (219 : Nat) ({ cls := "TradeLogs", name := "withEntries", desc := "(JIZ)J" } : Jvm.MethodName)) ∈ WS := ws_4 23 rfl rfl
theorem wd_4_25 : (Jvm.Cond.instanceMethod ({ cls := "TradeLogs", name := "withEntries", desc := "(JIZ)J" } : Jvm.MethodName)) ∈ WS := ws_4 25 rfl rfl
theorem wd_4_26 : (Jvm.Cond.code ({ cls := "TradeLogs", name := "withEntries", desc := "(JIZ)J" } : Jvm.MethodName) prog_1_method_32_code (10 : Nat) (Option.some Jvm.ClassFile.FieldType.long)) ∈ WS := ws_4 26 rfl rfl
theorem wd_4_27 : (Jvm.Cond.methodLink "TradeLogs" (149 : Nat) ({ cls := "TradeLogs$State", name := "entryValue", desc := "(IZII)I" } : Jvm.MethodName)) ∈ WS := ws_4 27 rfl rfl
theorem wd_4_28 : (Jvm.Cond.instanceMethod ({ cls := "TradeLogs$State", name := "entryValue", desc := "(IZII)I" } : Jvm.MethodName)) ∈ WS := ws_4 28 rfl rfl
theorem wd_4_29 : (Jvm.Cond.selects "TradeLogs$State" ({ cls := "TradeLogs$State", name := "entryValue", desc := "(IZII)I" } : Jvm.MethodName) ({ cls := "TradeLogs$State", name := "entryValue", desc := "(IZII)I" } : Jvm.MethodName)) ∈ WS := ws_4 29 rfl rfl
theorem wd_4_30 : (Jvm.Cond.code ({ cls := "TradeLogs$State", name := "entryValue", desc := "(IZII)I" } : Jvm.MethodName) prog_9_method_40_code (6 : Nat) (Option.some Jvm.ClassFile.FieldType.int)) ∈ WS := ws_4 30 rfl rfl
theorem wd_4_31 : (Jvm.Cond.methodLink "TradeLogs" (159 : Nat) ({ cls := "TradeLogs$State", name := "leastBusyMentor", desc := "(I)I" } : Jvm.MethodName)) ∈ WS := ws_4 31 rfl rfl
theorem wd_4_32 : (Jvm.Cond.instanceMethod ({ cls := "TradeLogs$State", name := "leastBusyMentor", desc := "(I)I" } : Jvm.MethodName)) ∈ WS := ws_4 32 rfl rfl
theorem wd_4_33 : (Jvm.Cond.selects "TradeLogs$State" ({ cls := "TradeLogs$State", name := "leastBusyMentor", desc := "(I)I" } : Jvm.MethodName) ({ cls := "TradeLogs$State", name := "leastBusyMentor", desc := "(I)I" } : Jvm.MethodName)) ∈ WS := ws_4 33 rfl rfl
theorem wd_4_34 : (Jvm.Cond.code ({ cls := "TradeLogs$State", name := "leastBusyMentor", desc := "(I)I" } : Jvm.MethodName) prog_9_method_44_code (4 : Nat) (Option.some Jvm.ClassFile.FieldType.int)) ∈ WS := ws_4 34 rfl rfl
theorem wd_4_35 : (Jvm.Cond.methodLink "TradeLogs$State" (225 : Nat) ({ cls := "TradeLogs$State", name := "obstacle", desc := "(II)I" } : Jvm.MethodName)) ∈ WS := ws_4 35 rfl rfl
theorem wd_4_36 : (Jvm.Cond.methodLink "TradeLogs$State" (228 : Nat) ({ cls := "TradeLogs$State", name := "isLessBusy", desc := "(II)Z" } : Jvm.MethodName)) ∈ WS := ws_4 36 rfl rfl
theorem wd_4_38 : (Jvm.Cond.instanceMethod ({ cls := "TradeLogs$State", name := "isLessBusy", desc := "(II)Z" } : Jvm.MethodName)) ∈ WS := ws_4 38 rfl rfl
theorem wd_4_39 : (Jvm.Cond.code ({ cls := "TradeLogs$State", name := "isLessBusy", desc := "(II)Z" } : Jvm.MethodName) prog_9_method_45_code (3 : Nat) (Option.some Jvm.ClassFile.FieldType.boolean)) ∈ WS := ws_4 39 rfl rfl
theorem wd_4_40 : (Jvm.Cond.methodLink "TradeLogs" (169 : Nat) ({ cls := "TradeLogs$State", name := "firstRelease", desc := "(II)I" } : Jvm.MethodName)) ∈ WS := ws_4 40 rfl rfl
theorem wd_4_41 : (Jvm.Cond.instanceMethod ({ cls := "TradeLogs$State", name := "firstRelease", desc := "(II)I" } : Jvm.MethodName)) ∈ WS := ws_4 41 rfl rfl
theorem wd_4_42 : (Jvm.Cond.selects "TradeLogs$State" ({ cls := "TradeLogs$State", name := "firstRelease", desc := "(II)I" } : Jvm.MethodName) ({ cls := "TradeLogs$State", name := "firstRelease", desc := "(II)I" } : Jvm.MethodName)) ∈ WS := ws_4 42 rfl rfl
theorem wd_4_43 : (Jvm.Cond.code ({ cls := "TradeLogs$State", name := "firstRelease", desc := "(II)I" } : Jvm.MethodName) prog_9_method_47_code (3 : Nat) (Option.some Jvm.ClassFile.FieldType.int)) ∈ WS := ws_4 43 rfl rfl
theorem wd_4_44 : (Jvm.Cond.methodLink "TradeLogs$State" (234 : Nat) ({ cls := "TradeLogs$DaySet", name := "firstFrom", desc := "(I)I" } : Jvm.MethodName)) ∈ WS := ws_4 44 rfl rfl
theorem wd_4_45 : (Jvm.Cond.instanceMethod ({ cls := "TradeLogs$DaySet", name := "firstFrom", desc := "(I)I" } : Jvm.MethodName)) ∈ WS := ws_4 45 rfl rfl
theorem wd_4_46 : (Jvm.Cond.selects "TradeLogs$DaySet" ({ cls := "TradeLogs$DaySet", name := "firstFrom", desc := "(I)I" } : Jvm.MethodName) ({ cls := "TradeLogs$DaySet", name := "firstFrom", desc := "(I)I" } : Jvm.MethodName)) ∈ WS := ws_4 46 rfl rfl
theorem wd_4_47 : (Jvm.Cond.code ({ cls := "TradeLogs$DaySet", name := "firstFrom", desc := "(I)I" } : Jvm.MethodName) prog_6_method_4_code (3 : Nat) (Option.some Jvm.ClassFile.FieldType.int)) ∈ WS := ws_4 47 rfl rfl
theorem wd_4_48 : (Jvm.Cond.methodLink "TradeLogs$DaySet" (23 : Nat) ({ cls := "java/lang/Math", name := "max", desc := "(II)I" } : Jvm.MethodName)) ∈ WS := ws_4 48 rfl rfl
theorem wd_4_49 : (Jvm.Cond.methodLink "TradeLogsLaw" (100 : Nat) ({ cls := "TradeLogsLaw", name := "addTrade", desc := "(LTradeLogs;III[J)I" } : Jvm.MethodName)) ∈ WS := ws_4 49 rfl rfl
theorem wd_4_50 : (Jvm.Cond.static ({ cls := "TradeLogsLaw", name := "addTrade", desc := "(LTradeLogs;III[J)I" } : Jvm.MethodName)) ∈ WS := ws_4 50 rfl rfl
theorem wd_4_52 : (Jvm.Cond.classLink "TradeLogsLaw" (13 : Nat) "java/lang/IllegalArgumentException") ∈ WS := ws_4 52 rfl rfl
theorem wd_4_53 : (Jvm.Cond.classLink "TradeLogsLaw" (15 : Nat) "java/lang/IllegalStateException") ∈ WS := ws_4 53 rfl rfl
theorem wd_4_54 : (Jvm.Cond.methodLink "TradeLogsLaw" (7 : Nat) ({ cls := "TradeLogs", name := "addTrade", desc := "(III)I" } : Jvm.MethodName)) ∈ WS := ws_4 54 rfl rfl
theorem wd_4_55 : (Jvm.Cond.instanceMethod ({ cls := "TradeLogs", name := "addTrade", desc := "(III)I" } : Jvm.MethodName)) ∈ WS := ws_4 55 rfl rfl
theorem wd_4_56 : (Jvm.Cond.selects "TradeLogs" ({ cls := "TradeLogs", name := "addTrade", desc := "(III)I" } : Jvm.MethodName) ({ cls := "TradeLogs", name := "addTrade", desc := "(III)I" } : Jvm.MethodName)) ∈ WS := ws_4 56 rfl rfl
theorem wd_4_57 : (Jvm.Cond.code ({ cls := "TradeLogs", name := "addTrade", desc := "(III)I" } : Jvm.MethodName) prog_1_method_2_code (4 : Nat) (Option.some Jvm.ClassFile.FieldType.int)) ∈ WS := ws_4 57 rfl rfl
theorem wd_4_58 : (Jvm.Cond.methodLink "TradeLogs" (34 : Nat) ({ cls := "TradeLogs", name := "refuse", desc := "(I)V" } : Jvm.MethodName)) ∈ WS := ws_4 58 rfl rfl
theorem wd_4_59 : (Jvm.Cond.static ({ cls := "TradeLogs", name := "refuse", desc := "(I)V" } : Jvm.MethodName)) ∈ WS := ws_4 59 rfl rfl
theorem wd_4_60 : (Jvm.Cond.code ({ cls := "TradeLogs", name := "refuse", desc := "(I)V" } : Jvm.MethodName) prog_1_method_34_code (1 : Nat) (Option.none : Option Jvm.ClassFile.FieldType)) ∈ WS := ws_4 60 rfl rfl
theorem wd_4_61 : (Jvm.Cond.classLink "TradeLogs" (229 : Nat) "java/lang/IndexOutOfBoundsException") ∈ WS := ws_4 61 rfl rfl
theorem wd_4_62 : (Jvm.Cond.instantiable "java/lang/IndexOutOfBoundsException" (6 : Nat)) ∈ WS := ws_4 62 rfl rfl
theorem wd_4_70 : (Jvm.Cond.selects "java/lang/IndexOutOfBoundsException" ({ cls := "java/lang/Throwable", name := "fillInStackTrace", desc := "(I)Ljava/lang/Throwable;" } : Jvm.MethodName) ({ cls := "java/lang/Throwable", name := "fillInStackTrace", desc := "(I)Ljava/lang/Throwable;" } : Jvm.MethodName)) ∈ WS := ws_4 70 rfl rfl
theorem wd_4_71 : (Jvm.Cond.selects "java/lang/IndexOutOfBoundsException" ({ cls := "java/lang/Throwable", name := "fillInStackTrace", desc := "()Ljava/lang/Throwable;" } : Jvm.MethodName) ({ cls := "java/lang/Throwable", name := "fillInStackTrace", desc := "()Ljava/lang/Throwable;" } : Jvm.MethodName)) ∈ WS := ws_4 71 rfl rfl
theorem wd_4_72 : (Jvm.Cond.lays "java/lang/IndexOutOfBoundsException" "java/lang/Throwable" "cause" "Ljava/lang/Throwable;") ∈ WS := ws_4 72 rfl rfl
theorem wd_4_73 : (Jvm.Cond.lays "java/lang/Throwable" "java/lang/Throwable" "cause" "Ljava/lang/Throwable;") ∈ WS := ws_4 73 rfl rfl
theorem wd_4_74 : (Jvm.Cond.lays "java/lang/IndexOutOfBoundsException" "java/lang/Throwable" "stackTrace" "[Ljava/lang/StackTraceElement;") ∈ WS := ws_4 74 rfl rfl
theorem wd_4_75 : (Jvm.Cond.lays "java/lang/Throwable" "java/lang/Throwable" "stackTrace" "[Ljava/lang/StackTraceElement;") ∈ WS := ws_4 75 rfl rfl
theorem wd_4_76 : (Jvm.Cond.lays "java/lang/IndexOutOfBoundsException" "java/lang/Throwable" "suppressedExceptions" "Ljava/util/List;") ∈ WS := ws_4 76 rfl rfl
theorem wd_4_77 : (Jvm.Cond.lays "java/lang/Throwable" "java/lang/Throwable" "suppressedExceptions" "Ljava/util/List;") ∈ WS := ws_4 77 rfl rfl
theorem wd_4_78 : (Jvm.Cond.lays "java/lang/IndexOutOfBoundsException" "java/lang/Throwable" "detailMessage" "Ljava/lang/String;") ∈ WS := ws_4 78 rfl rfl
theorem wd_4_79 : (Jvm.Cond.lays "java/lang/Throwable" "java/lang/Throwable" "detailMessage" "Ljava/lang/String;") ∈ WS := ws_4 79 rfl rfl
theorem wd_4_80 : (Jvm.Cond.lays "java/lang/IndexOutOfBoundsException" "java/lang/Throwable" "backtrace" "Ljava/lang/Object;") ∈ WS := ws_4 80 rfl rfl
theorem wd_4_81 : (Jvm.Cond.lays "java/lang/Throwable" "java/lang/Throwable" "backtrace" "Ljava/lang/Object;") ∈ WS := ws_4 81 rfl rfl
theorem wd_4_82 : (Jvm.Cond.fieldLink "java/lang/Throwable" (198 : Nat) "java/lang/Throwable" "backtrace" "Ljava/lang/Object;") ∈ WS := ws_4 82 rfl rfl
theorem wd_4_84 : (Jvm.Cond.instanceMethod ({ cls := "java/lang/Throwable", name := "<init>", desc := "()V" } : Jvm.MethodName)) ∈ WS := ws_4 84 rfl rfl
theorem wd_4_85 : (Jvm.Cond.code ({ cls := "java/lang/Throwable", name := "<init>", desc := "()V" } : Jvm.MethodName) prog_24_method_1_code (1 : Nat) (Option.none : Option Jvm.ClassFile.FieldType)) ∈ WS := ws_4 85 rfl rfl
theorem wd_4_86 : (Jvm.Cond.methodLink "java/lang/Throwable" (1 : Nat) ({ cls := "java/lang/Object", name := "<init>", desc := "()V" } : Jvm.MethodName)) ∈ WS := ws_4 86 rfl rfl
theorem wd_4_87 : (Jvm.Cond.fieldLink "java/lang/Throwable" (13 : Nat) "java/lang/Throwable" "UNASSIGNED_STACK" "[Ljava/lang/StackTraceElement;") ∈ WS := ws_4 87 rfl rfl
theorem wd_4_89 : (Jvm.Cond.fieldLink "java/lang/Throwable" (20 : Nat) "java/lang/Throwable" "SUPPRESSED_SENTINEL" "Ljava/util/List;") ∈ WS := ws_4 89 rfl rfl
theorem wd_4_91 : (Jvm.Cond.methodLink "java/lang/Throwable" (27 : Nat) ({ cls := "java/lang/Throwable", name := "fillInStackTrace", desc := "()Ljava/lang/Throwable;" } : Jvm.MethodName)) ∈ WS := ws_4 91 rfl rfl
theorem wd_4_92 : (Jvm.Cond.instanceMethod ({ cls := "java/lang/Throwable", name := "fillInStackTrace", desc := "()Ljava/lang/Throwable;" } : Jvm.MethodName)) ∈ WS := ws_4 92 rfl rfl
theorem wd_4_94 : (Jvm.Cond.selects "java/lang/IllegalArgumentException" ({ cls := "java/lang/Throwable", name := "fillInStackTrace", desc := "()Ljava/lang/Throwable;" } : Jvm.MethodName) ({ cls := "java/lang/Throwable", name := "fillInStackTrace", desc := "()Ljava/lang/Throwable;" } : Jvm.MethodName)) ∈ WS := ws_4 94 rfl rfl
theorem wd_4_95 : (Jvm.Cond.selects "java/lang/IllegalStateException" ({ cls := "java/lang/Throwable", name := "fillInStackTrace", desc := "()Ljava/lang/Throwable;" } : Jvm.MethodName) ({ cls := "java/lang/Throwable", name := "fillInStackTrace", desc := "()Ljava/lang/Throwable;" } : Jvm.MethodName)) ∈ WS := ws_4 95 rfl rfl
theorem wd_4_97 : (Jvm.Cond.methodLink "java/lang/Throwable" (202 : Nat) ({ cls := "java/lang/Throwable", name := "fillInStackTrace", desc := "(I)Ljava/lang/Throwable;" } : Jvm.MethodName)) ∈ WS := ws_4 97 rfl rfl
theorem wd_4_99 : (Jvm.Cond.instanceMethod ({ cls := "java/lang/Throwable", name := "fillInStackTrace", desc := "(I)Ljava/lang/Throwable;" } : Jvm.MethodName)) ∈ WS := ws_4 99 rfl rfl
theorem wd_4_100 : (Jvm.Cond.instantiable "java/lang/Throwable" (6 : Nat)) ∈ WS := ws_4 100 rfl rfl
theorem wd_4_101 : (Jvm.Cond.native ({ cls := "java/lang/Throwable", name := "fillInStackTrace", desc := "(I)Ljava/lang/Throwable;" } : Jvm.MethodName)) ∈ WS := ws_4 101 rfl rfl
theorem wd_4_103 : (Jvm.Cond.methodLink "TradeLogs" (233 : Nat) ({ cls := "java/lang/IndexOutOfBoundsException", name := "<init>", desc := "(Ljava/lang/String;)V" } : Jvm.MethodName)) ∈ WS := ws_4 103 rfl rfl
theorem wd_4_104 : (Jvm.Cond.instanceMethod ({ cls := "java/lang/IndexOutOfBoundsException", name := "<init>", desc := "(Ljava/lang/String;)V" } : Jvm.MethodName)) ∈ WS := ws_4 104 rfl rfl
theorem wd_4_105 : (Jvm.Cond.code ({ cls := "java/lang/IndexOutOfBoundsException", name := "<init>", desc := "(Ljava/lang/String;)V" } : Jvm.MethodName) prog_17_method_2_code (2 : Nat) (Option.none : Option Jvm.ClassFile.FieldType)) ∈ WS := ws_4 105 rfl rfl
theorem wd_4_106 : (Jvm.Cond.methodLink "java/lang/IndexOutOfBoundsException" (7 : Nat) ({ cls := "java/lang/RuntimeException", name := "<init>", desc := "(Ljava/lang/String;)V" } : Jvm.MethodName)) ∈ WS := ws_4 106 rfl rfl
theorem wd_4_107 : (Jvm.Cond.instanceMethod ({ cls := "java/lang/RuntimeException", name := "<init>", desc := "(Ljava/lang/String;)V" } : Jvm.MethodName)) ∈ WS := ws_4 107 rfl rfl
theorem wd_4_108 : (Jvm.Cond.code ({ cls := "java/lang/RuntimeException", name := "<init>", desc := "(Ljava/lang/String;)V" } : Jvm.MethodName) prog_19_method_2_code (2 : Nat) (Option.none : Option Jvm.ClassFile.FieldType)) ∈ WS := ws_4 108 rfl rfl
theorem wd_4_109 : (Jvm.Cond.methodLink "java/lang/RuntimeException" (7 : Nat) ({ cls := "java/lang/Exception", name := "<init>", desc := "(Ljava/lang/String;)V" } : Jvm.MethodName)) ∈ WS := ws_4 109 rfl rfl
theorem wd_4_110 : (Jvm.Cond.instanceMethod ({ cls := "java/lang/Exception", name := "<init>", desc := "(Ljava/lang/String;)V" } : Jvm.MethodName)) ∈ WS := ws_4 110 rfl rfl
theorem wd_4_111 : (Jvm.Cond.code ({ cls := "java/lang/Exception", name := "<init>", desc := "(Ljava/lang/String;)V" } : Jvm.MethodName) prog_14_method_2_code (2 : Nat) (Option.none : Option Jvm.ClassFile.FieldType)) ∈ WS := ws_4 111 rfl rfl
theorem wd_4_112 : (Jvm.Cond.methodLink "java/lang/Exception" (7 : Nat) ({ cls := "java/lang/Throwable", name := "<init>", desc := "(Ljava/lang/String;)V" } : Jvm.MethodName)) ∈ WS := ws_4 112 rfl rfl
theorem wd_4_113 : (Jvm.Cond.instanceMethod ({ cls := "java/lang/Throwable", name := "<init>", desc := "(Ljava/lang/String;)V" } : Jvm.MethodName)) ∈ WS := ws_4 113 rfl rfl
theorem wd_4_114 : (Jvm.Cond.code ({ cls := "java/lang/Throwable", name := "<init>", desc := "(Ljava/lang/String;)V" } : Jvm.MethodName) prog_24_method_2_code (2 : Nat) (Option.none : Option Jvm.ClassFile.FieldType)) ∈ WS := ws_4 114 rfl rfl
theorem wd_4_115 : (Jvm.Cond.fieldLink "java/lang/Throwable" (198 : Nat) "java/lang/Throwable" "backtrace" "Ljava/lang/Object;") ∈ WS := ws_4 115 rfl rfl
theorem wd_4_116 : (Jvm.Cond.fieldLink "java/lang/Throwable" (31 : Nat) "java/lang/Throwable" "detailMessage" "Ljava/lang/String;") ∈ WS := ws_4 116 rfl rfl
theorem wd_4_117 : (Jvm.Cond.fieldLink "java/lang/Throwable" (7 : Nat) "java/lang/Throwable" "cause" "Ljava/lang/Throwable;") ∈ WS := ws_4 117 rfl rfl
theorem wd_4_118 : (Jvm.Cond.fieldLink "java/lang/Throwable" (17 : Nat) "java/lang/Throwable" "stackTrace" "[Ljava/lang/StackTraceElement;") ∈ WS := ws_4 118 rfl rfl
theorem wd_4_119 : (Jvm.Cond.fieldLink "java/lang/Throwable" (24 : Nat) "java/lang/Throwable" "suppressedExceptions" "Ljava/util/List;") ∈ WS := ws_4 119 rfl rfl
theorem wd_4_124 : (Jvm.Cond.lays "java/lang/IndexOutOfBoundsException" "java/lang/Throwable" "depth" "I") ∈ WS := ws_4 124 rfl rfl
theorem wd_4_128 : (Jvm.Cond.arrayClass Jvm.ClassFile.FieldType.byte) ∈ WS := ws_4 128 rfl rfl
theorem wd_4_129 : (Jvm.Cond.classLink "TradeLogs" (236 : Nat) "java/lang/IllegalArgumentException") ∈ WS := ws_4 129 rfl rfl
theorem wd_4_130 : (Jvm.Cond.instantiable "java/lang/IllegalArgumentException" (6 : Nat)) ∈ WS := ws_4 130 rfl rfl
theorem wd_4_132 : (Jvm.Cond.selects "java/lang/IllegalArgumentException" ({ cls := "java/lang/Throwable", name := "fillInStackTrace", desc := "(I)Ljava/lang/Throwable;" } : Jvm.MethodName) ({ cls := "java/lang/Throwable", name := "fillInStackTrace", desc := "(I)Ljava/lang/Throwable;" } : Jvm.MethodName)) ∈ WS := ws_4 132 rfl rfl
theorem wd_4_133 : (Jvm.Cond.lays "java/lang/IllegalArgumentException" "java/lang/Throwable" "cause" "Ljava/lang/Throwable;") ∈ WS := ws_4 133 rfl rfl
theorem wd_4_134 : (Jvm.Cond.lays "java/lang/IllegalArgumentException" "java/lang/Throwable" "stackTrace" "[Ljava/lang/StackTraceElement;") ∈ WS := ws_4 134 rfl rfl
theorem wd_4_135 : (Jvm.Cond.lays "java/lang/IllegalArgumentException" "java/lang/Throwable" "suppressedExceptions" "Ljava/util/List;") ∈ WS := ws_4 135 rfl rfl
theorem wd_4_136 : (Jvm.Cond.lays "java/lang/IllegalArgumentException" "java/lang/Throwable" "detailMessage" "Ljava/lang/String;") ∈ WS := ws_4 136 rfl rfl
theorem wd_4_137 : (Jvm.Cond.lays "java/lang/IllegalArgumentException" "java/lang/Throwable" "backtrace" "Ljava/lang/Object;") ∈ WS := ws_4 137 rfl rfl
theorem wd_4_139 : (Jvm.Cond.methodLink "TradeLogs" (240 : Nat) ({ cls := "java/lang/IllegalArgumentException", name := "<init>", desc := "(Ljava/lang/String;)V" } : Jvm.MethodName)) ∈ WS := ws_4 139 rfl rfl
theorem wd_4_140 : (Jvm.Cond.instanceMethod ({ cls := "java/lang/IllegalArgumentException", name := "<init>", desc := "(Ljava/lang/String;)V" } : Jvm.MethodName)) ∈ WS := ws_4 140 rfl rfl
theorem wd_4_141 : (Jvm.Cond.code ({ cls := "java/lang/IllegalArgumentException", name := "<init>", desc := "(Ljava/lang/String;)V" } : Jvm.MethodName) prog_15_method_2_code (2 : Nat) (Option.none : Option Jvm.ClassFile.FieldType)) ∈ WS := ws_4 141 rfl rfl
theorem wd_4_142 : (Jvm.Cond.methodLink "java/lang/IllegalArgumentException" (7 : Nat) ({ cls := "java/lang/RuntimeException", name := "<init>", desc := "(Ljava/lang/String;)V" } : Jvm.MethodName)) ∈ WS := ws_4 142 rfl rfl
theorem wd_4_143 : (Jvm.Cond.lays "java/lang/IllegalArgumentException" "java/lang/Throwable" "depth" "I") ∈ WS := ws_4 143 rfl rfl
theorem wd_4_145 : (Jvm.Cond.classLink "TradeLogs" (241 : Nat) "java/lang/IllegalStateException") ∈ WS := ws_4 145 rfl rfl
theorem wd_4_146 : (Jvm.Cond.instantiable "java/lang/IllegalStateException" (6 : Nat)) ∈ WS := ws_4 146 rfl rfl
theorem wd_4_148 : (Jvm.Cond.selects "java/lang/IllegalStateException" ({ cls := "java/lang/Throwable", name := "fillInStackTrace", desc := "(I)Ljava/lang/Throwable;" } : Jvm.MethodName) ({ cls := "java/lang/Throwable", name := "fillInStackTrace", desc := "(I)Ljava/lang/Throwable;" } : Jvm.MethodName)) ∈ WS := ws_4 148 rfl rfl
theorem wd_4_149 : (Jvm.Cond.lays "java/lang/IllegalStateException" "java/lang/Throwable" "cause" "Ljava/lang/Throwable;") ∈ WS := ws_4 149 rfl rfl
theorem wd_4_150 : (Jvm.Cond.lays "java/lang/IllegalStateException" "java/lang/Throwable" "stackTrace" "[Ljava/lang/StackTraceElement;") ∈ WS := ws_4 150 rfl rfl
theorem wd_4_151 : (Jvm.Cond.lays "java/lang/IllegalStateException" "java/lang/Throwable" "suppressedExceptions" "Ljava/util/List;") ∈ WS := ws_4 151 rfl rfl
theorem wd_4_152 : (Jvm.Cond.lays "java/lang/IllegalStateException" "java/lang/Throwable" "detailMessage" "Ljava/lang/String;") ∈ WS := ws_4 152 rfl rfl
theorem wd_4_153 : (Jvm.Cond.lays "java/lang/IllegalStateException" "java/lang/Throwable" "backtrace" "Ljava/lang/Object;") ∈ WS := ws_4 153 rfl rfl
theorem wd_4_155 : (Jvm.Cond.methodLink "TradeLogs" (245 : Nat) ({ cls := "java/lang/IllegalStateException", name := "<init>", desc := "(Ljava/lang/String;)V" } : Jvm.MethodName)) ∈ WS := ws_4 155 rfl rfl
theorem wd_4_156 : (Jvm.Cond.instanceMethod ({ cls := "java/lang/IllegalStateException", name := "<init>", desc := "(Ljava/lang/String;)V" } : Jvm.MethodName)) ∈ WS := ws_4 156 rfl rfl
theorem wd_4_157 : (Jvm.Cond.code ({ cls := "java/lang/IllegalStateException", name := "<init>", desc := "(Ljava/lang/String;)V" } : Jvm.MethodName) prog_16_method_2_code (2 : Nat) (Option.none : Option Jvm.ClassFile.FieldType)) ∈ WS := ws_4 157 rfl rfl
theorem wd_4_158 : (Jvm.Cond.methodLink "java/lang/IllegalStateException" (7 : Nat) ({ cls := "java/lang/RuntimeException", name := "<init>", desc := "(Ljava/lang/String;)V" } : Jvm.MethodName)) ∈ WS := ws_4 158 rfl rfl
theorem wd_4_159 : (Jvm.Cond.lays "java/lang/IllegalStateException" "java/lang/Throwable" "depth" "I") ∈ WS := ws_4 159 rfl rfl
theorem wd_4_161 : (Jvm.Cond.methodLink "TradeLogsLaw" (109 : Nat) ({ cls := "TradeLogsLaw", name := "addMentor", desc := "(LTradeLogs;II[J)I" } : Jvm.MethodName)) ∈ WS := ws_4 161 rfl rfl
theorem wd_4_162 : (Jvm.Cond.static ({ cls := "TradeLogsLaw", name := "addMentor", desc := "(LTradeLogs;II[J)I" } : Jvm.MethodName)) ∈ WS := ws_4 162 rfl rfl
theorem wd_4_164 : (Jvm.Cond.methodLink "TradeLogsLaw" (17 : Nat) ({ cls := "TradeLogs", name := "addMentor", desc := "(II)I" } : Jvm.MethodName)) ∈ WS := ws_4 164 rfl rfl
theorem wd_4_165 : (Jvm.Cond.instanceMethod ({ cls := "TradeLogs", name := "addMentor", desc := "(II)I" } : Jvm.MethodName)) ∈ WS := ws_4 165 rfl rfl
theorem wd_4_166 : (Jvm.Cond.selects "TradeLogs" ({ cls := "TradeLogs", name := "addMentor", desc := "(II)I" } : Jvm.MethodName) ({ cls := "TradeLogs", name := "addMentor", desc := "(II)I" } : Jvm.MethodName)) ∈ WS := ws_4 166 rfl rfl
theorem wd_4_167 : (Jvm.Cond.code ({ cls := "TradeLogs", name := "addMentor", desc := "(II)I" } : Jvm.MethodName) prog_1_method_3_code (3 : Nat) (Option.some Jvm.ClassFile.FieldType.int)) ∈ WS := ws_4 167 rfl rfl
theorem wd_4_168 : (Jvm.Cond.methodLink "TradeLogsLaw" (113 : Nat) ({ cls := "TradeLogsLaw", name := "addApprentice", desc := "(LTradeLogs;II[J)I" } : Jvm.MethodName)) ∈ WS := ws_4 168 rfl rfl
theorem wd_4_169 : (Jvm.Cond.static ({ cls := "TradeLogsLaw", name := "addApprentice", desc := "(LTradeLogs;II[J)I" } : Jvm.MethodName)) ∈ WS := ws_4 169 rfl rfl
theorem wd_4_171 : (Jvm.Cond.classLink "TradeLogsLaw" (24 : Nat) "java/lang/IndexOutOfBoundsException") ∈ WS := ws_4 171 rfl rfl
theorem wd_4_172 : (Jvm.Cond.methodLink "TradeLogsLaw" (21 : Nat) ({ cls := "TradeLogs", name := "addApprentice", desc := "(II)I" } : Jvm.MethodName)) ∈ WS := ws_4 172 rfl rfl
theorem wd_4_173 : (Jvm.Cond.instanceMethod ({ cls := "TradeLogs", name := "addApprentice", desc := "(II)I" } : Jvm.MethodName)) ∈ WS := ws_4 173 rfl rfl
theorem wd_4_174 : (Jvm.Cond.selects "TradeLogs" ({ cls := "TradeLogs", name := "addApprentice", desc := "(II)I" } : Jvm.MethodName) ({ cls := "TradeLogs", name := "addApprentice", desc := "(II)I" } : Jvm.MethodName)) ∈ WS := ws_4 174 rfl rfl
theorem wd_4_175 : (Jvm.Cond.code ({ cls := "TradeLogs", name := "addApprentice", desc := "(II)I" } : Jvm.MethodName) prog_1_method_4_code (3 : Nat) (Option.some Jvm.ClassFile.FieldType.int)) ∈ WS := ws_4 175 rfl rfl
theorem wd_4_176 : (Jvm.Cond.methodLink "TradeLogsLaw" (116 : Nat) ({ cls := "TradeLogsLaw", name := "release", desc := "(LTradeLogs;II[J)I" } : Jvm.MethodName)) ∈ WS := ws_4 176 rfl rfl
theorem wd_4_177 : (Jvm.Cond.static ({ cls := "TradeLogsLaw", name := "release", desc := "(LTradeLogs;II[J)I" } : Jvm.MethodName)) ∈ WS := ws_4 177 rfl rfl
theorem wd_4_179 : (Jvm.Cond.methodLink "TradeLogsLaw" (26 : Nat) ({ cls := "TradeLogs", name := "release", desc := "(II)I" } : Jvm.MethodName)) ∈ WS := ws_4 179 rfl rfl
theorem wd_4_180 : (Jvm.Cond.instanceMethod ({ cls := "TradeLogs", name := "release", desc := "(II)I" } : Jvm.MethodName)) ∈ WS := ws_4 180 rfl rfl
theorem wd_4_181 : (Jvm.Cond.selects "TradeLogs" ({ cls := "TradeLogs", name := "release", desc := "(II)I" } : Jvm.MethodName) ({ cls := "TradeLogs", name := "release", desc := "(II)I" } : Jvm.MethodName)) ∈ WS := ws_4 181 rfl rfl
theorem wd_4_182 : (Jvm.Cond.code ({ cls := "TradeLogs", name := "release", desc := "(II)I" } : Jvm.MethodName) prog_1_method_5_code (3 : Nat) (Option.some Jvm.ClassFile.FieldType.int)) ∈ WS := ws_4 182 rfl rfl
theorem wd_4_183 : (Jvm.Cond.methodLink "TradeLogsLaw" (119 : Nat) ({ cls := "TradeLogsLaw", name := "log", desc := "(LTradeLogs;III[J)I" } : Jvm.MethodName)) ∈ WS := ws_4 183 rfl rfl
theorem wd_4_184 : (Jvm.Cond.static ({ cls := "TradeLogsLaw", name := "log", desc := "(LTradeLogs;III[J)I" } : Jvm.MethodName)) ∈ WS := ws_4 184 rfl rfl
theorem wd_4_186 : (Jvm.Cond.methodLink "TradeLogsLaw" (29 : Nat) ({ cls := "TradeLogs", name := "log", desc := "(III)I" } : Jvm.MethodName)) ∈ WS := ws_4 186 rfl rfl
theorem wd_4_187 : (Jvm.Cond.instanceMethod ({ cls := "TradeLogs", name := "log", desc := "(III)I" } : Jvm.MethodName)) ∈ WS := ws_4 187 rfl rfl
theorem wd_4_188 : (Jvm.Cond.selects "TradeLogs" ({ cls := "TradeLogs", name := "log", desc := "(III)I" } : Jvm.MethodName) ({ cls := "TradeLogs", name := "log", desc := "(III)I" } : Jvm.MethodName)) ∈ WS := ws_4 188 rfl rfl
theorem wd_4_189 : (Jvm.Cond.code ({ cls := "TradeLogs", name := "log", desc := "(III)I" } : Jvm.MethodName) prog_1_method_6_code (4 : Nat) (Option.some Jvm.ClassFile.FieldType.int)) ∈ WS := ws_4 189 rfl rfl
theorem wd_4_190 : (Jvm.Cond.methodLink "TradeLogsLaw" (122 : Nat) ({ cls := "TradeLogsLaw", name := "confirm", desc := "(LTradeLogs;II[J)I" } : Jvm.MethodName)) ∈ WS := ws_4 190 rfl rfl
theorem wd_4_191 : (Jvm.Cond.static ({ cls := "TradeLogsLaw", name := "confirm", desc := "(LTradeLogs;II[J)I" } : Jvm.MethodName)) ∈ WS := ws_4 191 rfl rfl
theorem wd_4_193 : (Jvm.Cond.methodLink "TradeLogsLaw" (32 : Nat) ({ cls := "TradeLogs", name := "confirm", desc := "(II)I" } : Jvm.MethodName)) ∈ WS := ws_4 193 rfl rfl
theorem wd_4_194 : (Jvm.Cond.instanceMethod ({ cls := "TradeLogs", name := "confirm", desc := "(II)I" } : Jvm.MethodName)) ∈ WS := ws_4 194 rfl rfl
theorem wd_4_195 : (Jvm.Cond.selects "TradeLogs" ({ cls := "TradeLogs", name := "confirm", desc := "(II)I" } : Jvm.MethodName) ({ cls := "TradeLogs", name := "confirm", desc := "(II)I" } : Jvm.MethodName)) ∈ WS := ws_4 195 rfl rfl
theorem wd_4_196 : (Jvm.Cond.code ({ cls := "TradeLogs", name := "confirm", desc := "(II)I" } : Jvm.MethodName) prog_1_method_7_code (3 : Nat) (Option.some Jvm.ClassFile.FieldType.int)) ∈ WS := ws_4 196 rfl rfl
theorem wd_4_197 : (Jvm.Cond.methodLink "TradeLogsLaw" (125 : Nat) ({ cls := "TradeLogsLaw", name := "doubt", desc := "(LTradeLogs;I[J)I" } : Jvm.MethodName)) ∈ WS := ws_4 197 rfl rfl
theorem wd_4_198 : (Jvm.Cond.static ({ cls := "TradeLogsLaw", name := "doubt", desc := "(LTradeLogs;I[J)I" } : Jvm.MethodName)) ∈ WS := ws_4 198 rfl rfl
theorem wd_4_200 : (Jvm.Cond.methodLink "TradeLogsLaw" (35 : Nat) ({ cls := "TradeLogs", name := "doubt", desc := "(I)I" } : Jvm.MethodName)) ∈ WS := ws_4 200 rfl rfl
theorem wd_4_201 : (Jvm.Cond.instanceMethod ({ cls := "TradeLogs", name := "doubt", desc := "(I)I" } : Jvm.MethodName)) ∈ WS := ws_4 201 rfl rfl
theorem wd_4_202 : (Jvm.Cond.selects "TradeLogs" ({ cls := "TradeLogs", name := "doubt", desc := "(I)I" } : Jvm.MethodName) ({ cls := "TradeLogs", name := "doubt", desc := "(I)I" } : Jvm.MethodName)) ∈ WS := ws_4 202 rfl rfl
theorem wd_4_203 : (Jvm.Cond.code ({ cls := "TradeLogs", name := "doubt", desc := "(I)I" } : Jvm.MethodName) prog_1_method_8_code (2 : Nat) (Option.some Jvm.ClassFile.FieldType.int)) ∈ WS := ws_4 203 rfl rfl
theorem wd_4_204 : (Jvm.Cond.methodLink "TradeLogsLaw" (129 : Nat) ({ cls := "TradeLogsLaw", name := "settle", desc := "(LTradeLogs;IZ[J)I" } : Jvm.MethodName)) ∈ WS := ws_4 204 rfl rfl
theorem wd_4_205 : (Jvm.Cond.static ({ cls := "TradeLogsLaw", name := "settle", desc := "(LTradeLogs;IZ[J)I" } : Jvm.MethodName)) ∈ WS := ws_4 205 rfl rfl
theorem wd_4_207 : (Jvm.Cond.methodLink "TradeLogsLaw" (39 : Nat) ({ cls := "TradeLogs", name := "settle", desc := "(IZ)I" } : Jvm.MethodName)) ∈ WS := ws_4 207 rfl rfl
theorem wd_4_208 : (Jvm.Cond.instanceMethod ({ cls := "TradeLogs", name := "settle", desc := "(IZ)I" } : Jvm.MethodName)) ∈ WS := ws_4 208 rfl rfl
theorem wd_4_209 : (Jvm.Cond.selects "TradeLogs" ({ cls := "TradeLogs", name := "settle", desc := "(IZ)I" } : Jvm.MethodName) ({ cls := "TradeLogs", name := "settle", desc := "(IZ)I" } : Jvm.MethodName)) ∈ WS := ws_4 209 rfl rfl
theorem wd_4_210 : (Jvm.Cond.code ({ cls := "TradeLogs", name := "settle", desc := "(IZ)I" } : Jvm.MethodName) prog_1_method_9_code (3 : Nat) (Option.some Jvm.ClassFile.FieldType.int)) ∈ WS := ws_4 210 rfl rfl
theorem wd_4_211 : (Jvm.Cond.methodLink "TradeLogsLaw" (133 : Nat) ({ cls := "TradeLogsLaw", name := "credit", desc := "(LTradeLogs;III[J)I" } : Jvm.MethodName)) ∈ WS := ws_4 211 rfl rfl
theorem wd_4_212 : (Jvm.Cond.static ({ cls := "TradeLogsLaw", name := "credit", desc := "(LTradeLogs;III[J)I" } : Jvm.MethodName)) ∈ WS := ws_4 212 rfl rfl
theorem wd_4_214 : (Jvm.Cond.methodLink "TradeLogsLaw" (43 : Nat) ({ cls := "TradeLogs", name := "credit", desc := "(III)I" } : Jvm.MethodName)) ∈ WS := ws_4 214 rfl rfl
theorem wd_4_215 : (Jvm.Cond.instanceMethod ({ cls := "TradeLogs", name := "credit", desc := "(III)I" } : Jvm.MethodName)) ∈ WS := ws_4 215 rfl rfl
theorem wd_4_216 : (Jvm.Cond.selects "TradeLogs" ({ cls := "TradeLogs", name := "credit", desc := "(III)I" } : Jvm.MethodName) ({ cls := "TradeLogs", name := "credit", desc := "(III)I" } : Jvm.MethodName)) ∈ WS := ws_4 216 rfl rfl
theorem wd_4_217 : (Jvm.Cond.code ({ cls := "TradeLogs", name := "credit", desc := "(III)I" } : Jvm.MethodName) prog_1_method_10_code (4 : Nat) (Option.some Jvm.ClassFile.FieldType.int)) ∈ WS := ws_4 217 rfl rfl
theorem wd_4_218 : (Jvm.Cond.methodLink "TradeLogs" (90 : Nat) ({ cls := "TradeLogs", name := "faultOfCredit", desc := "(III)I" } : Jvm.MethodName)) ∈ WS := ws_4 218 rfl rfl
theorem wd_4_220 : (Jvm.Cond.instanceMethod ({ cls := "TradeLogs", name := "faultOfCredit", desc := "(III)I" } : Jvm.MethodName)) ∈ WS := ws_4 220 rfl rfl
theorem wd_4_221 : (Jvm.Cond.code ({ cls := "TradeLogs", name := "faultOfCredit", desc := "(III)I" } : Jvm.MethodName) prog_1_method_45_code (4 : Nat) (Option.some Jvm.ClassFile.FieldType.int)) ∈ WS := ws_4 221 rfl rfl
theorem wd_4_222 : (Jvm.Cond.methodLink "TradeLogs" (274 : Nat) ({ cls := "TradeLogs$State", name := "canCredit", desc := "(III)Z" } : Jvm.MethodName)) ∈ WS := ws_4 222 rfl rfl
theorem wd_4_223 : (Jvm.Cond.instanceMethod ({ cls := "TradeLogs$State", name := "canCredit", desc := "(III)Z" } : Jvm.MethodName)) ∈ WS := ws_4 223 rfl rfl
theorem wd_4_224 : (Jvm.Cond.selects "TradeLogs$State" ({ cls := "TradeLogs$State", name := "canCredit", desc := "(III)Z" } : Jvm.MethodName) ({ cls := "TradeLogs$State", name := "canCredit", desc := "(III)Z" } : Jvm.MethodName)) ∈ WS := ws_4 224 rfl rfl
theorem wd_4_225 : (Jvm.Cond.code ({ cls := "TradeLogs$State", name := "canCredit", desc := "(III)Z" } : Jvm.MethodName) prog_9_method_20_code (4 : Nat) (Option.some Jvm.ClassFile.FieldType.boolean)) ∈ WS := ws_4 225 rfl rfl
theorem wd_4_226 : (Jvm.Cond.methodLink "TradeLogs" (93 : Nat) ({ cls := "TradeLogs$State", name := "putCredit", desc := "(III)I" } : Jvm.MethodName)) ∈ WS := ws_4 226 rfl rfl
theorem wd_4_227 : (Jvm.Cond.instanceMethod ({ cls := "TradeLogs$State", name := "putCredit", desc := "(III)I" } : Jvm.MethodName)) ∈ WS := ws_4 227 rfl rfl
theorem wd_4_228 : (Jvm.Cond.selects "TradeLogs$State" ({ cls := "TradeLogs$State", name := "putCredit", desc := "(III)I" } : Jvm.MethodName) ({ cls := "TradeLogs$State", name := "putCredit", desc := "(III)I" } : Jvm.MethodName)) ∈ WS := ws_4 228 rfl rfl
theorem wd_4_229 : (Jvm.Cond.code ({ cls := "TradeLogs$State", name := "putCredit", desc := "(III)I" } : Jvm.MethodName) prog_9_method_31_code (4 : Nat) (Option.some Jvm.ClassFile.FieldType.int)) ∈ WS := ws_4 229 rfl rfl
theorem wd_4_230 : (Jvm.Cond.methodLink "TradeLogsLaw" (136 : Nat) ({ cls := "TradeLogsLaw", name := "endDay", desc := "(LTradeLogs;[J)I" } : Jvm.MethodName)) ∈ WS := ws_4 230 rfl rfl
theorem wd_4_231 : (Jvm.Cond.static ({ cls := "TradeLogsLaw", name := "endDay", desc := "(LTradeLogs;[J)I" } : Jvm.MethodName)) ∈ WS := ws_4 231 rfl rfl
theorem wd_4_233 : (Jvm.Cond.methodLink "TradeLogsLaw" (46 : Nat) ({ cls := "TradeLogs", name := "endDay", desc := "()I" } : Jvm.MethodName)) ∈ WS := ws_4 233 rfl rfl
theorem wd_4_234 : (Jvm.Cond.instanceMethod ({ cls := "TradeLogs", name := "endDay", desc := "()I" } : Jvm.MethodName)) ∈ WS := ws_4 234 rfl rfl
theorem wd_4_235 : (Jvm.Cond.selects "TradeLogs" ({ cls := "TradeLogs", name := "endDay", desc := "()I" } : Jvm.MethodName) ({ cls := "TradeLogs", name := "endDay", desc := "()I" } : Jvm.MethodName)) ∈ WS := ws_4 235 rfl rfl
theorem wd_4_236 : (Jvm.Cond.code ({ cls := "TradeLogs", name := "endDay", desc := "()I" } : Jvm.MethodName) prog_1_method_11_code (1 : Nat) (Option.some Jvm.ClassFile.FieldType.int)) ∈ WS := ws_4 236 rfl rfl
theorem wd_4_237 : (Jvm.Cond.methodLink "TradeLogsLaw" (140 : Nat) ({ cls := "TradeLogsLaw", name := "move", desc := "(LTradeLogs;II[J)I" } : Jvm.MethodName)) ∈ WS := ws_4 237 rfl rfl
theorem wd_4_238 : (Jvm.Cond.static ({ cls := "TradeLogsLaw", name := "move", desc := "(LTradeLogs;II[J)I" } : Jvm.MethodName)) ∈ WS := ws_4 238 rfl rfl
theorem wd_5_0 : (Jvm.Cond.methodLink "TradeLogsLaw" (50 : Nat) ({ cls := "TradeLogs", name := "move", desc := "(II)I" } : Jvm.MethodName)) ∈ WS := ws_5 0 rfl rfl
theorem wd_5_1 : (Jvm.Cond.instanceMethod ({ cls := "TradeLogs", name := "move", desc := "(II)I" } : Jvm.MethodName)) ∈ WS := ws_5 1 rfl rfl
theorem wd_5_2 : (Jvm.Cond.selects "TradeLogs" ({ cls := "TradeLogs", name := "move", desc := "(II)I" } : Jvm.MethodName) ({ cls := "TradeLogs", name := "move", desc := "(II)I" } : Jvm.MethodName)) ∈ WS := ws_5 2 rfl rfl
theorem wd_5_3 : (Jvm.Cond.code ({ cls := "TradeLogs", name := "move", desc := "(II)I" } : Jvm.MethodName) prog_1_method_12_code (3 : Nat) (Option.some Jvm.ClassFile.FieldType.int)) ∈ WS := ws_5 3 rfl rfl
theorem wd_5_4 : (Jvm.Cond.methodLink "TradeLogsLaw" (143 : Nat) ({ cls := "TradeLogsLaw", name := "leave", desc := "(LTradeLogs;I[J)I" } : Jvm.MethodName)) ∈ WS := ws_5 4 rfl rfl
theorem wd_5_5 : (Jvm.Cond.static ({ cls := "TradeLogsLaw", name := "leave", desc := "(LTradeLogs;I[J)I" } : Jvm.MethodName)) ∈ WS := ws_5 5 rfl rfl
theorem wd_5_7 : (Jvm.Cond.methodLink "TradeLogsLaw" (53 : Nat) ({ cls := "TradeLogs", name := "leave", desc := "(I)I" } : Jvm.MethodName)) ∈ WS := ws_5 7 rfl rfl
theorem wd_5_8 : (Jvm.Cond.instanceMethod ({ cls := "TradeLogs", name := "leave", desc := "(I)I" } : Jvm.MethodName)) ∈ WS := ws_5 8 rfl rfl
theorem wd_5_9 : (Jvm.Cond.selects "TradeLogs" ({ cls := "TradeLogs", name := "leave", desc := "(I)I" } : Jvm.MethodName) ({ cls := "TradeLogs", name := "leave", desc := "(I)I" } : Jvm.MethodName)) ∈ WS := ws_5 9 rfl rfl
theorem wd_5_10 : (Jvm.Cond.code ({ cls := "TradeLogs", name := "leave", desc := "(I)I" } : Jvm.MethodName) prog_1_method_13_code (2 : Nat) (Option.some Jvm.ClassFile.FieldType.int)) ∈ WS := ws_5 10 rfl rfl
theorem wd_5_11 : (Jvm.Cond.methodLink "TradeLogs" (108 : Nat) ({ cls := "TradeLogs", name := "faultOfLeave", desc := "(I)I" } : Jvm.MethodName)) ∈ WS := ws_5 11 rfl rfl
theorem wd_5_13 : (Jvm.Cond.instanceMethod ({ cls := "TradeLogs", name := "faultOfLeave", desc := "(I)I" } : Jvm.MethodName)) ∈ WS := ws_5 13 rfl rfl
theorem wd_5_14 : (Jvm.Cond.code ({ cls := "TradeLogs", name := "faultOfLeave", desc := "(I)I" } : Jvm.MethodName) prog_1_method_49_code (2 : Nat) (Option.some Jvm.ClassFile.FieldType.int)) ∈ WS := ws_5 14 rfl rfl
theorem wd_5_15 : (Jvm.Cond.methodLink "TradeLogs" (111 : Nat) ({ cls := "TradeLogs$State", name := "takeFromMentor", desc := "(I)I" } : Jvm.MethodName)) ∈ WS := ws_5 15 rfl rfl
theorem wd_5_16 : (Jvm.Cond.instanceMethod ({ cls := "TradeLogs$State", name := "takeFromMentor", desc := "(I)I" } : Jvm.MethodName)) ∈ WS := ws_5 16 rfl rfl
theorem wd_5_17 : (Jvm.Cond.selects "TradeLogs$State" ({ cls := "TradeLogs$State", name := "takeFromMentor", desc := "(I)I" } : Jvm.MethodName) ({ cls := "TradeLogs$State", name := "takeFromMentor", desc := "(I)I" } : Jvm.MethodName)) ∈ WS := ws_5 17 rfl rfl
theorem wd_5_18 : (Jvm.Cond.code ({ cls := "TradeLogs$State", name := "takeFromMentor", desc := "(I)I" } : Jvm.MethodName) prog_9_method_34_code (3 : Nat) (Option.some Jvm.ClassFile.FieldType.int)) ∈ WS := ws_5 18 rfl rfl
theorem wd_5_19 : (Jvm.Cond.methodLink "TradeLogsLaw" (146 : Nat) ({ cls := "TradeLogsLaw", name := "exchange", desc := "(LTradeLogs;II[J)I" } : Jvm.MethodName)) ∈ WS := ws_5 19 rfl rfl
theorem wd_5_20 : (Jvm.Cond.static ({ cls := "TradeLogsLaw", name := "exchange", desc := "(LTradeLogs;II[J)I" } : Jvm.MethodName)) ∈ WS := ws_5 20 rfl rfl
theorem wd_5_22 : (Jvm.Cond.methodLink "TradeLogsLaw" (56 : Nat) ({ cls := "TradeLogs", name := "exchange", desc := "(II)I" } : Jvm.MethodName)) ∈ WS := ws_5 22 rfl rfl
theorem wd_5_23 : (Jvm.Cond.instanceMethod ({ cls := "TradeLogs", name := "exchange", desc := "(II)I" } : Jvm.MethodName)) ∈ WS := ws_5 23 rfl rfl
theorem wd_5_24 : (Jvm.Cond.selects "TradeLogs" ({ cls := "TradeLogs", name := "exchange", desc := "(II)I" } : Jvm.MethodName) ({ cls := "TradeLogs", name := "exchange", desc := "(II)I" } : Jvm.MethodName)) ∈ WS := ws_5 24 rfl rfl
theorem wd_5_25 : (Jvm.Cond.code ({ cls := "TradeLogs", name := "exchange", desc := "(II)I" } : Jvm.MethodName) prog_1_method_14_code (3 : Nat) (Option.some Jvm.ClassFile.FieldType.int)) ∈ WS := ws_5 25 rfl rfl
theorem wd_5_26 : (Jvm.Cond.methodLink "TradeLogsLaw" (149 : Nat) ({ cls := "TradeLogsLaw", name := "reason", desc := "(LTradeLogs;II[J)I" } : Jvm.MethodName)) ∈ WS := ws_5 26 rfl rfl
theorem wd_5_27 : (Jvm.Cond.static ({ cls := "TradeLogsLaw", name := "reason", desc := "(LTradeLogs;II[J)I" } : Jvm.MethodName)) ∈ WS := ws_5 27 rfl rfl
theorem wd_5_29 : (Jvm.Cond.methodLink "TradeLogsLaw" (59 : Nat) ({ cls := "TradeLogs", name := "reason", desc := "(II)I" } : Jvm.MethodName)) ∈ WS := ws_5 29 rfl rfl
theorem wd_5_30 : (Jvm.Cond.instanceMethod ({ cls := "TradeLogs", name := "reason", desc := "(II)I" } : Jvm.MethodName)) ∈ WS := ws_5 30 rfl rfl
theorem wd_5_31 : (Jvm.Cond.selects "TradeLogs" ({ cls := "TradeLogs", name := "reason", desc := "(II)I" } : Jvm.MethodName) ({ cls := "TradeLogs", name := "reason", desc := "(II)I" } : Jvm.MethodName)) ∈ WS := ws_5 31 rfl rfl
theorem wd_5_32 : (Jvm.Cond.code ({ cls := "TradeLogs", name := "reason", desc := "(II)I" } : Jvm.MethodName) prog_1_method_15_code (3 : Nat) (Option.some Jvm.ClassFile.FieldType.int)) ∈ WS := ws_5 32 rfl rfl
theorem wd_5_33 : (Jvm.Cond.methodLink "TradeLogsLaw" (152 : Nat) ({ cls := "TradeLogsLaw", name := "mentor", desc := "(LTradeLogs;II[J)I" } : Jvm.MethodName)) ∈ WS := ws_5 33 rfl rfl
theorem wd_5_34 : (Jvm.Cond.static ({ cls := "TradeLogsLaw", name := "mentor", desc := "(LTradeLogs;II[J)I" } : Jvm.MethodName)) ∈ WS := ws_5 34 rfl rfl
theorem wd_5_36 : (Jvm.Cond.methodLink "TradeLogsLaw" (62 : Nat) ({ cls := "TradeLogs", name := "mentor", desc := "(II)I" } : Jvm.MethodName)) ∈ WS := ws_5 36 rfl rfl
theorem wd_5_37 : (Jvm.Cond.instanceMethod ({ cls := "TradeLogs", name := "mentor", desc := "(II)I" } : Jvm.MethodName)) ∈ WS := ws_5 37 rfl rfl
theorem wd_5_38 : (Jvm.Cond.selects "TradeLogs" ({ cls := "TradeLogs", name := "mentor", desc := "(II)I" } : Jvm.MethodName) ({ cls := "TradeLogs", name := "mentor", desc := "(II)I" } : Jvm.MethodName)) ∈ WS := ws_5 38 rfl rfl
theorem wd_5_39 : (Jvm.Cond.code ({ cls := "TradeLogs", name := "mentor", desc := "(II)I" } : Jvm.MethodName) prog_1_method_16_code (3 : Nat) (Option.some Jvm.ClassFile.FieldType.int)) ∈ WS := ws_5 39 rfl rfl
theorem wd_5_40 : (Jvm.Cond.methodLink "TradeLogsLaw" (155 : Nat) ({ cls := "TradeLogsLaw", name := "apprentice", desc := "(LTradeLogs;II[J)I" } : Jvm.MethodName)) ∈ WS := ws_5 40 rfl rfl
theorem wd_5_41 : (Jvm.Cond.static ({ cls := "TradeLogsLaw", name := "apprentice", desc := "(LTradeLogs;II[J)I" } : Jvm.MethodName)) ∈ WS := ws_5 41 rfl rfl
theorem wd_5_43 : (Jvm.Cond.methodLink "TradeLogsLaw" (65 : Nat) ({ cls := "TradeLogs", name := "apprentice", desc := "(II)I" } : Jvm.MethodName)) ∈ WS := ws_5 43 rfl rfl
theorem wd_5_44 : (Jvm.Cond.instanceMethod ({ cls := "TradeLogs", name := "apprentice", desc := "(II)I" } : Jvm.MethodName)) ∈ WS := ws_5 44 rfl rfl
theorem wd_5_45 : (Jvm.Cond.selects "TradeLogs" ({ cls := "TradeLogs", name := "apprentice", desc := "(II)I" } : Jvm.MethodName) ({ cls := "TradeLogs", name := "apprentice", desc := "(II)I" } : Jvm.MethodName)) ∈ WS := ws_5 45 rfl rfl
theorem wd_5_46 : (Jvm.Cond.code ({ cls := "TradeLogs", name := "apprentice", desc := "(II)I" } : Jvm.MethodName) prog_1_method_17_code (3 : Nat) (Option.some Jvm.ClassFile.FieldType.int)) ∈ WS := ws_5 46 rfl rfl
theorem wd_5_47 : (Jvm.Cond.methodLink "TradeLogsLaw" (158 : Nat) ({ cls := "TradeLogsLaw", name := "part", desc := "(LTradeLogs;III[J)I" } : Jvm.MethodName)) ∈ WS := ws_5 47 rfl rfl
theorem wd_5_48 : (Jvm.Cond.static ({ cls := "TradeLogsLaw", name := "part", desc := "(LTradeLogs;III[J)I" } : Jvm.MethodName)) ∈ WS := ws_5 48 rfl rfl
theorem wd_5_50 : (Jvm.Cond.methodLink "TradeLogsLaw" (68 : Nat) ({ cls := "TradeLogs", name := "part", desc := "(III)I" } : Jvm.MethodName)) ∈ WS := ws_5 50 rfl rfl
theorem wd_5_51 : (Jvm.Cond.instanceMethod ({ cls := "TradeLogs", name := "part", desc := "(III)I" } : Jvm.MethodName)) ∈ WS := ws_5 51 rfl rfl
theorem wd_5_52 : (Jvm.Cond.selects "TradeLogs" ({ cls := "TradeLogs", name := "part", desc := "(III)I" } : Jvm.MethodName) ({ cls := "TradeLogs", name := "part", desc := "(III)I" } : Jvm.MethodName)) ∈ WS := ws_5 52 rfl rfl
theorem wd_5_53 : (Jvm.Cond.code ({ cls := "TradeLogs", name := "part", desc := "(III)I" } : Jvm.MethodName) prog_1_method_18_code (4 : Nat) (Option.some Jvm.ClassFile.FieldType.int)) ∈ WS := ws_5 53 rfl rfl
theorem wd_5_54 : (Jvm.Cond.methodLink "TradeLogsLaw" (161 : Nat) ({ cls := "TradeLogsLaw", name := "entry", desc := "(LTradeLogs;IZII[J)I" } : Jvm.MethodName)) ∈ WS := ws_5 54 rfl rfl
theorem wd_5_55 : (Jvm.Cond.static ({ cls := "TradeLogsLaw", name := "entry", desc := "(LTradeLogs;IZII[J)I" } : Jvm.MethodName)) ∈ WS := ws_5 55 rfl rfl
theorem wd_5_57 : (Jvm.Cond.methodLink "TradeLogsLaw" (71 : Nat) ({ cls := "TradeLogs", name := "entry", desc := "(IZII)I" } : Jvm.MethodName)) ∈ WS := ws_5 57 rfl rfl
theorem wd_5_58 : (Jvm.Cond.instanceMethod ({ cls := "TradeLogs", name := "entry", desc := "(IZII)I" } : Jvm.MethodName)) ∈ WS := ws_5 58 rfl rfl
theorem wd_5_59 : (Jvm.Cond.selects "TradeLogs" ({ cls := "TradeLogs", name := "entry", desc := "(IZII)I" } : Jvm.MethodName) ({ cls := "TradeLogs", name := "entry", desc := "(IZII)I" } : Jvm.MethodName)) ∈ WS := ws_5 59 rfl rfl
theorem wd_5_60 : (Jvm.Cond.code ({ cls := "TradeLogs", name := "entry", desc := "(IZII)I" } : Jvm.MethodName) prog_1_method_19_code (5 : Nat) (Option.some Jvm.ClassFile.FieldType.int)) ∈ WS := ws_5 60 rfl rfl
theorem wd_5_61 : (Jvm.Cond.methodLink "TradeLogsLaw" (165 : Nat) ({ cls := "TradeLogsLaw", name := "whole", desc := "(LTradeLogs;I[J)I" } : Jvm.MethodName)) ∈ WS := ws_5 61 rfl rfl
theorem wd_5_62 : (Jvm.Cond.static ({ cls := "TradeLogsLaw", name := "whole", desc := "(LTradeLogs;I[J)I" } : Jvm.MethodName)) ∈ WS := ws_5 62 rfl rfl
theorem wd_5_64 : (Jvm.Cond.methodLink "TradeLogsLaw" (75 : Nat) ({ cls := "TradeLogs", name := "whole", desc := "(I)I" } : Jvm.MethodName)) ∈ WS := ws_5 64 rfl rfl
theorem wd_5_65 : (Jvm.Cond.instanceMethod ({ cls := "TradeLogs", name := "whole", desc := "(I)I" } : Jvm.MethodName)) ∈ WS := ws_5 65 rfl rfl
theorem wd_5_66 : (Jvm.Cond.selects "TradeLogs" ({ cls := "TradeLogs", name := "whole", desc := "(I)I" } : Jvm.MethodName) ({ cls := "TradeLogs", name := "whole", desc := "(I)I" } : Jvm.MethodName)) ∈ WS := ws_5 66 rfl rfl
theorem wd_5_67 : (Jvm.Cond.code ({ cls := "TradeLogs", name := "whole", desc := "(I)I" } : Jvm.MethodName) prog_1_method_20_code (2 : Nat) (Option.some Jvm.ClassFile.FieldType.int)) ∈ WS := ws_5 67 rfl rfl
theorem wd_5_68 : (Jvm.Cond.methodLink "TradeLogsLaw" (168 : Nat) ({ cls := "TradeLogsLaw", name := "completeOn", desc := "(LTradeLogs;II[J)I" } : Jvm.MethodName)) ∈ WS := ws_5 68 rfl rfl
theorem wd_5_69 : (Jvm.Cond.static ({ cls := "TradeLogsLaw", name := "completeOn", desc := "(LTradeLogs;II[J)I" } : Jvm.MethodName)) ∈ WS := ws_5 69 rfl rfl
theorem wd_5_71 : (Jvm.Cond.methodLink "TradeLogsLaw" (78 : Nat) ({ cls := "TradeLogs", name := "completeOn", desc := "(II)I" } : Jvm.MethodName)) ∈ WS := ws_5 71 rfl rfl
theorem wd_5_72 : (Jvm.Cond.instanceMethod ({ cls := "TradeLogs", name := "completeOn", desc := "(II)I" } : Jvm.MethodName)) ∈ WS := ws_5 72 rfl rfl
theorem wd_5_73 : (Jvm.Cond.selects "TradeLogs" ({ cls := "TradeLogs", name := "completeOn", desc := "(II)I" } : Jvm.MethodName) ({ cls := "TradeLogs", name := "completeOn", desc := "(II)I" } : Jvm.MethodName)) ∈ WS := ws_5 73 rfl rfl
theorem wd_5_74 : (Jvm.Cond.code ({ cls := "TradeLogs", name := "completeOn", desc := "(II)I" } : Jvm.MethodName) prog_1_method_21_code (3 : Nat) (Option.some Jvm.ClassFile.FieldType.int)) ∈ WS := ws_5 74 rfl rfl
theorem wd_5_75 : (Jvm.Cond.methodLink "TradeLogs" (156 : Nat) ({ cls := "TradeLogs$State", name := "completionDay", desc := "(II)I" } : Jvm.MethodName)) ∈ WS := ws_5 75 rfl rfl
theorem wd_5_76 : (Jvm.Cond.instanceMethod ({ cls := "TradeLogs$State", name := "completionDay", desc := "(II)I" } : Jvm.MethodName)) ∈ WS := ws_5 76 rfl rfl
theorem wd_5_77 : (Jvm.Cond.selects "TradeLogs$State" ({ cls := "TradeLogs$State", name := "completionDay", desc := "(II)I" } : Jvm.MethodName) ({ cls := "TradeLogs$State", name := "completionDay", desc := "(II)I" } : Jvm.MethodName)) ∈ WS := ws_5 77 rfl rfl
theorem wd_5_78 : (Jvm.Cond.code ({ cls := "TradeLogs$State", name := "completionDay", desc := "(II)I" } : Jvm.MethodName) prog_9_method_43_code (6 : Nat) (Option.some Jvm.ClassFile.FieldType.int)) ∈ WS := ws_5 78 rfl rfl
theorem wd_5_79 : (Jvm.Cond.methodLink "TradeLogsLaw" (171 : Nat) ({ cls := "TradeLogsLaw", name := "bestMentor", desc := "(LTradeLogs;I[J)I" } : Jvm.MethodName)) ∈ WS := ws_5 79 rfl rfl
theorem wd_5_80 : (Jvm.Cond.static ({ cls := "TradeLogsLaw", name := "bestMentor", desc := "(LTradeLogs;I[J)I" } : Jvm.MethodName)) ∈ WS := ws_5 80 rfl rfl
theorem wd_5_82 : (Jvm.Cond.methodLink "TradeLogsLaw" (81 : Nat) ({ cls := "TradeLogs", name := "bestMentor", desc := "(I)I" } : Jvm.MethodName)) ∈ WS := ws_5 82 rfl rfl
theorem wd_5_83 : (Jvm.Cond.instanceMethod ({ cls := "TradeLogs", name := "bestMentor", desc := "(I)I" } : Jvm.MethodName)) ∈ WS := ws_5 83 rfl rfl
theorem wd_5_84 : (Jvm.Cond.selects "TradeLogs" ({ cls := "TradeLogs", name := "bestMentor", desc := "(I)I" } : Jvm.MethodName) ({ cls := "TradeLogs", name := "bestMentor", desc := "(I)I" } : Jvm.MethodName)) ∈ WS := ws_5 84 rfl rfl
theorem wd_5_85 : (Jvm.Cond.code ({ cls := "TradeLogs", name := "bestMentor", desc := "(I)I" } : Jvm.MethodName) prog_1_method_22_code (2 : Nat) (Option.some Jvm.ClassFile.FieldType.int)) ∈ WS := ws_5 85 rfl rfl
theorem wd_5_86 : (Jvm.Cond.methodLink "TradeLogsLaw" (174 : Nat) ({ cls := "TradeLogsLaw", name := "doubtsBy", desc := "(LTradeLogs;II[J)I" } : Jvm.MethodName)) ∈ WS := ws_5 86 rfl rfl
theorem wd_5_87 : (Jvm.Cond.static ({ cls := "TradeLogsLaw", name := "doubtsBy", desc := "(LTradeLogs;II[J)I" } : Jvm.MethodName)) ∈ WS := ws_5 87 rfl rfl
theorem wd_5_89 : (Jvm.Cond.methodLink "TradeLogsLaw" (84 : Nat) ({ cls := "TradeLogs", name := "doubtsBy", desc := "(II)I" } : Jvm.MethodName)) ∈ WS := ws_5 89 rfl rfl
theorem wd_5_90 : (Jvm.Cond.instanceMethod ({ cls := "TradeLogs", name := "doubtsBy", desc := "(II)I" } : Jvm.MethodName)) ∈ WS := ws_5 90 rfl rfl
theorem wd_5_91 : (Jvm.Cond.selects "TradeLogs" ({ cls := "TradeLogs", name := "doubtsBy", desc := "(II)I" } : Jvm.MethodName) ({ cls := "TradeLogs", name := "doubtsBy", desc := "(II)I" } : Jvm.MethodName)) ∈ WS := ws_5 91 rfl rfl
theorem wd_5_92 : (Jvm.Cond.code ({ cls := "TradeLogs", name := "doubtsBy", desc := "(II)I" } : Jvm.MethodName) prog_1_method_23_code (3 : Nat) (Option.some Jvm.ClassFile.FieldType.int)) ∈ WS := ws_5 92 rfl rfl
theorem wd_5_93 : (Jvm.Cond.methodLink "TradeLogs" (166 : Nat) ({ cls := "TradeLogs$State", name := "doubtsOfExchange", desc := "(II)I" } : Jvm.MethodName)) ∈ WS := ws_5 93 rfl rfl
theorem wd_5_94 : (Jvm.Cond.instanceMethod ({ cls := "TradeLogs$State", name := "doubtsOfExchange", desc := "(II)I" } : Jvm.MethodName)) ∈ WS := ws_5 94 rfl rfl
theorem wd_5_95 : (Jvm.Cond.selects "TradeLogs$State" ({ cls := "TradeLogs$State", name := "doubtsOfExchange", desc := "(II)I" } : Jvm.MethodName) ({ cls := "TradeLogs$State", name := "doubtsOfExchange", desc := "(II)I" } : Jvm.MethodName)) ∈ WS := ws_5 95 rfl rfl
theorem wd_5_96 : (Jvm.Cond.code ({ cls := "TradeLogs$State", name := "doubtsOfExchange", desc := "(II)I" } : Jvm.MethodName) prog_9_method_46_code (3 : Nat) (Option.some Jvm.ClassFile.FieldType.int)) ∈ WS := ws_5 96 rfl rfl
theorem wd_5_97 : (Jvm.Cond.methodLink "TradeLogs$State" (231 : Nat) ({ cls := "TradeLogs$Apprentice", name := "doubtsWith", desc := "(I)I" } : Jvm.MethodName)) ∈ WS := ws_5 97 rfl rfl
theorem wd_5_98 : (Jvm.Cond.instanceMethod ({ cls := "TradeLogs$Apprentice", name := "doubtsWith", desc := "(I)I" } : Jvm.MethodName)) ∈ WS := ws_5 98 rfl rfl
theorem wd_5_99 : (Jvm.Cond.selects "TradeLogs$Apprentice" ({ cls := "TradeLogs$Apprentice", name := "doubtsWith", desc := "(I)I" } : Jvm.MethodName) ({ cls := "TradeLogs$Apprentice", name := "doubtsWith", desc := "(I)I" } : Jvm.MethodName)) ∈ WS := ws_5 99 rfl rfl
theorem wd_5_100 : (Jvm.Cond.code ({ cls := "TradeLogs$Apprentice", name := "doubtsWith", desc := "(I)I" } : Jvm.MethodName) prog_3_method_12_code (2 : Nat) (Option.some Jvm.ClassFile.FieldType.int)) ∈ WS := ws_5 100 rfl rfl
theorem wd_5_101 : (Jvm.Cond.methodLink "TradeLogs$Apprentice" (100 : Nat) ({ cls := "TradeLogs$EntryQueue", name := "countWith", desc := "(I)I" } : Jvm.MethodName)) ∈ WS := ws_5 101 rfl rfl
theorem wd_5_102 : (Jvm.Cond.methodLink "TradeLogsLaw" (177 : Nat) ({ cls := "TradeLogsLaw", name := "nextRelease", desc := "(LTradeLogs;II[J)I" } : Jvm.MethodName)) ∈ WS := ws_5 102 rfl rfl
theorem wd_5_103 : (Jvm.Cond.static ({ cls := "TradeLogsLaw", name := "nextRelease", desc := "(LTradeLogs;II[J)I" } : Jvm.MethodName)) ∈ WS := ws_5 103 rfl rfl
theorem wd_5_105 : (Jvm.Cond.methodLink "TradeLogsLaw" (87 : Nat) ({ cls := "TradeLogs", name := "nextRelease", desc := "(II)I" } : Jvm.MethodName)) ∈ WS := ws_5 105 rfl rfl
theorem wd_5_106 : (Jvm.Cond.instanceMethod ({ cls := "TradeLogs", name := "nextRelease", desc := "(II)I" } : Jvm.MethodName)) ∈ WS := ws_5 106 rfl rfl
theorem wd_5_107 : (Jvm.Cond.selects "TradeLogs" ({ cls := "TradeLogs", name := "nextRelease", desc := "(II)I" } : Jvm.MethodName) ({ cls := "TradeLogs", name := "nextRelease", desc := "(II)I" } : Jvm.MethodName)) ∈ WS := ws_5 107 rfl rfl
theorem wd_5_108 : (Jvm.Cond.code ({ cls := "TradeLogs", name := "nextRelease", desc := "(II)I" } : Jvm.MethodName) prog_1_method_24_code (3 : Nat) (Option.some Jvm.ClassFile.FieldType.int)) ∈ WS := ws_5 108 rfl rfl
theorem wd_5_109 : (Jvm.Cond.methodLink "TradeLogsLaw" (180 : Nat) ({ cls := "TradeLogsLaw", name := "type", desc := "(LTradeLogs;I[J)I" } : Jvm.MethodName)) ∈ WS := ws_5 109 rfl rfl
theorem wd_5_110 : (Jvm.Cond.static ({ cls := "TradeLogsLaw", name := "type", desc := "(LTradeLogs;I[J)I" } : Jvm.MethodName)) ∈ WS := ws_5 110 rfl rfl
theorem wd_5_112 : (Jvm.Cond.methodLink "TradeLogsLaw" (90 : Nat) ({ cls := "TradeLogs", name := "type", desc := "(I)I" } : Jvm.MethodName)) ∈ WS := ws_5 112 rfl rfl
theorem wd_5_113 : (Jvm.Cond.instanceMethod ({ cls := "TradeLogs", name := "type", desc := "(I)I" } : Jvm.MethodName)) ∈ WS := ws_5 113 rfl rfl
theorem wd_5_114 : (Jvm.Cond.selects "TradeLogs" ({ cls := "TradeLogs", name := "type", desc := "(I)I" } : Jvm.MethodName) ({ cls := "TradeLogs", name := "type", desc := "(I)I" } : Jvm.MethodName)) ∈ WS := ws_5 114 rfl rfl
theorem wd_5_115 : (Jvm.Cond.code ({ cls := "TradeLogs", name := "type", desc := "(I)I" } : Jvm.MethodName) prog_1_method_25_code (2 : Nat) (Option.some Jvm.ClassFile.FieldType.int)) ∈ WS := ws_5 115 rfl rfl
theorem wd_5_116 : (Jvm.Cond.methodLink "TradeLogs" (176 : Nat) ({ cls := "TradeLogs$CommandText", name := "append", desc := "(I)I" } : Jvm.MethodName)) ∈ WS := ws_5 116 rfl rfl
theorem wd_5_117 : (Jvm.Cond.instanceMethod ({ cls := "TradeLogs$CommandText", name := "append", desc := "(I)I" } : Jvm.MethodName)) ∈ WS := ws_5 117 rfl rfl
theorem wd_5_118 : (Jvm.Cond.selects "TradeLogs$CommandText" ({ cls := "TradeLogs$CommandText", name := "append", desc := "(I)I" } : Jvm.MethodName) ({ cls := "TradeLogs$CommandText", name := "append", desc := "(I)I" } : Jvm.MethodName)) ∈ WS := ws_5 118 rfl rfl
theorem wd_5_119 : (Jvm.Cond.code ({ cls := "TradeLogs$CommandText", name := "append", desc := "(I)I" } : Jvm.MethodName) prog_5_method_2_code (2 : Nat) (Option.some Jvm.ClassFile.FieldType.int)) ∈ WS := ws_5 119 rfl rfl
theorem wd_5_120 : (Jvm.Cond.methodLink "TradeLogsLaw" (191 : Nat) ({ cls := "TradeLogsLaw", name := "undo", desc := "(LTradeLogs;[J)I" } : Jvm.MethodName)) ∈ WS := ws_5 120 rfl rfl
theorem wd_5_121 : (Jvm.Cond.static ({ cls := "TradeLogsLaw", name := "undo", desc := "(LTradeLogs;[J)I" } : Jvm.MethodName)) ∈ WS := ws_5 121 rfl rfl
theorem wd_5_123 : (Jvm.Cond.methodLink "TradeLogsLaw" (93 : Nat) ({ cls := "TradeLogs", name := "undo", desc := "()I" } : Jvm.MethodName)) ∈ WS := ws_5 123 rfl rfl
theorem wd_5_124 : (Jvm.Cond.instanceMethod ({ cls := "TradeLogs", name := "undo", desc := "()I" } : Jvm.MethodName)) ∈ WS := ws_5 124 rfl rfl
theorem wd_5_125 : (Jvm.Cond.selects "TradeLogs" ({ cls := "TradeLogs", name := "undo", desc := "()I" } : Jvm.MethodName) ({ cls := "TradeLogs", name := "undo", desc := "()I" } : Jvm.MethodName)) ∈ WS := ws_5 125 rfl rfl
theorem wd_5_126 : (Jvm.Cond.code ({ cls := "TradeLogs", name := "undo", desc := "()I" } : Jvm.MethodName) prog_1_method_28_code (1 : Nat) (Option.some Jvm.ClassFile.FieldType.int)) ∈ WS := ws_5 126 rfl rfl
theorem wd_5_127 : (Jvm.Cond.methodLink "TradeLogs" (198 : Nat) ({ cls := "TradeLogs$UndoStack", name := "restore", desc := "(LTradeLogs$State;)I" } : Jvm.MethodName)) ∈ WS := ws_5 127 rfl rfl
theorem wd_5_128 : (Jvm.Cond.instanceMethod ({ cls := "TradeLogs$UndoStack", name := "restore", desc := "(LTradeLogs$State;)I" } : Jvm.MethodName)) ∈ WS := ws_5 128 rfl rfl
theorem wd_5_129 : (Jvm.Cond.selects "TradeLogs$UndoStack" ({ cls := "TradeLogs$UndoStack", name := "restore", desc := "(LTradeLogs$State;)I" } : Jvm.MethodName) ({ cls := "TradeLogs$UndoStack", name := "restore", desc := "(LTradeLogs$State;)I" } : Jvm.MethodName)) ∈ WS := ws_5 129 rfl rfl
theorem wd_5_130 : (Jvm.Cond.code ({ cls := "TradeLogs$UndoStack", name := "restore", desc := "(LTradeLogs$State;)I" } : Jvm.MethodName) prog_10_method_3_code (2 : Nat) (Option.some Jvm.ClassFile.FieldType.int)) ∈ WS := ws_5 130 rfl rfl
theorem wd_5_131 : (Jvm.Cond.classLink "TradeLogsLaw" (97 : Nat) "TradeLogsModel") ∈ WS := ws_5 131 rfl rfl
theorem wd_5_132 : (Jvm.Cond.instantiable "TradeLogsModel" (13 : Nat)) ∈ WS := ws_5 132 rfl rfl
theorem wd_5_133 : (Jvm.Cond.methodLink "TradeLogsLaw" (99 : Nat) ({ cls := "TradeLogsModel", name := "<init>", desc := "()V" } : Jvm.MethodName)) ∈ WS := ws_5 133 rfl rfl
theorem wd_5_134 : (Jvm.Cond.instanceMethod ({ cls := "TradeLogsModel", name := "<init>", desc := "()V" } : Jvm.MethodName)) ∈ WS := ws_5 134 rfl rfl
theorem wd_5_135 : (Jvm.Cond.code ({ cls := "TradeLogsModel", name := "<init>", desc := "()V" } : Jvm.MethodName) prog_12_method_1_code (1 : Nat) (Option.none : Option Jvm.ClassFile.FieldType)) ∈ WS := ws_5 135 rfl rfl
theorem wd_5_136 : (Jvm.Cond.methodLink "TradeLogsModel" (1 : Nat) ({ cls := "java/lang/Object", name := "<init>", desc := "()V" } : Jvm.MethodName)) ∈ WS := ws_5 136 rfl rfl
theorem wd_5_137 : (Jvm.Cond.fieldLink "TradeLogsModel" (7 : Nat) "TradeLogsModel" "s" "[J") ∈ WS := ws_5 137 rfl rfl
theorem wd_5_138 : (Jvm.Cond.fieldLink "TradeLogsModel" (13 : Nat) "TradeLogsModel" "past" "[J") ∈ WS := ws_5 138 rfl rfl
theorem wd_5_139 : (Jvm.Cond.fieldLink "TradeLogsModel" (16 : Nat) "TradeLogsModel" "aside" "[J") ∈ WS := ws_5 139 rfl rfl
theorem wd_5_140 : (Jvm.Cond.fieldLink "TradeLogsModel" (33 : Nat) "TradeLogsModel" "kept" "I") ∈ WS := ws_5 140 rfl rfl
theorem wd_5_141 : (Jvm.Cond.fieldLink "TradeLogsModel" (29 : Nat) "TradeLogsModel" "thrown" "I") ∈ WS := ws_5 141 rfl rfl
theorem wd_5_142 : (Jvm.Cond.fieldLink "TradeLogsModel" (112 : Nat) "TradeLogsModel" "answer" "J") ∈ WS := ws_5 142 rfl rfl
theorem wd_5_143 : (Jvm.Cond.fieldLink "TradeLogsModel" (19 : Nat) "TradeLogsModel" "text" "[I") ∈ WS := ws_5 143 rfl rfl
theorem wd_5_144 : (Jvm.Cond.fieldLink "TradeLogsModel" (238 : Nat) "TradeLogsModel" "typed" "I") ∈ WS := ws_5 144 rfl rfl
theorem wd_5_145 : (Jvm.Cond.fieldLink "TradeLogsModel" (255 : Nat) "TradeLogsModel" "at" "I") ∈ WS := ws_5 145 rfl rfl
theorem wd_5_146 : (Jvm.Cond.fieldLink "TradeLogsModel" (295 : Nat) "TradeLogsModel" "word" "I") ∈ WS := ws_5 146 rfl rfl
theorem wd_5_147 : (Jvm.Cond.fieldLink "TradeLogsModel" (23 : Nat) "TradeLogsModel" "number" "[I") ∈ WS := ws_5 147 rfl rfl
theorem wd_5_148 : (Jvm.Cond.fieldLink "TradeLogsModel" (26 : Nat) "TradeLogsModel" "ahead" "[J") ∈ WS := ws_5 148 rfl rfl
theorem wd_5_149 : (Jvm.Cond.fieldLink "TradeLogsModel" (314 : Nat) "TradeLogsModel" "h" "J") ∈ WS := ws_5 149 rfl rfl
theorem wd_5_150 : (Jvm.Cond.laysFinal "TradeLogsModel" "TradeLogsModel" "s" "[J") ∈ WS := ws_5 150 rfl rfl
theorem wd_5_152 : (Jvm.Cond.laysFinal "TradeLogsModel" "TradeLogsModel" "past" "[J") ∈ WS := ws_5 152 rfl rfl
theorem wd_5_154 : (Jvm.Cond.laysFinal "TradeLogsModel" "TradeLogsModel" "aside" "[J") ∈ WS := ws_5 154 rfl rfl
theorem wd_5_156 : (Jvm.Cond.lays "TradeLogsModel" "TradeLogsModel" "kept" "I") ∈ WS := ws_5 156 rfl rfl
theorem wd_5_158 : (Jvm.Cond.lays "TradeLogsModel" "TradeLogsModel" "thrown" "I") ∈ WS := ws_5 158 rfl rfl
theorem wd_5_160 : (Jvm.Cond.lays "TradeLogsModel" "TradeLogsModel" "answer" "J") ∈ WS := ws_5 160 rfl rfl
theorem wd_5_162 : (Jvm.Cond.laysFinal "TradeLogsModel" "TradeLogsModel" "text" "[I") ∈ WS := ws_5 162 rfl rfl
theorem wd_5_164 : (Jvm.Cond.lays "TradeLogsModel" "TradeLogsModel" "typed" "I") ∈ WS := ws_5 164 rfl rfl
theorem wd_5_166 : (Jvm.Cond.lays "TradeLogsModel" "TradeLogsModel" "at" "I") ∈ WS := ws_5 166 rfl rfl
theorem wd_5_168 : (Jvm.Cond.lays "TradeLogsModel" "TradeLogsModel" "word" "I") ∈ WS := ws_5 168 rfl rfl
theorem wd_5_170 : (Jvm.Cond.laysFinal "TradeLogsModel" "TradeLogsModel" "number" "[I") ∈ WS := ws_5 170 rfl rfl
theorem wd_5_172 : (Jvm.Cond.laysFinal "TradeLogsModel" "TradeLogsModel" "ahead" "[J") ∈ WS := ws_5 172 rfl rfl
theorem wd_5_174 : (Jvm.Cond.lays "TradeLogsModel" "TradeLogsModel" "h" "J") ∈ WS := ws_5 174 rfl rfl
theorem wd_5_177 : (Jvm.Cond.methodLink "TradeLogsLaw" (106 : Nat) ({ cls := "TradeLogsModel", name := "thrown", desc := "()I" } : Jvm.MethodName)) ∈ WS := ws_5 177 rfl rfl
theorem wd_5_178 : (Jvm.Cond.instanceMethod ({ cls := "TradeLogsModel", name := "thrown", desc := "()I" } : Jvm.MethodName)) ∈ WS := ws_5 178 rfl rfl
theorem wd_5_179 : (Jvm.Cond.selects "TradeLogsModel" ({ cls := "TradeLogsModel", name := "thrown", desc := "()I" } : Jvm.MethodName) ({ cls := "TradeLogsModel", name := "thrown", desc := "()I" } : Jvm.MethodName)) ∈ WS := ws_5 179 rfl rfl
theorem wd_5_180 : (Jvm.Cond.code ({ cls := "TradeLogsModel", name := "thrown", desc := "()I" } : Jvm.MethodName) prog_12_method_2_code (1 : Nat) (Option.some Jvm.ClassFile.FieldType.int)) ∈ WS := ws_5 180 rfl rfl
theorem wd_5_181 : (Jvm.Cond.methodLink "TradeLogsLaw" (105 : Nat) ({ cls := "TradeLogsModel", name := "addTrade", desc := "(III)I" } : Jvm.MethodName)) ∈ WS := ws_5 181 rfl rfl
theorem wd_5_182 : (Jvm.Cond.instanceMethod ({ cls := "TradeLogsModel", name := "addTrade", desc := "(III)I" } : Jvm.MethodName)) ∈ WS := ws_5 182 rfl rfl
theorem wd_5_183 : (Jvm.Cond.selects "TradeLogsModel" ({ cls := "TradeLogsModel", name := "addTrade", desc := "(III)I" } : Jvm.MethodName) ({ cls := "TradeLogsModel", name := "addTrade", desc := "(III)I" } : Jvm.MethodName)) ∈ WS := ws_5 183 rfl rfl
theorem wd_5_184 : (Jvm.Cond.code ({ cls := "TradeLogsModel", name := "addTrade", desc := "(III)I" } : Jvm.MethodName) prog_12_method_47_code (5 : Nat) (Option.some Jvm.ClassFile.FieldType.int)) ∈ WS := ws_5 184 rfl rfl
theorem wd_5_185 : (Jvm.Cond.methodLink "TradeLogsModel" (173 : Nat) ({ cls := "TradeLogsModel", name := "laysAside", desc := "()V" } : Jvm.MethodName)) ∈ WS := ws_5 185 rfl rfl
theorem wd_5_187 : (Jvm.Cond.instanceMethod ({ cls := "TradeLogsModel", name := "laysAside", desc := "()V" } : Jvm.MethodName)) ∈ WS := ws_5 187 rfl rfl
theorem wd_5_188 : (Jvm.Cond.code ({ cls := "TradeLogsModel", name := "laysAside", desc := "()V" } : Jvm.MethodName) prog_12_method_6_code (2 : Nat) (Option.none : Option Jvm.ClassFile.FieldType)) ∈ WS := ws_5 188 rfl rfl
theorem wd_5_189 : (Jvm.Cond.methodLink "TradeLogsModel" (176 : Nat) ({ cls := "TradeLogsModel", name := "trades", desc := "(III)I" } : Jvm.MethodName)) ∈ WS := ws_5 189 rfl rfl
theorem wd_5_191 : (Jvm.Cond.instanceMethod ({ cls := "TradeLogsModel", name := "trades", desc := "(III)I" } : Jvm.MethodName)) ∈ WS := ws_5 191 rfl rfl
theorem wd_5_192 : (Jvm.Cond.code ({ cls := "TradeLogsModel", name := "trades", desc := "(III)I" } : Jvm.MethodName) prog_12_method_35_code (5 : Nat) (Option.some Jvm.ClassFile.FieldType.int)) ∈ WS := ws_5 192 rfl rfl
theorem wd_5_193 : (Jvm.Cond.constantLong "TradeLogsModel" (108 : Nat) (2000 : Int64)) ∈ WS := ws_5 193 rfl rfl
theorem wd_5_194 : (Jvm.Cond.methodLink "TradeLogsModel" (50 : Nat) ({ cls := "TradeLogsModel", name := "in", desc := "(JJJ)Z" } : Jvm.MethodName)) ∈ WS := ws_5 194 rfl rfl
theorem wd_5_195 : (Jvm.Cond.static ({ cls := "TradeLogsModel", name := "in", desc := "(JJJ)Z" } : Jvm.MethodName)) ∈ WS := ws_5 195 rfl rfl
theorem wd_5_196 : (Jvm.Cond.code ({ cls := "TradeLogsModel", name := "in", desc := "(JJJ)Z" } : Jvm.MethodName) prog_12_method_3_code (6 : Nat) (Option.some Jvm.ClassFile.FieldType.boolean)) ∈ WS := ws_5 196 rfl rfl
theorem wd_5_197 : (Jvm.Cond.constantLong "TradeLogsModel" (110 : Nat) (5 : Int64)) ∈ WS := ws_5 197 rfl rfl
theorem wd_5_198 : (Jvm.Cond.methodLink "TradeLogsModel" (179 : Nat) ({ cls := "TradeLogsModel", name := "ends", desc := "(JI)I" } : Jvm.MethodName)) ∈ WS := ws_5 198 rfl rfl
theorem wd_5_200 : (Jvm.Cond.instanceMethod ({ cls := "TradeLogsModel", name := "ends", desc := "(JI)I" } : Jvm.MethodName)) ∈ WS := ws_5 200 rfl rfl
theorem wd_5_201 : (Jvm.Cond.code ({ cls := "TradeLogsModel", name := "ends", desc := "(JI)I" } : Jvm.MethodName) prog_12_method_9_code (4 : Nat) (Option.some Jvm.ClassFile.FieldType.int)) ∈ WS := ws_5 201 rfl rfl
theorem wd_5_202 : (Jvm.Cond.methodLink "TradeLogsModel" (36 : Nat) ({ cls := "TradeLogsModel", name := "bringsBack", desc := "()V" } : Jvm.MethodName)) ∈ WS := ws_5 202 rfl rfl
theorem wd_5_204 : (Jvm.Cond.instanceMethod ({ cls := "TradeLogsModel", name := "bringsBack", desc := "()V" } : Jvm.MethodName)) ∈ WS := ws_5 204 rfl rfl
theorem wd_5_205 : (Jvm.Cond.code ({ cls := "TradeLogsModel", name := "bringsBack", desc := "()V" } : Jvm.MethodName) prog_12_method_7_code (2 : Nat) (Option.none : Option Jvm.ClassFile.FieldType)) ∈ WS := ws_5 205 rfl rfl
theorem wd_5_206 : (Jvm.Cond.methodLink "TradeLogsModel" (39 : Nat) ({ cls := "TradeLogsModel", name := "fails", desc := "(I)I" } : Jvm.MethodName)) ∈ WS := ws_5 206 rfl rfl
theorem wd_5_208 : (Jvm.Cond.instanceMethod ({ cls := "TradeLogsModel", name := "fails", desc := "(I)I" } : Jvm.MethodName)) ∈ WS := ws_5 208 rfl rfl
theorem wd_5_209 : (Jvm.Cond.code ({ cls := "TradeLogsModel", name := "fails", desc := "(I)I" } : Jvm.MethodName) prog_12_method_4_code (2 : Nat) (Option.some Jvm.ClassFile.FieldType.int)) ∈ WS := ws_5 209 rfl rfl
theorem wd_5_210 : (Jvm.Cond.methodLink "TradeLogsModel" (43 : Nat) ({ cls := "TradeLogsModel", name := "keeps", desc := "()V" } : Jvm.MethodName)) ∈ WS := ws_5 210 rfl rfl
theorem wd_5_212 : (Jvm.Cond.instanceMethod ({ cls := "TradeLogsModel", name := "keeps", desc := "()V" } : Jvm.MethodName)) ∈ WS := ws_5 212 rfl rfl
theorem wd_5_213 : (Jvm.Cond.code ({ cls := "TradeLogsModel", name := "keeps", desc := "()V" } : Jvm.MethodName) prog_12_method_8_code (2 : Nat) (Option.none : Option Jvm.ClassFile.FieldType)) ∈ WS := ws_5 213 rfl rfl
theorem wd_5_214 : (Jvm.Cond.methodLink "TradeLogsModel" (46 : Nat) ({ cls := "TradeLogsModel", name := "tells", desc := "(J)I" } : Jvm.MethodName)) ∈ WS := ws_5 214 rfl rfl
theorem wd_5_216 : (Jvm.Cond.instanceMethod ({ cls := "TradeLogsModel", name := "tells", desc := "(J)I" } : Jvm.MethodName)) ∈ WS := ws_5 216 rfl rfl
theorem wd_5_217 : (Jvm.Cond.code ({ cls := "TradeLogsModel", name := "tells", desc := "(J)I" } : Jvm.MethodName) prog_12_method_5_code (3 : Nat) (Option.some Jvm.ClassFile.FieldType.int)) ∈ WS := ws_5 217 rfl rfl
theorem wd_5_218 : (Jvm.Cond.methodLink "TradeLogsLaw" (112 : Nat) ({ cls := "TradeLogsModel", name := "addMentor", desc := "(II)I" } : Jvm.MethodName)) ∈ WS := ws_5 218 rfl rfl
theorem wd_5_219 : (Jvm.Cond.instanceMethod ({ cls := "TradeLogsModel", name := "addMentor", desc := "(II)I" } : Jvm.MethodName)) ∈ WS := ws_5 219 rfl rfl
theorem wd_5_220 : (Jvm.Cond.selects "TradeLogsModel" ({ cls := "TradeLogsModel", name := "addMentor", desc := "(II)I" } : Jvm.MethodName) ({ cls := "TradeLogsModel", name := "addMentor", desc := "(II)I" } : Jvm.MethodName)) ∈ WS := ws_5 220 rfl rfl
theorem wd_5_221 : (Jvm.Cond.code ({ cls := "TradeLogsModel", name := "addMentor", desc := "(II)I" } : Jvm.MethodName) prog_12_method_48_code (4 : Nat) (Option.some Jvm.ClassFile.FieldType.int)) ∈ WS := ws_5 221 rfl rfl
theorem wd_5_222 : (Jvm.Cond.methodLink "TradeLogsModel" (183 : Nat) ({ cls := "TradeLogsModel", name := "mentors", desc := "(II)I" } : Jvm.MethodName)) ∈ WS := ws_5 222 rfl rfl
theorem wd_5_224 : (Jvm.Cond.instanceMethod ({ cls := "TradeLogsModel", name := "mentors", desc := "(II)I" } : Jvm.MethodName)) ∈ WS := ws_5 224 rfl rfl
theorem wd_5_225 : (Jvm.Cond.code ({ cls := "TradeLogsModel", name := "mentors", desc := "(II)I" } : Jvm.MethodName) prog_12_method_36_code (4 : Nat) (Option.some Jvm.ClassFile.FieldType.int)) ∈ WS := ws_5 225 rfl rfl
theorem wd_5_226 : (Jvm.Cond.constantLong "TradeLogsModel" (116 : Nat) (6 : Int64)) ∈ WS := ws_5 226 rfl rfl
theorem wd_5_227 : (Jvm.Cond.constantLong "TradeLogsModel" (118 : Nat) (31 : Int64)) ∈ WS := ws_5 227 rfl rfl
theorem wd_5_228 : (Jvm.Cond.methodLink "TradeLogsLaw" (115 : Nat) ({ cls := "TradeLogsModel", name := "addApprentice", desc := "(II)I" } : Jvm.MethodName)) ∈ WS := ws_5 228 rfl rfl
theorem wd_5_229 : (Jvm.Cond.instanceMethod ({ cls := "TradeLogsModel", name := "addApprentice", desc := "(II)I" } : Jvm.MethodName)) ∈ WS := ws_5 229 rfl rfl
theorem wd_5_230 : (Jvm.Cond.selects "TradeLogsModel" ({ cls := "TradeLogsModel", name := "addApprentice", desc := "(II)I" } : Jvm.MethodName) ({ cls := "TradeLogsModel", name := "addApprentice", desc := "(II)I" } : Jvm.MethodName)) ∈ WS := ws_5 230 rfl rfl
theorem wd_5_231 : (Jvm.Cond.code ({ cls := "TradeLogsModel", name := "addApprentice", desc := "(II)I" } : Jvm.MethodName) prog_12_method_49_code (4 : Nat) (Option.some Jvm.ClassFile.FieldType.int)) ∈ WS := ws_5 231 rfl rfl
theorem wd_5_232 : (Jvm.Cond.methodLink "TradeLogsModel" (186 : Nat) ({ cls := "TradeLogsModel", name := "apprentices", desc := "(II)I" } : Jvm.MethodName)) ∈ WS := ws_5 232 rfl rfl
theorem wd_5_234 : (Jvm.Cond.instanceMethod ({ cls := "TradeLogsModel", name := "apprentices", desc := "(II)I" } : Jvm.MethodName)) ∈ WS := ws_5 234 rfl rfl
theorem wd_5_235 : (Jvm.Cond.code ({ cls := "TradeLogsModel", name := "apprentices", desc := "(II)I" } : Jvm.MethodName) prog_12_method_37_code (5 : Nat) (Option.some Jvm.ClassFile.FieldType.int)) ∈ WS := ws_5 235 rfl rfl
theorem wd_5_236 : (Jvm.Cond.methodLink "TradeLogsModel" (120 : Nat) ({ cls := "TradeLogsModel", name := "isTrade", desc := "(I)Z" } : Jvm.MethodName)) ∈ WS := ws_5 236 rfl rfl
theorem wd_5_238 : (Jvm.Cond.instanceMethod ({ cls := "TradeLogsModel", name := "isTrade", desc := "(I)Z" } : Jvm.MethodName)) ∈ WS := ws_5 238 rfl rfl
theorem wd_5_239 : (Jvm.Cond.code ({ cls := "TradeLogsModel", name := "isTrade", desc := "(I)Z" } : Jvm.MethodName) prog_12_method_10_code (2 : Nat) (Option.some Jvm.ClassFile.FieldType.boolean)) ∈ WS := ws_5 239 rfl rfl
theorem wd_6_0 : (Jvm.Cond.methodLink "TradeLogsModel" (123 : Nat) ({ cls := "TradeLogsModel", name := "isMentor", desc := "(I)Z" } : Jvm.MethodName)) ∈ WS := ws_6 0 rfl rfl
theorem wd_6_2 : (Jvm.Cond.instanceMethod ({ cls := "TradeLogsModel", name := "isMentor", desc := "(I)Z" } : Jvm.MethodName)) ∈ WS := ws_6 2 rfl rfl
theorem wd_6_3 : (Jvm.Cond.code ({ cls := "TradeLogsModel", name := "isMentor", desc := "(I)Z" } : Jvm.MethodName) prog_12_method_11_code (2 : Nat) (Option.some Jvm.ClassFile.FieldType.boolean)) ∈ WS := ws_6 3 rfl rfl
theorem wd_6_4 : (Jvm.Cond.constantLong "TradeLogsModel" (126 : Nat) (10 : Int64)) ∈ WS := ws_6 4 rfl rfl
theorem wd_6_5 : (Jvm.Cond.methodLink "TradeLogsModel" (92 : Nat) ({ cls := "TradeLogsModel", name := "teaches", desc := "(IJ)Z" } : Jvm.MethodName)) ∈ WS := ws_6 5 rfl rfl
theorem wd_6_7 : (Jvm.Cond.instanceMethod ({ cls := "TradeLogsModel", name := "teaches", desc := "(IJ)Z" } : Jvm.MethodName)) ∈ WS := ws_6 7 rfl rfl
theorem wd_6_8 : (Jvm.Cond.code ({ cls := "TradeLogsModel", name := "teaches", desc := "(IJ)Z" } : Jvm.MethodName) prog_12_method_29_code (4 : Nat) (Option.some Jvm.ClassFile.FieldType.boolean)) ∈ WS := ws_6 8 rfl rfl
theorem wd_6_9 : (Jvm.Cond.methodLink "TradeLogsModel" (86 : Nat) ({ cls := "TradeLogsModel", name := "ofMentor", desc := "(II)J" } : Jvm.MethodName)) ∈ WS := ws_6 9 rfl rfl
theorem wd_6_11 : (Jvm.Cond.instanceMethod ({ cls := "TradeLogsModel", name := "ofMentor", desc := "(II)J" } : Jvm.MethodName)) ∈ WS := ws_6 11 rfl rfl
theorem wd_6_12 : (Jvm.Cond.code ({ cls := "TradeLogsModel", name := "ofMentor", desc := "(II)J" } : Jvm.MethodName) prog_12_method_14_code (3 : Nat) (Option.some Jvm.ClassFile.FieldType.long)) ∈ WS := ws_6 12 rfl rfl
theorem wd_6_13 : (Jvm.Cond.methodLink "TradeLogsModel" (96 : Nat) ({ cls := "TradeLogsModel", name := "isFull", desc := "(I)Z" } : Jvm.MethodName)) ∈ WS := ws_6 13 rfl rfl
theorem wd_6_15 : (Jvm.Cond.instanceMethod ({ cls := "TradeLogsModel", name := "isFull", desc := "(I)Z" } : Jvm.MethodName)) ∈ WS := ws_6 15 rfl rfl
theorem wd_6_16 : (Jvm.Cond.code ({ cls := "TradeLogsModel", name := "isFull", desc := "(I)Z" } : Jvm.MethodName) prog_12_method_30_code (2 : Nat) (Option.some Jvm.ClassFile.FieldType.boolean)) ∈ WS := ws_6 16 rfl rfl
theorem wd_6_17 : (Jvm.Cond.methodLink "TradeLogsModel" (89 : Nat) ({ cls := "TradeLogsModel", name := "apprenticesOf", desc := "(I)I" } : Jvm.MethodName)) ∈ WS := ws_6 17 rfl rfl
theorem wd_6_19 : (Jvm.Cond.instanceMethod ({ cls := "TradeLogsModel", name := "apprenticesOf", desc := "(I)I" } : Jvm.MethodName)) ∈ WS := ws_6 19 rfl rfl
theorem wd_6_20 : (Jvm.Cond.code ({ cls := "TradeLogsModel", name := "apprenticesOf", desc := "(I)I" } : Jvm.MethodName) prog_12_method_28_code (4 : Nat) (Option.some Jvm.ClassFile.FieldType.int)) ∈ WS := ws_6 20 rfl rfl
theorem wd_6_21 : (Jvm.Cond.methodLink "TradeLogsModel" (83 : Nat) ({ cls := "TradeLogsModel", name := "mentorOf", desc := "(I)I" } : Jvm.MethodName)) ∈ WS := ws_6 21 rfl rfl
theorem wd_6_23 : (Jvm.Cond.instanceMethod ({ cls := "TradeLogsModel", name := "mentorOf", desc := "(I)I" } : Jvm.MethodName)) ∈ WS := ws_6 23 rfl rfl
theorem wd_6_24 : (Jvm.Cond.code ({ cls := "TradeLogsModel", name := "mentorOf", desc := "(I)I" } : Jvm.MethodName) prog_12_method_18_code (2 : Nat) (Option.some Jvm.ClassFile.FieldType.int)) ∈ WS := ws_6 24 rfl rfl
theorem wd_6_25 : (Jvm.Cond.methodLink "TradeLogsModel" (56 : Nat) ({ cls := "TradeLogsModel", name := "of", desc := "(II)J" } : Jvm.MethodName)) ∈ WS := ws_6 25 rfl rfl
theorem wd_6_27 : (Jvm.Cond.instanceMethod ({ cls := "TradeLogsModel", name := "of", desc := "(II)J" } : Jvm.MethodName)) ∈ WS := ws_6 27 rfl rfl
theorem wd_6_28 : (Jvm.Cond.code ({ cls := "TradeLogsModel", name := "of", desc := "(II)J" } : Jvm.MethodName) prog_12_method_15_code (3 : Nat) (Option.some Jvm.ClassFile.FieldType.long)) ∈ WS := ws_6 28 rfl rfl
theorem wd_6_29 : (Jvm.Cond.methodLink "TradeLogsModel" (60 : Nat) ({ cls := "TradeLogsModel", name := "put", desc := "(IIJ)V" } : Jvm.MethodName)) ∈ WS := ws_6 29 rfl rfl
theorem wd_6_31 : (Jvm.Cond.instanceMethod ({ cls := "TradeLogsModel", name := "put", desc := "(IIJ)V" } : Jvm.MethodName)) ∈ WS := ws_6 31 rfl rfl
theorem wd_6_32 : (Jvm.Cond.code ({ cls := "TradeLogsModel", name := "put", desc := "(IIJ)V" } : Jvm.MethodName) prog_12_method_16_code (5 : Nat) (Option.none : Option Jvm.ClassFile.FieldType)) ∈ WS := ws_6 32 rfl rfl
theorem wd_6_33 : (Jvm.Cond.methodLink "TradeLogsLaw" (118 : Nat) ({ cls := "TradeLogsModel", name := "release", desc := "(II)I" } : Jvm.MethodName)) ∈ WS := ws_6 33 rfl rfl
theorem wd_6_34 : (Jvm.Cond.instanceMethod ({ cls := "TradeLogsModel", name := "release", desc := "(II)I" } : Jvm.MethodName)) ∈ WS := ws_6 34 rfl rfl
theorem wd_6_35 : (Jvm.Cond.selects "TradeLogsModel" ({ cls := "TradeLogsModel", name := "release", desc := "(II)I" } : Jvm.MethodName) ({ cls := "TradeLogsModel", name := "release", desc := "(II)I" } : Jvm.MethodName)) ∈ WS := ws_6 35 rfl rfl
theorem wd_6_36 : (Jvm.Cond.code ({ cls := "TradeLogsModel", name := "release", desc := "(II)I" } : Jvm.MethodName) prog_12_method_50_code (4 : Nat) (Option.some Jvm.ClassFile.FieldType.int)) ∈ WS := ws_6 36 rfl rfl
theorem wd_6_37 : (Jvm.Cond.methodLink "TradeLogsModel" (189 : Nat) ({ cls := "TradeLogsModel", name := "frees", desc := "(II)I" } : Jvm.MethodName)) ∈ WS := ws_6 37 rfl rfl
theorem wd_6_39 : (Jvm.Cond.instanceMethod ({ cls := "TradeLogsModel", name := "frees", desc := "(II)I" } : Jvm.MethodName)) ∈ WS := ws_6 39 rfl rfl
theorem wd_6_40 : (Jvm.Cond.code ({ cls := "TradeLogsModel", name := "frees", desc := "(II)I" } : Jvm.MethodName) prog_12_method_38_code (3 : Nat) (Option.some Jvm.ClassFile.FieldType.int)) ∈ WS := ws_6 40 rfl rfl
theorem wd_6_41 : (Jvm.Cond.methodLink "TradeLogsModel" (128 : Nat) ({ cls := "TradeLogsModel", name := "isApprentice", desc := "(I)Z" } : Jvm.MethodName)) ∈ WS := ws_6 41 rfl rfl
theorem wd_6_43 : (Jvm.Cond.instanceMethod ({ cls := "TradeLogsModel", name := "isApprentice", desc := "(I)Z" } : Jvm.MethodName)) ∈ WS := ws_6 43 rfl rfl
theorem wd_6_44 : (Jvm.Cond.code ({ cls := "TradeLogsModel", name := "isApprentice", desc := "(I)Z" } : Jvm.MethodName) prog_12_method_12_code (2 : Nat) (Option.some Jvm.ClassFile.FieldType.boolean)) ∈ WS := ws_6 44 rfl rfl
theorem wd_6_45 : (Jvm.Cond.constantLong "TradeLogsModel" (131 : Nat) (199 : Int64)) ∈ WS := ws_6 45 rfl rfl
theorem wd_6_46 : (Jvm.Cond.methodLink "TradeLogsModel" (64 : Nat) ({ cls := "TradeLogsModel", name := "isDay", desc := "(III)Z" } : Jvm.MethodName)) ∈ WS := ws_6 46 rfl rfl
theorem wd_6_48 : (Jvm.Cond.instanceMethod ({ cls := "TradeLogsModel", name := "isDay", desc := "(III)Z" } : Jvm.MethodName)) ∈ WS := ws_6 48 rfl rfl
theorem wd_6_49 : (Jvm.Cond.code ({ cls := "TradeLogsModel", name := "isDay", desc := "(III)Z" } : Jvm.MethodName) prog_12_method_20_code (4 : Nat) (Option.some Jvm.ClassFile.FieldType.boolean)) ∈ WS := ws_6 49 rfl rfl
theorem wd_6_50 : (Jvm.Cond.methodLink "TradeLogsModel" (133 : Nat) ({ cls := "TradeLogsModel", name := "putDay", desc := "(III)V" } : Jvm.MethodName)) ∈ WS := ws_6 50 rfl rfl
theorem wd_6_52 : (Jvm.Cond.instanceMethod ({ cls := "TradeLogsModel", name := "putDay", desc := "(III)V" } : Jvm.MethodName)) ∈ WS := ws_6 52 rfl rfl
theorem wd_6_53 : (Jvm.Cond.code ({ cls := "TradeLogsModel", name := "putDay", desc := "(III)V" } : Jvm.MethodName) prog_12_method_21_code (4 : Nat) (Option.none : Option Jvm.ClassFile.FieldType)) ∈ WS := ws_6 53 rfl rfl
theorem wd_6_54 : (Jvm.Cond.methodLink "TradeLogsModel" (137 : Nat) ({ cls := "TradeLogsModel", name := "releases", desc := "(I)I" } : Jvm.MethodName)) ∈ WS := ws_6 54 rfl rfl
theorem wd_6_56 : (Jvm.Cond.instanceMethod ({ cls := "TradeLogsModel", name := "releases", desc := "(I)I" } : Jvm.MethodName)) ∈ WS := ws_6 56 rfl rfl
theorem wd_6_57 : (Jvm.Cond.code ({ cls := "TradeLogsModel", name := "releases", desc := "(I)I" } : Jvm.MethodName) prog_12_method_22_code (4 : Nat) (Option.some Jvm.ClassFile.FieldType.int)) ∈ WS := ws_6 57 rfl rfl
theorem wd_6_58 : (Jvm.Cond.methodLink "TradeLogsLaw" (121 : Nat) ({ cls := "TradeLogsModel", name := "log", desc := "(III)I" } : Jvm.MethodName)) ∈ WS := ws_6 58 rfl rfl
theorem wd_6_59 : (Jvm.Cond.instanceMethod ({ cls := "TradeLogsModel", name := "log", desc := "(III)I" } : Jvm.MethodName)) ∈ WS := ws_6 59 rfl rfl
theorem wd_6_60 : (Jvm.Cond.selects "TradeLogsModel" ({ cls := "TradeLogsModel", name := "log", desc := "(III)I" } : Jvm.MethodName) ({ cls := "TradeLogsModel", name := "log", desc := "(III)I" } : Jvm.MethodName)) ∈ WS := ws_6 60 rfl rfl
theorem wd_6_61 : (Jvm.Cond.code ({ cls := "TradeLogsModel", name := "log", desc := "(III)I" } : Jvm.MethodName) prog_12_method_51_code (5 : Nat) (Option.some Jvm.ClassFile.FieldType.int)) ∈ WS := ws_6 61 rfl rfl
theorem wd_6_62 : (Jvm.Cond.methodLink "TradeLogsModel" (192 : Nat) ({ cls := "TradeLogsModel", name := "logs", desc := "(III)I" } : Jvm.MethodName)) ∈ WS := ws_6 62 rfl rfl
theorem wd_6_64 : (Jvm.Cond.instanceMethod ({ cls := "TradeLogsModel", name := "logs", desc := "(III)I" } : Jvm.MethodName)) ∈ WS := ws_6 64 rfl rfl
theorem wd_6_65 : (Jvm.Cond.code ({ cls := "TradeLogsModel", name := "logs", desc := "(III)I" } : Jvm.MethodName) prog_12_method_39_code (6 : Nat) (Option.some Jvm.ClassFile.FieldType.int)) ∈ WS := ws_6 65 rfl rfl
theorem wd_6_66 : (Jvm.Cond.methodLink "TradeLogsModel" (140 : Nat) ({ cls := "TradeLogsModel", name := "isPart", desc := "(I)Z" } : Jvm.MethodName)) ∈ WS := ws_6 66 rfl rfl
theorem wd_6_67 : (Jvm.Cond.static ({ cls := "TradeLogsModel", name := "isPart", desc := "(I)Z" } : Jvm.MethodName)) ∈ WS := ws_6 67 rfl rfl
theorem wd_6_68 : (Jvm.Cond.code ({ cls := "TradeLogsModel", name := "isPart", desc := "(I)Z" } : Jvm.MethodName) prog_12_method_13_code (1 : Nat) (Option.some Jvm.ClassFile.FieldType.boolean)) ∈ WS := ws_6 68 rfl rfl
theorem wd_6_69 : (Jvm.Cond.constantLong "TradeLogsModel" (54 : Nat) (2 : Int64)) ∈ WS := ws_6 69 rfl rfl
theorem wd_6_70 : (Jvm.Cond.constantLong "TradeLogsModel" (143 : Nat) (12 : Int64)) ∈ WS := ws_6 70 rfl rfl
theorem wd_6_71 : (Jvm.Cond.methodLink "TradeLogsModel" (68 : Nat) ({ cls := "TradeLogsModel", name := "entries", desc := "(I)I" } : Jvm.MethodName)) ∈ WS := ws_6 71 rfl rfl
theorem wd_6_73 : (Jvm.Cond.instanceMethod ({ cls := "TradeLogsModel", name := "entries", desc := "(I)I" } : Jvm.MethodName)) ∈ WS := ws_6 73 rfl rfl
theorem wd_6_74 : (Jvm.Cond.code ({ cls := "TradeLogsModel", name := "entries", desc := "(I)I" } : Jvm.MethodName) prog_12_method_24_code (2 : Nat) (Option.some Jvm.ClassFile.FieldType.int)) ∈ WS := ws_6 74 rfl rfl
theorem wd_6_75 : (Jvm.Cond.constantLong "TradeLogsModel" (145 : Nat) (4 : Int64)) ∈ WS := ws_6 75 rfl rfl
theorem wd_6_76 : (Jvm.Cond.constantLong "TradeLogsModel" (147 : Nat) (64 : Int64)) ∈ WS := ws_6 76 rfl rfl
theorem wd_6_77 : (Jvm.Cond.constantLong "TradeLogsModel" (149 : Nat) (512 : Int64)) ∈ WS := ws_6 77 rfl rfl
theorem wd_6_78 : (Jvm.Cond.methodLink "TradeLogsModel" (76 : Nat) ({ cls := "TradeLogsModel", name := "adds", desc := "(IIJ)V" } : Jvm.MethodName)) ∈ WS := ws_6 78 rfl rfl
theorem wd_6_80 : (Jvm.Cond.instanceMethod ({ cls := "TradeLogsModel", name := "adds", desc := "(IIJ)V" } : Jvm.MethodName)) ∈ WS := ws_6 80 rfl rfl
theorem wd_6_81 : (Jvm.Cond.code ({ cls := "TradeLogsModel", name := "adds", desc := "(IIJ)V" } : Jvm.MethodName) prog_12_method_17_code (5 : Nat) (Option.none : Option Jvm.ClassFile.FieldType)) ∈ WS := ws_6 81 rfl rfl
theorem wd_6_82 : (Jvm.Cond.methodLink "TradeLogsLaw" (124 : Nat) ({ cls := "TradeLogsModel", name := "confirm", desc := "(II)I" } : Jvm.MethodName)) ∈ WS := ws_6 82 rfl rfl
theorem wd_6_83 : (Jvm.Cond.instanceMethod ({ cls := "TradeLogsModel", name := "confirm", desc := "(II)I" } : Jvm.MethodName)) ∈ WS := ws_6 83 rfl rfl
theorem wd_6_84 : (Jvm.Cond.selects "TradeLogsModel" ({ cls := "TradeLogsModel", name := "confirm", desc := "(II)I" } : Jvm.MethodName) ({ cls := "TradeLogsModel", name := "confirm", desc := "(II)I" } : Jvm.MethodName)) ∈ WS := ws_6 84 rfl rfl
theorem wd_6_85 : (Jvm.Cond.code ({ cls := "TradeLogsModel", name := "confirm", desc := "(II)I" } : Jvm.MethodName) prog_12_method_52_code (4 : Nat) (Option.some Jvm.ClassFile.FieldType.int)) ∈ WS := ws_6 85 rfl rfl
theorem wd_6_86 : (Jvm.Cond.methodLink "TradeLogsModel" (195 : Nat) ({ cls := "TradeLogsModel", name := "confirms", desc := "(II)I" } : Jvm.MethodName)) ∈ WS := ws_6 86 rfl rfl
theorem wd_6_88 : (Jvm.Cond.instanceMethod ({ cls := "TradeLogsModel", name := "confirms", desc := "(II)I" } : Jvm.MethodName)) ∈ WS := ws_6 88 rfl rfl
theorem wd_6_89 : (Jvm.Cond.code ({ cls := "TradeLogsModel", name := "confirms", desc := "(II)I" } : Jvm.MethodName) prog_12_method_40_code (9 : Nat) (Option.some Jvm.ClassFile.FieldType.int)) ∈ WS := ws_6 89 rfl rfl
theorem wd_6_90 : (Jvm.Cond.constantLong "TradeLogsModel" (151 : Nat) (99 : Int64)) ∈ WS := ws_6 90 rfl rfl
theorem wd_6_91 : (Jvm.Cond.methodLink "TradeLogsModel" (79 : Nat) ({ cls := "TradeLogsModel", name := "entryOf", desc := "(III)I" } : Jvm.MethodName)) ∈ WS := ws_6 91 rfl rfl
theorem wd_6_93 : (Jvm.Cond.instanceMethod ({ cls := "TradeLogsModel", name := "entryOf", desc := "(III)I" } : Jvm.MethodName)) ∈ WS := ws_6 93 rfl rfl
theorem wd_6_94 : (Jvm.Cond.code ({ cls := "TradeLogsModel", name := "entryOf", desc := "(III)I" } : Jvm.MethodName) prog_12_method_23_code (5 : Nat) (Option.some Jvm.ClassFile.FieldType.int)) ∈ WS := ws_6 94 rfl rfl
theorem wd_6_95 : (Jvm.Cond.constantLong "TradeLogsModel" (153 : Nat) (2147483647 : Int64)) ∈ WS := ws_6 95 rfl rfl
theorem wd_6_96 : (Jvm.Cond.methodLink "TradeLogsModel" (71 : Nat) ({ cls := "TradeLogsModel", name := "takesOut", desc := "(II)J" } : Jvm.MethodName)) ∈ WS := ws_6 96 rfl rfl
theorem wd_6_98 : (Jvm.Cond.instanceMethod ({ cls := "TradeLogsModel", name := "takesOut", desc := "(II)J" } : Jvm.MethodName)) ∈ WS := ws_6 98 rfl rfl
theorem wd_6_99 : (Jvm.Cond.code ({ cls := "TradeLogsModel", name := "takesOut", desc := "(II)J" } : Jvm.MethodName) prog_12_method_25_code (6 : Nat) (Option.some Jvm.ClassFile.FieldType.long)) ∈ WS := ws_6 99 rfl rfl
theorem wd_6_100 : (Jvm.Cond.constantLong "TradeLogsModel" (74 : Nat) (-1 : Int64)) ∈ WS := ws_6 100 rfl rfl
theorem wd_6_101 : (Jvm.Cond.methodLink "TradeLogsLaw" (128 : Nat) ({ cls := "TradeLogsModel", name := "doubt", desc := "(I)I" } : Jvm.MethodName)) ∈ WS := ws_6 101 rfl rfl
theorem wd_6_102 : (Jvm.Cond.instanceMethod ({ cls := "TradeLogsModel", name := "doubt", desc := "(I)I" } : Jvm.MethodName)) ∈ WS := ws_6 102 rfl rfl
theorem wd_6_103 : (Jvm.Cond.selects "TradeLogsModel" ({ cls := "TradeLogsModel", name := "doubt", desc := "(I)I" } : Jvm.MethodName) ({ cls := "TradeLogsModel", name := "doubt", desc := "(I)I" } : Jvm.MethodName)) ∈ WS := ws_6 103 rfl rfl
theorem wd_6_104 : (Jvm.Cond.code ({ cls := "TradeLogsModel", name := "doubt", desc := "(I)I" } : Jvm.MethodName) prog_12_method_53_code (3 : Nat) (Option.some Jvm.ClassFile.FieldType.int)) ∈ WS := ws_6 104 rfl rfl
theorem wd_6_105 : (Jvm.Cond.methodLink "TradeLogsModel" (198 : Nat) ({ cls := "TradeLogsModel", name := "doubtsOldest", desc := "(I)I" } : Jvm.MethodName)) ∈ WS := ws_6 105 rfl rfl
theorem wd_6_107 : (Jvm.Cond.instanceMethod ({ cls := "TradeLogsModel", name := "doubtsOldest", desc := "(I)I" } : Jvm.MethodName)) ∈ WS := ws_6 107 rfl rfl
theorem wd_6_108 : (Jvm.Cond.code ({ cls := "TradeLogsModel", name := "doubtsOldest", desc := "(I)I" } : Jvm.MethodName) prog_12_method_41_code (2 : Nat) (Option.some Jvm.ClassFile.FieldType.int)) ∈ WS := ws_6 108 rfl rfl
theorem wd_6_109 : (Jvm.Cond.methodLink "TradeLogsModel" (104 : Nat) ({ cls := "TradeLogsModel", name := "doubts", desc := "(II)V" } : Jvm.MethodName)) ∈ WS := ws_6 109 rfl rfl
theorem wd_6_111 : (Jvm.Cond.instanceMethod ({ cls := "TradeLogsModel", name := "doubts", desc := "(II)V" } : Jvm.MethodName)) ∈ WS := ws_6 111 rfl rfl
theorem wd_6_112 : (Jvm.Cond.code ({ cls := "TradeLogsModel", name := "doubts", desc := "(II)V" } : Jvm.MethodName) prog_12_method_26_code (5 : Nat) (Option.none : Option Jvm.ClassFile.FieldType)) ∈ WS := ws_6 112 rfl rfl
theorem wd_6_113 : (Jvm.Cond.methodLink "TradeLogsLaw" (132 : Nat) ({ cls := "TradeLogsModel", name := "settle", desc := "(IZ)I" } : Jvm.MethodName)) ∈ WS := ws_6 113 rfl rfl
theorem wd_6_114 : (Jvm.Cond.instanceMethod ({ cls := "TradeLogsModel", name := "settle", desc := "(IZ)I" } : Jvm.MethodName)) ∈ WS := ws_6 114 rfl rfl
theorem wd_6_115 : (Jvm.Cond.selects "TradeLogsModel" ({ cls := "TradeLogsModel", name := "settle", desc := "(IZ)I" } : Jvm.MethodName) ({ cls := "TradeLogsModel", name := "settle", desc := "(IZ)I" } : Jvm.MethodName)) ∈ WS := ws_6 115 rfl rfl
theorem wd_6_116 : (Jvm.Cond.code ({ cls := "TradeLogsModel", name := "settle", desc := "(IZ)I" } : Jvm.MethodName) prog_12_method_54_code (4 : Nat) (Option.some Jvm.ClassFile.FieldType.int)) ∈ WS := ws_6 116 rfl rfl
theorem wd_6_117 : (Jvm.Cond.methodLink "TradeLogsModel" (201 : Nat) ({ cls := "TradeLogsModel", name := "settles", desc := "(IZ)I" } : Jvm.MethodName)) ∈ WS := ws_6 117 rfl rfl
theorem wd_6_119 : (Jvm.Cond.instanceMethod ({ cls := "TradeLogsModel", name := "settles", desc := "(IZ)I" } : Jvm.MethodName)) ∈ WS := ws_6 119 rfl rfl
theorem wd_6_120 : (Jvm.Cond.code ({ cls := "TradeLogsModel", name := "settles", desc := "(IZ)I" } : Jvm.MethodName) prog_12_method_42_code (8 : Nat) (Option.some Jvm.ClassFile.FieldType.int)) ∈ WS := ws_6 120 rfl rfl
theorem wd_6_121 : (Jvm.Cond.methodLink "TradeLogsLaw" (135 : Nat) ({ cls := "TradeLogsModel", name := "credit", desc := "(III)I" } : Jvm.MethodName)) ∈ WS := ws_6 121 rfl rfl
theorem wd_6_122 : (Jvm.Cond.instanceMethod ({ cls := "TradeLogsModel", name := "credit", desc := "(III)I" } : Jvm.MethodName)) ∈ WS := ws_6 122 rfl rfl
theorem wd_6_123 : (Jvm.Cond.selects "TradeLogsModel" ({ cls := "TradeLogsModel", name := "credit", desc := "(III)I" } : Jvm.MethodName) ({ cls := "TradeLogsModel", name := "credit", desc := "(III)I" } : Jvm.MethodName)) ∈ WS := ws_6 123 rfl rfl
theorem wd_6_124 : (Jvm.Cond.code ({ cls := "TradeLogsModel", name := "credit", desc := "(III)I" } : Jvm.MethodName) prog_12_method_55_code (6 : Nat) (Option.some Jvm.ClassFile.FieldType.int)) ∈ WS := ws_6 124 rfl rfl
theorem wd_6_125 : (Jvm.Cond.methodLink "TradeLogsLaw" (139 : Nat) ({ cls := "TradeLogsModel", name := "endDay", desc := "()I" } : Jvm.MethodName)) ∈ WS := ws_6 125 rfl rfl
theorem wd_6_126 : (Jvm.Cond.instanceMethod ({ cls := "TradeLogsModel", name := "endDay", desc := "()I" } : Jvm.MethodName)) ∈ WS := ws_6 126 rfl rfl
theorem wd_6_127 : (Jvm.Cond.selects "TradeLogsModel" ({ cls := "TradeLogsModel", name := "endDay", desc := "()I" } : Jvm.MethodName) ({ cls := "TradeLogsModel", name := "endDay", desc := "()I" } : Jvm.MethodName)) ∈ WS := ws_6 127 rfl rfl
theorem wd_6_128 : (Jvm.Cond.code ({ cls := "TradeLogsModel", name := "endDay", desc := "()I" } : Jvm.MethodName) prog_12_method_56_code (2 : Nat) (Option.some Jvm.ClassFile.FieldType.int)) ∈ WS := ws_6 128 rfl rfl
theorem wd_6_129 : (Jvm.Cond.methodLink "TradeLogsModel" (169 : Nat) ({ cls := "TradeLogsModel", name := "endsDay", desc := "()I" } : Jvm.MethodName)) ∈ WS := ws_6 129 rfl rfl
theorem wd_6_131 : (Jvm.Cond.instanceMethod ({ cls := "TradeLogsModel", name := "endsDay", desc := "()I" } : Jvm.MethodName)) ∈ WS := ws_6 131 rfl rfl
theorem wd_6_132 : (Jvm.Cond.code ({ cls := "TradeLogsModel", name := "endsDay", desc := "()I" } : Jvm.MethodName) prog_12_method_43_code (4 : Nat) (Option.some Jvm.ClassFile.FieldType.int)) ∈ WS := ws_6 132 rfl rfl
theorem wd_6_133 : (Jvm.Cond.constantLong "TradeLogsModel" (155 : Nat) (9999 : Int64)) ∈ WS := ws_6 133 rfl rfl
theorem wd_6_134 : (Jvm.Cond.methodLink "TradeLogsLaw" (142 : Nat) ({ cls := "TradeLogsModel", name := "move", desc := "(II)I" } : Jvm.MethodName)) ∈ WS := ws_6 134 rfl rfl
theorem wd_6_135 : (Jvm.Cond.instanceMethod ({ cls := "TradeLogsModel", name := "move", desc := "(II)I" } : Jvm.MethodName)) ∈ WS := ws_6 135 rfl rfl
theorem wd_6_136 : (Jvm.Cond.selects "TradeLogsModel" ({ cls := "TradeLogsModel", name := "move", desc := "(II)I" } : Jvm.MethodName) ({ cls := "TradeLogsModel", name := "move", desc := "(II)I" } : Jvm.MethodName)) ∈ WS := ws_6 136 rfl rfl
theorem wd_6_137 : (Jvm.Cond.code ({ cls := "TradeLogsModel", name := "move", desc := "(II)I" } : Jvm.MethodName) prog_12_method_57_code (4 : Nat) (Option.some Jvm.ClassFile.FieldType.int)) ∈ WS := ws_6 137 rfl rfl
theorem wd_6_138 : (Jvm.Cond.methodLink "TradeLogsModel" (205 : Nat) ({ cls := "TradeLogsModel", name := "moves", desc := "(II)I" } : Jvm.MethodName)) ∈ WS := ws_6 138 rfl rfl
theorem wd_6_140 : (Jvm.Cond.instanceMethod ({ cls := "TradeLogsModel", name := "moves", desc := "(II)I" } : Jvm.MethodName)) ∈ WS := ws_6 140 rfl rfl
theorem wd_6_141 : (Jvm.Cond.code ({ cls := "TradeLogsModel", name := "moves", desc := "(II)I" } : Jvm.MethodName) prog_12_method_44_code (3 : Nat) (Option.some Jvm.ClassFile.FieldType.int)) ∈ WS := ws_6 141 rfl rfl
theorem wd_6_142 : (Jvm.Cond.methodLink "TradeLogsModel" (157 : Nat) ({ cls := "TradeLogsModel", name := "reasonOf", desc := "(II)I" } : Jvm.MethodName)) ∈ WS := ws_6 142 rfl rfl
theorem wd_6_144 : (Jvm.Cond.instanceMethod ({ cls := "TradeLogsModel", name := "reasonOf", desc := "(II)I" } : Jvm.MethodName)) ∈ WS := ws_6 144 rfl rfl
theorem wd_6_145 : (Jvm.Cond.code ({ cls := "TradeLogsModel", name := "reasonOf", desc := "(II)I" } : Jvm.MethodName) prog_12_method_31_code (3 : Nat) (Option.some Jvm.ClassFile.FieldType.int)) ∈ WS := ws_6 145 rfl rfl
theorem wd_6_146 : (Jvm.Cond.methodLink "TradeLogsModel" (160 : Nat) ({ cls := "TradeLogsModel", name := "comesTo", desc := "(II)I" } : Jvm.MethodName)) ∈ WS := ws_6 146 rfl rfl
theorem wd_6_148 : (Jvm.Cond.instanceMethod ({ cls := "TradeLogsModel", name := "comesTo", desc := "(II)I" } : Jvm.MethodName)) ∈ WS := ws_6 148 rfl rfl
theorem wd_6_149 : (Jvm.Cond.code ({ cls := "TradeLogsModel", name := "comesTo", desc := "(II)I" } : Jvm.MethodName) prog_12_method_33_code (5 : Nat) (Option.some Jvm.ClassFile.FieldType.int)) ∈ WS := ws_6 149 rfl rfl
theorem wd_6_150 : (Jvm.Cond.methodLink "TradeLogsModel" (100 : Nat) ({ cls := "TradeLogsModel", name := "strange", desc := "(II)I" } : Jvm.MethodName)) ∈ WS := ws_6 150 rfl rfl
theorem wd_6_152 : (Jvm.Cond.instanceMethod ({ cls := "TradeLogsModel", name := "strange", desc := "(II)I" } : Jvm.MethodName)) ∈ WS := ws_6 152 rfl rfl
theorem wd_6_153 : (Jvm.Cond.code ({ cls := "TradeLogsModel", name := "strange", desc := "(II)I" } : Jvm.MethodName) prog_12_method_32_code (5 : Nat) (Option.some Jvm.ClassFile.FieldType.int)) ∈ WS := ws_6 153 rfl rfl
theorem wd_6_154 : (Jvm.Cond.methodLink "TradeLogsLaw" (145 : Nat) ({ cls := "TradeLogsModel", name := "leave", desc := "(I)I" } : Jvm.MethodName)) ∈ WS := ws_6 154 rfl rfl
theorem wd_6_155 : (Jvm.Cond.instanceMethod ({ cls := "TradeLogsModel", name := "leave", desc := "(I)I" } : Jvm.MethodName)) ∈ WS := ws_6 155 rfl rfl
theorem wd_6_156 : (Jvm.Cond.selects "TradeLogsModel" ({ cls := "TradeLogsModel", name := "leave", desc := "(I)I" } : Jvm.MethodName) ({ cls := "TradeLogsModel", name := "leave", desc := "(I)I" } : Jvm.MethodName)) ∈ WS := ws_6 156 rfl rfl
theorem wd_6_157 : (Jvm.Cond.code ({ cls := "TradeLogsModel", name := "leave", desc := "(I)I" } : Jvm.MethodName) prog_12_method_58_code (3 : Nat) (Option.some Jvm.ClassFile.FieldType.int)) ∈ WS := ws_6 157 rfl rfl
theorem wd_6_158 : (Jvm.Cond.methodLink "TradeLogsLaw" (148 : Nat) ({ cls := "TradeLogsModel", name := "exchange", desc := "(II)I" } : Jvm.MethodName)) ∈ WS := ws_6 158 rfl rfl
theorem wd_6_159 : (Jvm.Cond.instanceMethod ({ cls := "TradeLogsModel", name := "exchange", desc := "(II)I" } : Jvm.MethodName)) ∈ WS := ws_6 159 rfl rfl
theorem wd_6_160 : (Jvm.Cond.selects "TradeLogsModel" ({ cls := "TradeLogsModel", name := "exchange", desc := "(II)I" } : Jvm.MethodName) ({ cls := "TradeLogsModel", name := "exchange", desc := "(II)I" } : Jvm.MethodName)) ∈ WS := ws_6 160 rfl rfl
theorem wd_6_161 : (Jvm.Cond.code ({ cls := "TradeLogsModel", name := "exchange", desc := "(II)I" } : Jvm.MethodName) prog_12_method_59_code (4 : Nat) (Option.some Jvm.ClassFile.FieldType.int)) ∈ WS := ws_6 161 rfl rfl
theorem wd_6_162 : (Jvm.Cond.methodLink "TradeLogsModel" (208 : Nat) ({ cls := "TradeLogsModel", name := "swaps", desc := "(II)I" } : Jvm.MethodName)) ∈ WS := ws_6 162 rfl rfl
theorem wd_6_164 : (Jvm.Cond.instanceMethod ({ cls := "TradeLogsModel", name := "swaps", desc := "(II)I" } : Jvm.MethodName)) ∈ WS := ws_6 164 rfl rfl
theorem wd_6_165 : (Jvm.Cond.code ({ cls := "TradeLogsModel", name := "swaps", desc := "(II)I" } : Jvm.MethodName) prog_12_method_45_code (4 : Nat) (Option.some Jvm.ClassFile.FieldType.int)) ∈ WS := ws_6 165 rfl rfl
theorem wd_6_166 : (Jvm.Cond.methodLink "TradeLogsModel" (163 : Nat) ({ cls := "TradeLogsModel", name := "canExchange", desc := "(II)Z" } : Jvm.MethodName)) ∈ WS := ws_6 166 rfl rfl
theorem wd_6_168 : (Jvm.Cond.instanceMethod ({ cls := "TradeLogsModel", name := "canExchange", desc := "(II)Z" } : Jvm.MethodName)) ∈ WS := ws_6 168 rfl rfl
theorem wd_6_169 : (Jvm.Cond.code ({ cls := "TradeLogsModel", name := "canExchange", desc := "(II)Z" } : Jvm.MethodName) prog_12_method_34_code (5 : Nat) (Option.some Jvm.ClassFile.FieldType.boolean)) ∈ WS := ws_6 169 rfl rfl
theorem wd_6_170 : (Jvm.Cond.methodLink "TradeLogsLaw" (151 : Nat) ({ cls := "TradeLogsModel", name := "reason", desc := "(II)I" } : Jvm.MethodName)) ∈ WS := ws_6 170 rfl rfl
theorem wd_6_171 : (Jvm.Cond.instanceMethod ({ cls := "TradeLogsModel", name := "reason", desc := "(II)I" } : Jvm.MethodName)) ∈ WS := ws_6 171 rfl rfl
theorem wd_6_172 : (Jvm.Cond.selects "TradeLogsModel" ({ cls := "TradeLogsModel", name := "reason", desc := "(II)I" } : Jvm.MethodName) ({ cls := "TradeLogsModel", name := "reason", desc := "(II)I" } : Jvm.MethodName)) ∈ WS := ws_6 172 rfl rfl
theorem wd_6_173 : (Jvm.Cond.code ({ cls := "TradeLogsModel", name := "reason", desc := "(II)I" } : Jvm.MethodName) prog_12_method_60_code (3 : Nat) (Option.some Jvm.ClassFile.FieldType.int)) ∈ WS := ws_6 173 rfl rfl
theorem wd_6_174 : (Jvm.Cond.methodLink "TradeLogsLaw" (154 : Nat) ({ cls := "TradeLogsModel", name := "mentor", desc := "(II)I" } : Jvm.MethodName)) ∈ WS := ws_6 174 rfl rfl
theorem wd_6_175 : (Jvm.Cond.instanceMethod ({ cls := "TradeLogsModel", name := "mentor", desc := "(II)I" } : Jvm.MethodName)) ∈ WS := ws_6 175 rfl rfl
theorem wd_6_176 : (Jvm.Cond.selects "TradeLogsModel" ({ cls := "TradeLogsModel", name := "mentor", desc := "(II)I" } : Jvm.MethodName) ({ cls := "TradeLogsModel", name := "mentor", desc := "(II)I" } : Jvm.MethodName)) ∈ WS := ws_6 176 rfl rfl
theorem wd_6_177 : (Jvm.Cond.code ({ cls := "TradeLogsModel", name := "mentor", desc := "(II)I" } : Jvm.MethodName) prog_12_method_62_code (3 : Nat) (Option.some Jvm.ClassFile.FieldType.int)) ∈ WS := ws_6 177 rfl rfl
theorem wd_6_178 : (Jvm.Cond.methodLink "TradeLogsModel" (211 : Nat) ({ cls := "TradeLogsModel", name := "mentorTold", desc := "(II)J" } : Jvm.MethodName)) ∈ WS := ws_6 178 rfl rfl
theorem wd_6_180 : (Jvm.Cond.instanceMethod ({ cls := "TradeLogsModel", name := "mentorTold", desc := "(II)J" } : Jvm.MethodName)) ∈ WS := ws_6 180 rfl rfl
theorem wd_6_181 : (Jvm.Cond.code ({ cls := "TradeLogsModel", name := "mentorTold", desc := "(II)J" } : Jvm.MethodName) prog_12_method_61_code (7 : Nat) (Option.some Jvm.ClassFile.FieldType.long)) ∈ WS := ws_6 181 rfl rfl
theorem wd_6_182 : (Jvm.Cond.methodLink "TradeLogsLaw" (157 : Nat) ({ cls := "TradeLogsModel", name := "apprentice", desc := "(II)I" } : Jvm.MethodName)) ∈ WS := ws_6 182 rfl rfl
theorem wd_6_183 : (Jvm.Cond.instanceMethod ({ cls := "TradeLogsModel", name := "apprentice", desc := "(II)I" } : Jvm.MethodName)) ∈ WS := ws_6 183 rfl rfl
theorem wd_6_184 : (Jvm.Cond.selects "TradeLogsModel" ({ cls := "TradeLogsModel", name := "apprentice", desc := "(II)I" } : Jvm.MethodName) ({ cls := "TradeLogsModel", name := "apprentice", desc := "(II)I" } : Jvm.MethodName)) ∈ WS := ws_6 184 rfl rfl
theorem wd_6_185 : (Jvm.Cond.code ({ cls := "TradeLogsModel", name := "apprentice", desc := "(II)I" } : Jvm.MethodName) prog_12_method_66_code (3 : Nat) (Option.some Jvm.ClassFile.FieldType.int)) ∈ WS := ws_6 185 rfl rfl
theorem wd_6_186 : (Jvm.Cond.constantLong "TradeLogsModel" (227 : Nat) (11 : Int64)) ∈ WS := ws_6 186 rfl rfl
theorem wd_6_187 : (Jvm.Cond.methodLink "TradeLogsModel" (229 : Nat) ({ cls := "TradeLogsModel", name := "apprenticeTold", desc := "(II)J" } : Jvm.MethodName)) ∈ WS := ws_6 187 rfl rfl
theorem wd_6_189 : (Jvm.Cond.instanceMethod ({ cls := "TradeLogsModel", name := "apprenticeTold", desc := "(II)J" } : Jvm.MethodName)) ∈ WS := ws_6 189 rfl rfl
theorem wd_6_190 : (Jvm.Cond.code ({ cls := "TradeLogsModel", name := "apprenticeTold", desc := "(II)J" } : Jvm.MethodName) prog_12_method_65_code (3 : Nat) (Option.some Jvm.ClassFile.FieldType.long)) ∈ WS := ws_6 190 rfl rfl
theorem wd_6_191 : (Jvm.Cond.methodLink "TradeLogsModel" (220 : Nat) ({ cls := "TradeLogsModel", name := "hoursOf", desc := "(IIZ)I" } : Jvm.MethodName)) ∈ WS := ws_6 191 rfl rfl
theorem wd_6_193 : (Jvm.Cond.instanceMethod ({ cls := "TradeLogsModel", name := "hoursOf", desc := "(IIZ)I" } : Jvm.MethodName)) ∈ WS := ws_6 193 rfl rfl
theorem wd_6_194 : (Jvm.Cond.code ({ cls := "TradeLogsModel", name := "hoursOf", desc := "(IIZ)I" } : Jvm.MethodName) prog_12_method_27_code (8 : Nat) (Option.some Jvm.ClassFile.FieldType.int)) ∈ WS := ws_6 194 rfl rfl
theorem wd_6_195 : (Jvm.Cond.methodLink "TradeLogsModel" (224 : Nat) ({ cls := "TradeLogsModel", name := "isComplete", desc := "(I)Z" } : Jvm.MethodName)) ∈ WS := ws_6 195 rfl rfl
theorem wd_6_197 : (Jvm.Cond.instanceMethod ({ cls := "TradeLogsModel", name := "isComplete", desc := "(I)Z" } : Jvm.MethodName)) ∈ WS := ws_6 197 rfl rfl
theorem wd_6_198 : (Jvm.Cond.code ({ cls := "TradeLogsModel", name := "isComplete", desc := "(I)Z" } : Jvm.MethodName) prog_12_method_64_code (2 : Nat) (Option.some Jvm.ClassFile.FieldType.boolean)) ∈ WS := ws_6 198 rfl rfl
theorem wd_6_199 : (Jvm.Cond.methodLink "TradeLogsModel" (217 : Nat) ({ cls := "TradeLogsModel", name := "missing", desc := "(II)J" } : Jvm.MethodName)) ∈ WS := ws_6 199 rfl rfl
theorem wd_6_201 : (Jvm.Cond.instanceMethod ({ cls := "TradeLogsModel", name := "missing", desc := "(II)J" } : Jvm.MethodName)) ∈ WS := ws_6 201 rfl rfl
theorem wd_6_202 : (Jvm.Cond.code ({ cls := "TradeLogsModel", name := "missing", desc := "(II)J" } : Jvm.MethodName) prog_12_method_63_code (5 : Nat) (Option.some Jvm.ClassFile.FieldType.long)) ∈ WS := ws_6 202 rfl rfl
theorem wd_6_203 : (Jvm.Cond.methodLink "TradeLogsModel" (214 : Nat) ({ cls := "TradeLogsModel", name := "needs", desc := "(II)J" } : Jvm.MethodName)) ∈ WS := ws_6 203 rfl rfl
theorem wd_6_205 : (Jvm.Cond.instanceMethod ({ cls := "TradeLogsModel", name := "needs", desc := "(II)J" } : Jvm.MethodName)) ∈ WS := ws_6 205 rfl rfl
theorem wd_6_206 : (Jvm.Cond.code ({ cls := "TradeLogsModel", name := "needs", desc := "(II)J" } : Jvm.MethodName) prog_12_method_19_code (3 : Nat) (Option.some Jvm.ClassFile.FieldType.long)) ∈ WS := ws_6 206 rfl rfl
theorem wd_6_207 : (Jvm.Cond.methodLink "TradeLogsLaw" (160 : Nat) ({ cls := "TradeLogsModel", name := "part", desc := "(III)I" } : Jvm.MethodName)) ∈ WS := ws_6 207 rfl rfl
theorem wd_6_208 : (Jvm.Cond.instanceMethod ({ cls := "TradeLogsModel", name := "part", desc := "(III)I" } : Jvm.MethodName)) ∈ WS := ws_6 208 rfl rfl
theorem wd_6_209 : (Jvm.Cond.selects "TradeLogsModel" ({ cls := "TradeLogsModel", name := "part", desc := "(III)I" } : Jvm.MethodName) ({ cls := "TradeLogsModel", name := "part", desc := "(III)I" } : Jvm.MethodName)) ∈ WS := ws_6 209 rfl rfl
theorem wd_6_210 : (Jvm.Cond.code ({ cls := "TradeLogsModel", name := "part", desc := "(III)I" } : Jvm.MethodName) prog_12_method_68_code (4 : Nat) (Option.some Jvm.ClassFile.FieldType.int)) ∈ WS := ws_6 210 rfl rfl
theorem wd_6_211 : (Jvm.Cond.methodLink "TradeLogsModel" (232 : Nat) ({ cls := "TradeLogsModel", name := "partTold", desc := "(III)J" } : Jvm.MethodName)) ∈ WS := ws_6 211 rfl rfl
theorem wd_6_213 : (Jvm.Cond.instanceMethod ({ cls := "TradeLogsModel", name := "partTold", desc := "(III)J" } : Jvm.MethodName)) ∈ WS := ws_6 213 rfl rfl
theorem wd_6_214 : (Jvm.Cond.code ({ cls := "TradeLogsModel", name := "partTold", desc := "(III)J" } : Jvm.MethodName) prog_12_method_67_code (4 : Nat) (Option.some Jvm.ClassFile.FieldType.long)) ∈ WS := ws_6 214 rfl rfl
theorem wd_6_215 : (Jvm.Cond.methodLink "TradeLogsLaw" (164 : Nat) ({ cls := "TradeLogsModel", name := "entry", desc := "(IZII)I" } : Jvm.MethodName)) ∈ WS := ws_6 215 rfl rfl
theorem wd_6_216 : (Jvm.Cond.instanceMethod ({ cls := "TradeLogsModel", name := "entry", desc := "(IZII)I" } : Jvm.MethodName)) ∈ WS := ws_6 216 rfl rfl
theorem wd_6_217 : (Jvm.Cond.selects "TradeLogsModel" ({ cls := "TradeLogsModel", name := "entry", desc := "(IZII)I" } : Jvm.MethodName) ({ cls := "TradeLogsModel", name := "entry", desc := "(IZII)I" } : Jvm.MethodName)) ∈ WS := ws_6 217 rfl rfl
theorem wd_6_218 : (Jvm.Cond.code ({ cls := "TradeLogsModel", name := "entry", desc := "(IZII)I" } : Jvm.MethodName) prog_12_method_69_code (8 : Nat) (Option.some Jvm.ClassFile.FieldType.int)) ∈ WS := ws_6 218 rfl rfl
theorem wd_6_219 : (Jvm.Cond.constantLong "TradeLogsModel" (236 : Nat) (3 : Int64)) ∈ WS := ws_6 219 rfl rfl
theorem wd_6_220 : (Jvm.Cond.methodLink "TradeLogsLaw" (167 : Nat) ({ cls := "TradeLogsModel", name := "whole", desc := "(I)I" } : Jvm.MethodName)) ∈ WS := ws_6 220 rfl rfl
theorem wd_6_221 : (Jvm.Cond.instanceMethod ({ cls := "TradeLogsModel", name := "whole", desc := "(I)I" } : Jvm.MethodName)) ∈ WS := ws_6 221 rfl rfl
theorem wd_6_222 : (Jvm.Cond.selects "TradeLogsModel" ({ cls := "TradeLogsModel", name := "whole", desc := "(I)I" } : Jvm.MethodName) ({ cls := "TradeLogsModel", name := "whole", desc := "(I)I" } : Jvm.MethodName)) ∈ WS := ws_6 222 rfl rfl
theorem wd_6_223 : (Jvm.Cond.code ({ cls := "TradeLogsModel", name := "whole", desc := "(I)I" } : Jvm.MethodName) prog_12_method_71_code (2 : Nat) (Option.some Jvm.ClassFile.FieldType.int)) ∈ WS := ws_6 223 rfl rfl
theorem wd_6_224 : (Jvm.Cond.constantLong "TradeLogsModel" (241 : Nat) (9 : Int64)) ∈ WS := ws_6 224 rfl rfl
theorem wd_6_225 : (Jvm.Cond.methodLink "TradeLogsModel" (243 : Nat) ({ cls := "TradeLogsModel", name := "wholeTold", desc := "(I)J" } : Jvm.MethodName)) ∈ WS := ws_6 225 rfl rfl
theorem wd_6_227 : (Jvm.Cond.instanceMethod ({ cls := "TradeLogsModel", name := "wholeTold", desc := "(I)J" } : Jvm.MethodName)) ∈ WS := ws_6 227 rfl rfl
theorem wd_6_228 : (Jvm.Cond.code ({ cls := "TradeLogsModel", name := "wholeTold", desc := "(I)J" } : Jvm.MethodName) prog_12_method_70_code (5 : Nat) (Option.some Jvm.ClassFile.FieldType.long)) ∈ WS := ws_6 228 rfl rfl
theorem wd_6_229 : (Jvm.Cond.methodLink "TradeLogsLaw" (170 : Nat) ({ cls := "TradeLogsModel", name := "completeOn", desc := "(II)I" } : Jvm.MethodName)) ∈ WS := ws_6 229 rfl rfl
theorem wd_6_230 : (Jvm.Cond.instanceMethod ({ cls := "TradeLogsModel", name := "completeOn", desc := "(II)I" } : Jvm.MethodName)) ∈ WS := ws_6 230 rfl rfl
theorem wd_6_231 : (Jvm.Cond.selects "TradeLogsModel" ({ cls := "TradeLogsModel", name := "completeOn", desc := "(II)I" } : Jvm.MethodName) ({ cls := "TradeLogsModel", name := "completeOn", desc := "(II)I" } : Jvm.MethodName)) ∈ WS := ws_6 231 rfl rfl
theorem wd_6_232 : (Jvm.Cond.code ({ cls := "TradeLogsModel", name := "completeOn", desc := "(II)I" } : Jvm.MethodName) prog_12_method_72_code (8 : Nat) (Option.some Jvm.ClassFile.FieldType.int)) ∈ WS := ws_6 232 rfl rfl
theorem wd_6_233 : (Jvm.Cond.methodLink "TradeLogsLaw" (173 : Nat) ({ cls := "TradeLogsModel", name := "bestMentor", desc := "(I)I" } : Jvm.MethodName)) ∈ WS := ws_6 233 rfl rfl
theorem wd_6_234 : (Jvm.Cond.instanceMethod ({ cls := "TradeLogsModel", name := "bestMentor", desc := "(I)I" } : Jvm.MethodName)) ∈ WS := ws_6 234 rfl rfl
theorem wd_6_235 : (Jvm.Cond.selects "TradeLogsModel" ({ cls := "TradeLogsModel", name := "bestMentor", desc := "(I)I" } : Jvm.MethodName) ({ cls := "TradeLogsModel", name := "bestMentor", desc := "(I)I" } : Jvm.MethodName)) ∈ WS := ws_6 235 rfl rfl
theorem wd_6_236 : (Jvm.Cond.code ({ cls := "TradeLogsModel", name := "bestMentor", desc := "(I)I" } : Jvm.MethodName) prog_12_method_74_code (2 : Nat) (Option.some Jvm.ClassFile.FieldType.int)) ∈ WS := ws_6 236 rfl rfl
theorem wd_6_237 : (Jvm.Cond.methodLink "TradeLogsModel" (247 : Nat) ({ cls := "TradeLogsModel", name := "best", desc := "(I)I" } : Jvm.MethodName)) ∈ WS := ws_6 237 rfl rfl
theorem wd_6_239 : (Jvm.Cond.instanceMethod ({ cls := "TradeLogsModel", name := "best", desc := "(I)I" } : Jvm.MethodName)) ∈ WS := ws_6 239 rfl rfl
theorem wd_7_0 : (Jvm.Cond.code ({ cls := "TradeLogsModel", name := "best", desc := "(I)I" } : Jvm.MethodName) prog_12_method_73_code (13 : Nat) (Option.some Jvm.ClassFile.FieldType.int)) ∈ WS := ws_7 0 rfl rfl
theorem wd_7_1 : (Jvm.Cond.methodLink "TradeLogsLaw" (176 : Nat) ({ cls := "TradeLogsModel", name := "doubtsBy", desc := "(II)I" } : Jvm.MethodName)) ∈ WS := ws_7 1 rfl rfl
theorem wd_7_2 : (Jvm.Cond.instanceMethod ({ cls := "TradeLogsModel", name := "doubtsBy", desc := "(II)I" } : Jvm.MethodName)) ∈ WS := ws_7 2 rfl rfl
theorem wd_7_3 : (Jvm.Cond.selects "TradeLogsModel" ({ cls := "TradeLogsModel", name := "doubtsBy", desc := "(II)I" } : Jvm.MethodName) ({ cls := "TradeLogsModel", name := "doubtsBy", desc := "(II)I" } : Jvm.MethodName)) ∈ WS := ws_7 3 rfl rfl
theorem wd_7_4 : (Jvm.Cond.code ({ cls := "TradeLogsModel", name := "doubtsBy", desc := "(II)I" } : Jvm.MethodName) prog_12_method_75_code (3 : Nat) (Option.some Jvm.ClassFile.FieldType.int)) ∈ WS := ws_7 4 rfl rfl
theorem wd_7_5 : (Jvm.Cond.methodLink "TradeLogsLaw" (179 : Nat) ({ cls := "TradeLogsModel", name := "nextRelease", desc := "(II)I" } : Jvm.MethodName)) ∈ WS := ws_7 5 rfl rfl
theorem wd_7_6 : (Jvm.Cond.instanceMethod ({ cls := "TradeLogsModel", name := "nextRelease", desc := "(II)I" } : Jvm.MethodName)) ∈ WS := ws_7 6 rfl rfl
theorem wd_7_7 : (Jvm.Cond.selects "TradeLogsModel" ({ cls := "TradeLogsModel", name := "nextRelease", desc := "(II)I" } : Jvm.MethodName) ({ cls := "TradeLogsModel", name := "nextRelease", desc := "(II)I" } : Jvm.MethodName)) ∈ WS := ws_7 7 rfl rfl
theorem wd_7_8 : (Jvm.Cond.code ({ cls := "TradeLogsModel", name := "nextRelease", desc := "(II)I" } : Jvm.MethodName) prog_12_method_77_code (3 : Nat) (Option.some Jvm.ClassFile.FieldType.int)) ∈ WS := ws_7 8 rfl rfl
theorem wd_7_9 : (Jvm.Cond.methodLink "TradeLogsModel" (250 : Nat) ({ cls := "TradeLogsModel", name := "next", desc := "(II)I" } : Jvm.MethodName)) ∈ WS := ws_7 9 rfl rfl
theorem wd_7_11 : (Jvm.Cond.instanceMethod ({ cls := "TradeLogsModel", name := "next", desc := "(II)I" } : Jvm.MethodName)) ∈ WS := ws_7 11 rfl rfl
theorem wd_7_12 : (Jvm.Cond.code ({ cls := "TradeLogsModel", name := "next", desc := "(II)I" } : Jvm.MethodName) prog_12_method_76_code (4 : Nat) (Option.some Jvm.ClassFile.FieldType.int)) ∈ WS := ws_7 12 rfl rfl
theorem wd_7_13 : (Jvm.Cond.methodLink "TradeLogsLaw" (182 : Nat) ({ cls := "TradeLogsModel", name := "type", desc := "(I)I" } : Jvm.MethodName)) ∈ WS := ws_7 13 rfl rfl
theorem wd_7_14 : (Jvm.Cond.instanceMethod ({ cls := "TradeLogsModel", name := "type", desc := "(I)I" } : Jvm.MethodName)) ∈ WS := ws_7 14 rfl rfl
theorem wd_7_15 : (Jvm.Cond.selects "TradeLogsModel" ({ cls := "TradeLogsModel", name := "type", desc := "(I)I" } : Jvm.MethodName) ({ cls := "TradeLogsModel", name := "type", desc := "(I)I" } : Jvm.MethodName)) ∈ WS := ws_7 15 rfl rfl
theorem wd_7_16 : (Jvm.Cond.code ({ cls := "TradeLogsModel", name := "type", desc := "(I)I" } : Jvm.MethodName) prog_12_method_78_code (2 : Nat) (Option.some Jvm.ClassFile.FieldType.int)) ∈ WS := ws_7 16 rfl rfl
theorem wd_7_17 : (Jvm.Cond.constantLong "TradeLogsModel" (253 : Nat) (127 : Int64)) ∈ WS := ws_7 17 rfl rfl
theorem wd_7_18 : (Jvm.Cond.methodLink "TradeLogsLaw" (186 : Nat) ({ cls := "TradeLogsModel", name := "clearCommands", desc := "()I" } : Jvm.MethodName)) ∈ WS := ws_7 18 rfl rfl
theorem wd_7_19 : (Jvm.Cond.instanceMethod ({ cls := "TradeLogsModel", name := "clearCommands", desc := "()I" } : Jvm.MethodName)) ∈ WS := ws_7 19 rfl rfl
theorem wd_7_20 : (Jvm.Cond.selects "TradeLogsModel" ({ cls := "TradeLogsModel", name := "clearCommands", desc := "()I" } : Jvm.MethodName) ({ cls := "TradeLogsModel", name := "clearCommands", desc := "()I" } : Jvm.MethodName)) ∈ WS := ws_7 20 rfl rfl
theorem wd_7_21 : (Jvm.Cond.code ({ cls := "TradeLogsModel", name := "clearCommands", desc := "()I" } : Jvm.MethodName) prog_12_method_79_code (2 : Nat) (Option.some Jvm.ClassFile.FieldType.int)) ∈ WS := ws_7 21 rfl rfl
theorem wd_7_22 : (Jvm.Cond.methodLink "TradeLogsLaw" (190 : Nat) ({ cls := "TradeLogsModel", name := "runCommands", desc := "()I" } : Jvm.MethodName)) ∈ WS := ws_7 22 rfl rfl
theorem wd_7_23 : (Jvm.Cond.instanceMethod ({ cls := "TradeLogsModel", name := "runCommands", desc := "()I" } : Jvm.MethodName)) ∈ WS := ws_7 23 rfl rfl
theorem wd_7_24 : (Jvm.Cond.selects "TradeLogsModel" ({ cls := "TradeLogsModel", name := "runCommands", desc := "()I" } : Jvm.MethodName) ({ cls := "TradeLogsModel", name := "runCommands", desc := "()I" } : Jvm.MethodName)) ∈ WS := ws_7 24 rfl rfl
theorem wd_7_25 : (Jvm.Cond.code ({ cls := "TradeLogsModel", name := "runCommands", desc := "()I" } : Jvm.MethodName) prog_12_method_87_code (3 : Nat) (Option.some Jvm.ClassFile.FieldType.int)) ∈ WS := ws_7 25 rfl rfl
theorem wd_7_26 : (Jvm.Cond.methodLink "TradeLogsModel" (285 : Nat) ({ cls := "TradeLogsModel", name := "skips", desc := "()V" } : Jvm.MethodName)) ∈ WS := ws_7 26 rfl rfl
theorem wd_7_28 : (Jvm.Cond.instanceMethod ({ cls := "TradeLogsModel", name := "skips", desc := "()V" } : Jvm.MethodName)) ∈ WS := ws_7 28 rfl rfl
theorem wd_7_29 : (Jvm.Cond.code ({ cls := "TradeLogsModel", name := "skips", desc := "()V" } : Jvm.MethodName) prog_12_method_81_code (1 : Nat) (Option.none : Option Jvm.ClassFile.FieldType)) ∈ WS := ws_7 29 rfl rfl
theorem wd_7_30 : (Jvm.Cond.methodLink "TradeLogsModel" (258 : Nat) ({ cls := "TradeLogsModel", name := "isAt", desc := "(II)Z" } : Jvm.MethodName)) ∈ WS := ws_7 30 rfl rfl
theorem wd_7_32 : (Jvm.Cond.instanceMethod ({ cls := "TradeLogsModel", name := "isAt", desc := "(II)Z" } : Jvm.MethodName)) ∈ WS := ws_7 32 rfl rfl
theorem wd_7_33 : (Jvm.Cond.code ({ cls := "TradeLogsModel", name := "isAt", desc := "(II)Z" } : Jvm.MethodName) prog_12_method_80_code (3 : Nat) (Option.some Jvm.ClassFile.FieldType.boolean)) ∈ WS := ws_7 33 rfl rfl
theorem wd_7_34 : (Jvm.Cond.methodLink "TradeLogsModel" (307 : Nat) ({ cls := "TradeLogsModel", name := "takesCommand", desc := "()Z" } : Jvm.MethodName)) ∈ WS := ws_7 34 rfl rfl
theorem wd_7_36 : (Jvm.Cond.instanceMethod ({ cls := "TradeLogsModel", name := "takesCommand", desc := "()Z" } : Jvm.MethodName)) ∈ WS := ws_7 36 rfl rfl
theorem wd_7_37 : (Jvm.Cond.code ({ cls := "TradeLogsModel", name := "takesCommand", desc := "()Z" } : Jvm.MethodName) prog_12_method_84_code (6 : Nat) (Option.some Jvm.ClassFile.FieldType.boolean)) ∈ WS := ws_7 37 rfl rfl
theorem wd_7_38 : (Jvm.Cond.constantLong "TradeLogsModel" (288 : Nat) (32 : Int64)) ∈ WS := ws_7 38 rfl rfl
theorem wd_7_39 : (Jvm.Cond.constantLong "TradeLogsModel" (290 : Nat) (96 : Int64)) ∈ WS := ws_7 39 rfl rfl
theorem wd_7_40 : (Jvm.Cond.methodLink "TradeLogsModel" (292 : Nat) ({ cls := "TradeLogsModel", name := "wordOf", desc := "(J)I" } : Jvm.MethodName)) ∈ WS := ws_7 40 rfl rfl
theorem wd_7_41 : (Jvm.Cond.static ({ cls := "TradeLogsModel", name := "wordOf", desc := "(J)I" } : Jvm.MethodName)) ∈ WS := ws_7 41 rfl rfl
theorem wd_7_42 : (Jvm.Cond.code ({ cls := "TradeLogsModel", name := "wordOf", desc := "(J)I" } : Jvm.MethodName) prog_12_method_82_code (2 : Nat) (Option.some Jvm.ClassFile.FieldType.int)) ∈ WS := ws_7 42 rfl rfl
theorem wd_7_43 : (Jvm.Cond.constantLong "TradeLogsModel" (261 : Nat) (21562501 : Int64)) ∈ WS := ws_7 43 rfl rfl
theorem wd_7_44 : (Jvm.Cond.constantLong "TradeLogsModel" (263 : Nat) (12775 : Int64)) ∈ WS := ws_7 44 rfl rfl
theorem wd_7_45 : (Jvm.Cond.constantLong "TradeLogsModel" (265 : Nat) (441930226 : Int64)) ∈ WS := ws_7 45 rfl rfl
theorem wd_7_46 : (Jvm.Cond.constantLong "TradeLogsModel" (267 : Nat) (17482028 : Int64)) ∈ WS := ws_7 46 rfl rfl
theorem wd_7_47 : (Jvm.Cond.constantLong "TradeLogsModel" (269 : Nat) (442053 : Int64)) ∈ WS := ws_7 47 rfl rfl
theorem wd_7_48 : (Jvm.Cond.constantLong "TradeLogsModel" (271 : Nat) (646192 : Int64)) ∈ WS := ws_7 48 rfl rfl
theorem wd_7_49 : (Jvm.Cond.constantLong "TradeLogsModel" (273 : Nat) (215205 : Int64)) ∈ WS := ws_7 49 rfl rfl
theorem wd_7_50 : (Jvm.Cond.constantLong "TradeLogsModel" (275 : Nat) (3739428429 : Int64)) ∈ WS := ws_7 50 rfl rfl
theorem wd_7_51 : (Jvm.Cond.constantLong "TradeLogsModel" (277 : Nat) (4707412 : Int64)) ∈ WS := ws_7 51 rfl rfl
theorem wd_7_52 : (Jvm.Cond.constantLong "TradeLogsModel" (279 : Nat) (36804116 : Int64)) ∈ WS := ws_7 52 rfl rfl
theorem wd_7_53 : (Jvm.Cond.constantLong "TradeLogsModel" (281 : Nat) (609441381 : Int64)) ∈ WS := ws_7 53 rfl rfl
theorem wd_7_54 : (Jvm.Cond.constantLong "TradeLogsModel" (283 : Nat) (132915 : Int64)) ∈ WS := ws_7 54 rfl rfl
theorem wd_7_55 : (Jvm.Cond.methodLink "TradeLogsModel" (298 : Nat) ({ cls := "TradeLogsModel", name := "takesNumber", desc := "(I)Z" } : Jvm.MethodName)) ∈ WS := ws_7 55 rfl rfl
theorem wd_7_57 : (Jvm.Cond.instanceMethod ({ cls := "TradeLogsModel", name := "takesNumber", desc := "(I)Z" } : Jvm.MethodName)) ∈ WS := ws_7 57 rfl rfl
theorem wd_7_58 : (Jvm.Cond.code ({ cls := "TradeLogsModel", name := "takesNumber", desc := "(I)Z" } : Jvm.MethodName) prog_12_method_83_code (3 : Nat) (Option.some Jvm.ClassFile.FieldType.boolean)) ∈ WS := ws_7 58 rfl rfl
theorem wd_7_59 : (Jvm.Cond.methodLink "TradeLogsModel" (311 : Nat) ({ cls := "TradeLogsModel", name := "does", desc := "()Z" } : Jvm.MethodName)) ∈ WS := ws_7 59 rfl rfl
theorem wd_7_61 : (Jvm.Cond.instanceMethod ({ cls := "TradeLogsModel", name := "does", desc := "()Z" } : Jvm.MethodName)) ∈ WS := ws_7 61 rfl rfl
theorem wd_7_62 : (Jvm.Cond.code ({ cls := "TradeLogsModel", name := "does", desc := "()Z" } : Jvm.MethodName) prog_12_method_86_code (2 : Nat) (Option.some Jvm.ClassFile.FieldType.boolean)) ∈ WS := ws_7 62 rfl rfl
theorem wd_7_63 : (Jvm.Cond.methodLink "TradeLogsModel" (304 : Nat) ({ cls := "TradeLogsModel", name := "carriesOut", desc := "()I" } : Jvm.MethodName)) ∈ WS := ws_7 63 rfl rfl
theorem wd_7_65 : (Jvm.Cond.instanceMethod ({ cls := "TradeLogsModel", name := "carriesOut", desc := "()I" } : Jvm.MethodName)) ∈ WS := ws_7 65 rfl rfl
theorem wd_7_66 : (Jvm.Cond.code ({ cls := "TradeLogsModel", name := "carriesOut", desc := "()I" } : Jvm.MethodName) prog_12_method_85_code (4 : Nat) (Option.some Jvm.ClassFile.FieldType.int)) ∈ WS := ws_7 66 rfl rfl
theorem wd_7_67 : (Jvm.Cond.methodLink "TradeLogsModel" (301 : Nat) ({ cls := "TradeLogsModel", name := "passes", desc := "(I)I" } : Jvm.MethodName)) ∈ WS := ws_7 67 rfl rfl
theorem wd_7_69 : (Jvm.Cond.instanceMethod ({ cls := "TradeLogsModel", name := "passes", desc := "(I)I" } : Jvm.MethodName)) ∈ WS := ws_7 69 rfl rfl
theorem wd_7_70 : (Jvm.Cond.code ({ cls := "TradeLogsModel", name := "passes", desc := "(I)I" } : Jvm.MethodName) prog_12_method_46_code (4 : Nat) (Option.some Jvm.ClassFile.FieldType.int)) ∈ WS := ws_7 70 rfl rfl
theorem wd_7_71 : (Jvm.Cond.constantLong "TradeLogsModel" (167 : Nat) (30 : Int64)) ∈ WS := ws_7 71 rfl rfl
theorem wd_7_72 : (Jvm.Cond.methodLink "TradeLogsLaw" (193 : Nat) ({ cls := "TradeLogsModel", name := "undo", desc := "()I" } : Jvm.MethodName)) ∈ WS := ws_7 72 rfl rfl
theorem wd_7_73 : (Jvm.Cond.instanceMethod ({ cls := "TradeLogsModel", name := "undo", desc := "()I" } : Jvm.MethodName)) ∈ WS := ws_7 73 rfl rfl
theorem wd_7_74 : (Jvm.Cond.selects "TradeLogsModel" ({ cls := "TradeLogsModel", name := "undo", desc := "()I" } : Jvm.MethodName) ({ cls := "TradeLogsModel", name := "undo", desc := "()I" } : Jvm.MethodName)) ∈ WS := ws_7 74 rfl rfl
theorem wd_7_75 : (Jvm.Cond.code ({ cls := "TradeLogsModel", name := "undo", desc := "()I" } : Jvm.MethodName) prog_12_method_88_code (2 : Nat) (Option.some Jvm.ClassFile.FieldType.int)) ∈ WS := ws_7 75 rfl rfl
theorem wd_7_76 : (Jvm.Cond.methodLink "TradeLogsLaw" (198 : Nat) ({ cls := "TradeLogsModel", name := "digest", desc := "()J" } : Jvm.MethodName)) ∈ WS := ws_7 76 rfl rfl
theorem wd_7_77 : (Jvm.Cond.instanceMethod ({ cls := "TradeLogsModel", name := "digest", desc := "()J" } : Jvm.MethodName)) ∈ WS := ws_7 77 rfl rfl
theorem wd_7_78 : (Jvm.Cond.selects "TradeLogsModel" ({ cls := "TradeLogsModel", name := "digest", desc := "()J" } : Jvm.MethodName) ({ cls := "TradeLogsModel", name := "digest", desc := "()J" } : Jvm.MethodName)) ∈ WS := ws_7 78 rfl rfl
theorem wd_7_79 : (Jvm.Cond.code ({ cls := "TradeLogsModel", name := "digest", desc := "()J" } : Jvm.MethodName) prog_12_method_91_code (2 : Nat) (Option.some Jvm.ClassFile.FieldType.long)) ∈ WS := ws_7 79 rfl rfl
theorem wd_7_80 : (Jvm.Cond.constantLong "TradeLogsModel" (321 : Nat) (43434 : Int64)) ∈ WS := ws_7 80 rfl rfl
theorem wd_7_81 : (Jvm.Cond.methodLink "TradeLogsModel" (317 : Nat) ({ cls := "TradeLogsModel", name := "mix", desc := "(J)V" } : Jvm.MethodName)) ∈ WS := ws_7 81 rfl rfl
theorem wd_7_83 : (Jvm.Cond.instanceMethod ({ cls := "TradeLogsModel", name := "mix", desc := "(J)V" } : Jvm.MethodName)) ∈ WS := ws_7 83 rfl rfl
theorem wd_7_84 : (Jvm.Cond.code ({ cls := "TradeLogsModel", name := "mix", desc := "(J)V" } : Jvm.MethodName) prog_12_method_89_code (3 : Nat) (Option.none : Option Jvm.ClassFile.FieldType)) ∈ WS := ws_7 84 rfl rfl
theorem wd_7_85 : (Jvm.Cond.methodLink "TradeLogsModel" (323 : Nat) ({ cls := "TradeLogsModel", name := "mixApprentice", desc := "(I)V" } : Jvm.MethodName)) ∈ WS := ws_7 85 rfl rfl
theorem wd_7_87 : (Jvm.Cond.instanceMethod ({ cls := "TradeLogsModel", name := "mixApprentice", desc := "(I)V" } : Jvm.MethodName)) ∈ WS := ws_7 87 rfl rfl
theorem wd_7_88 : (Jvm.Cond.code ({ cls := "TradeLogsModel", name := "mixApprentice", desc := "(I)V" } : Jvm.MethodName) prog_12_method_90_code (3 : Nat) (Option.none : Option Jvm.ClassFile.FieldType)) ∈ WS := ws_7 88 rfl rfl
theorem wd_7_90 : (Jvm.Cond.fieldLink "TradeLogs$CommandText" (97 : Nat) "TradeLogs$Command" "word" "Ljava/lang/String;") ∈ WS := ws_7 90 rfl rfl
theorem wd_7_91 : (Jvm.Cond.fieldLink "java/lang/String" (9 : Nat) "java/lang/String" "value" "[B") ∈ WS := ws_7 91 rfl rfl
theorem wd_7_92 : (Jvm.Cond.fieldLink "java/lang/String" (15 : Nat) "java/lang/String" "coder" "B") ∈ WS := ws_7 92 rfl rfl
theorem wd_7_93 : (Jvm.Cond.fieldLink "TradeLogs$CommandText" (92 : Nat) "TradeLogs$Command" "numbers" "I") ∈ WS := ws_7 93 rfl rfl
theorem wd_7_94 : (Jvm.Cond.fieldLink "java/lang/Enum" (7 : Nat) "java/lang/Enum" "ordinal" "I") ∈ WS := ws_7 94 rfl rfl
theorem wp_0 : Cond.selects "TradeLogs$CommandText" ({ cls := "TradeLogs$CommandText", name := "readByte", desc := "(II)I" } : MethodName) ({ cls := "TradeLogs$CommandText", name := "readByte", desc := "(II)I" } : MethodName) ∈ WS := ws_s (y := ({ cls := "TradeLogs$CommandText", name := "readByte", desc := "(II)I" } : MethodName)) 0 rfl rfl
theorem wp_1 : Cond.selects "TradeLogs$CommandText" ({ cls := "TradeLogs$CommandText", name := "readBeforeWord", desc := "(II)I" } : MethodName) ({ cls := "TradeLogs$CommandText", name := "readBeforeWord", desc := "(II)I" } : MethodName) ∈ WS := ws_s (y := ({ cls := "TradeLogs$CommandText", name := "readBeforeWord", desc := "(II)I" } : MethodName)) 1 rfl rfl
theorem wp_2 : Cond.selects "TradeLogs$CommandText" ({ cls := "TradeLogs$CommandText", name := "readInWord", desc := "(II)I" } : MethodName) ({ cls := "TradeLogs$CommandText", name := "readInWord", desc := "(II)I" } : MethodName) ∈ WS := ws_s (y := ({ cls := "TradeLogs$CommandText", name := "readInWord", desc := "(II)I" } : MethodName)) 2 rfl rfl
theorem wp_3 : Cond.selects "TradeLogs$CommandText" ({ cls := "TradeLogs$CommandText", name := "commandOf", desc := "(II)LTradeLogs$Command;" } : MethodName) ({ cls := "TradeLogs$CommandText", name := "commandOf", desc := "(II)LTradeLogs$Command;" } : MethodName) ∈ WS := ws_s (y := ({ cls := "TradeLogs$CommandText", name := "commandOf", desc := "(II)LTradeLogs$Command;" } : MethodName)) 3 rfl rfl
theorem wp_4 : Cond.selects "TradeLogs$CommandText" ({ cls := "TradeLogs$CommandText", name := "isWord", desc := "(Ljava/lang/String;II)Z" } : MethodName) ({ cls := "TradeLogs$CommandText", name := "isWord", desc := "(Ljava/lang/String;II)Z" } : MethodName) ∈ WS := ws_s (y := ({ cls := "TradeLogs$CommandText", name := "isWord", desc := "(Ljava/lang/String;II)Z" } : MethodName)) 4 rfl rfl
theorem wp_5 : Cond.selects "TradeLogs$CommandText" ({ cls := "TradeLogs$CommandText", name := "beginCommand", desc := "(LTradeLogs$Command;)V" } : MethodName) ({ cls := "TradeLogs$CommandText", name := "beginCommand", desc := "(LTradeLogs$Command;)V" } : MethodName) ∈ WS := ws_s (y := ({ cls := "TradeLogs$CommandText", name := "beginCommand", desc := "(LTradeLogs$Command;)V" } : MethodName)) 5 rfl rfl
theorem wp_6 : Cond.selects "TradeLogs$CommandText" ({ cls := "TradeLogs$CommandText", name := "readBeforeNumber", desc := "(II)I" } : MethodName) ({ cls := "TradeLogs$CommandText", name := "readBeforeNumber", desc := "(II)I" } : MethodName) ∈ WS := ws_s (y := ({ cls := "TradeLogs$CommandText", name := "readBeforeNumber", desc := "(II)I" } : MethodName)) 6 rfl rfl
theorem wp_7 : Cond.selects "TradeLogs$CommandText" ({ cls := "TradeLogs$CommandText", name := "readInNumber", desc := "(II)I" } : MethodName) ({ cls := "TradeLogs$CommandText", name := "readInNumber", desc := "(II)I" } : MethodName) ∈ WS := ws_s (y := ({ cls := "TradeLogs$CommandText", name := "readInNumber", desc := "(II)I" } : MethodName)) 7 rfl rfl
theorem wp_8 : Cond.selects "TradeLogs$CommandText" ({ cls := "TradeLogs$CommandText", name := "keepNumber", desc := "()V" } : MethodName) ({ cls := "TradeLogs$CommandText", name := "keepNumber", desc := "()V" } : MethodName) ∈ WS := ws_s (y := ({ cls := "TradeLogs$CommandText", name := "keepNumber", desc := "()V" } : MethodName)) 8 rfl rfl
theorem wp_9 : Cond.selects "TradeLogs$CommandText" ({ cls := "TradeLogs$CommandText", name := "readBehindNumbers", desc := "(II)I" } : MethodName) ({ cls := "TradeLogs$CommandText", name := "readBehindNumbers", desc := "(II)I" } : MethodName) ∈ WS := ws_s (y := ({ cls := "TradeLogs$CommandText", name := "readBehindNumbers", desc := "(II)I" } : MethodName)) 9 rfl rfl
theorem wp_10 : Cond.selects "TradeLogs$CommandText" ({ cls := "TradeLogs$CommandText", name := "faultOfEnd", desc := "()I" } : MethodName) ({ cls := "TradeLogs$CommandText", name := "faultOfEnd", desc := "()I" } : MethodName) ∈ WS := ws_s (y := ({ cls := "TradeLogs$CommandText", name := "faultOfEnd", desc := "()I" } : MethodName)) 10 rfl rfl
theorem wp_11 : Cond.selects "TradeLogs" ({ cls := "TradeLogs", name := "faultOfCommand", desc := "(I)I" } : MethodName) ({ cls := "TradeLogs", name := "faultOfCommand", desc := "(I)I" } : MethodName) ∈ WS := ws_s (y := ({ cls := "TradeLogs", name := "faultOfCommand", desc := "(I)I" } : MethodName)) 11 rfl rfl
theorem wp_12 : Cond.selects "TradeLogs" ({ cls := "TradeLogs", name := "faultOfTrade", desc := "(III)I" } : MethodName) ({ cls := "TradeLogs", name := "faultOfTrade", desc := "(III)I" } : MethodName) ∈ WS := ws_s (y := ({ cls := "TradeLogs", name := "faultOfTrade", desc := "(III)I" } : MethodName)) 12 rfl rfl
theorem wp_13 : Cond.selects "TradeLogs" ({ cls := "TradeLogs", name := "faultOfMentor", desc := "(II)I" } : MethodName) ({ cls := "TradeLogs", name := "faultOfMentor", desc := "(II)I" } : MethodName) ∈ WS := ws_s (y := ({ cls := "TradeLogs", name := "faultOfMentor", desc := "(II)I" } : MethodName)) 13 rfl rfl
theorem wp_14 : Cond.selects "TradeLogs" ({ cls := "TradeLogs", name := "faultOfApprentice", desc := "(II)I" } : MethodName) ({ cls := "TradeLogs", name := "faultOfApprentice", desc := "(II)I" } : MethodName) ∈ WS := ws_s (y := ({ cls := "TradeLogs", name := "faultOfApprentice", desc := "(II)I" } : MethodName)) 14 rfl rfl
theorem wp_15 : Cond.selects "TradeLogs$State" ({ cls := "TradeLogs$State", name := "mentorAt", desc := "(I)LTradeLogs$Mentor;" } : MethodName) ({ cls := "TradeLogs$State", name := "mentorAt", desc := "(I)LTradeLogs$Mentor;" } : MethodName) ∈ WS := ws_s (y := ({ cls := "TradeLogs$State", name := "mentorAt", desc := "(I)LTradeLogs$Mentor;" } : MethodName)) 15 rfl rfl
theorem wp_16 : Cond.selects "TradeLogs" ({ cls := "TradeLogs", name := "faultOfLog", desc := "(III)I" } : MethodName) ({ cls := "TradeLogs", name := "faultOfLog", desc := "(III)I" } : MethodName) ∈ WS := ws_s (y := ({ cls := "TradeLogs", name := "faultOfLog", desc := "(III)I" } : MethodName)) 16 rfl rfl
theorem wp_17 : Cond.selects "TradeLogs$State" ({ cls := "TradeLogs$State", name := "apprenticeAt", desc := "(I)LTradeLogs$Apprentice;" } : MethodName) ({ cls := "TradeLogs$State", name := "apprenticeAt", desc := "(I)LTradeLogs$Apprentice;" } : MethodName) ∈ WS := ws_s (y := ({ cls := "TradeLogs$State", name := "apprenticeAt", desc := "(I)LTradeLogs$Apprentice;" } : MethodName)) 17 rfl rfl
theorem wp_18 : Cond.selects "TradeLogs" ({ cls := "TradeLogs", name := "faultOfConfirm", desc := "(II)I" } : MethodName) ({ cls := "TradeLogs", name := "faultOfConfirm", desc := "(II)I" } : MethodName) ∈ WS := ws_s (y := ({ cls := "TradeLogs", name := "faultOfConfirm", desc := "(II)I" } : MethodName)) 18 rfl rfl
theorem wp_19 : Cond.selects "TradeLogs" ({ cls := "TradeLogs", name := "faultOfDoubt", desc := "(I)I" } : MethodName) ({ cls := "TradeLogs", name := "faultOfDoubt", desc := "(I)I" } : MethodName) ∈ WS := ws_s (y := ({ cls := "TradeLogs", name := "faultOfDoubt", desc := "(I)I" } : MethodName)) 19 rfl rfl
theorem wp_20 : Cond.selects "TradeLogs" ({ cls := "TradeLogs", name := "faultOfSettle", desc := "(IZ)I" } : MethodName) ({ cls := "TradeLogs", name := "faultOfSettle", desc := "(IZ)I" } : MethodName) ∈ WS := ws_s (y := ({ cls := "TradeLogs", name := "faultOfSettle", desc := "(IZ)I" } : MethodName)) 20 rfl rfl
theorem wp_21 : Cond.selects "TradeLogs" ({ cls := "TradeLogs", name := "faultOfMove", desc := "(II)I" } : MethodName) ({ cls := "TradeLogs", name := "faultOfMove", desc := "(II)I" } : MethodName) ∈ WS := ws_s (y := ({ cls := "TradeLogs", name := "faultOfMove", desc := "(II)I" } : MethodName)) 21 rfl rfl
theorem wp_22 : Cond.selects "TradeLogs" ({ cls := "TradeLogs", name := "faultOfPair", desc := "(II)I" } : MethodName) ({ cls := "TradeLogs", name := "faultOfPair", desc := "(II)I" } : MethodName) ∈ WS := ws_s (y := ({ cls := "TradeLogs", name := "faultOfPair", desc := "(II)I" } : MethodName)) 22 rfl rfl
theorem wp_23 : Cond.selects "TradeLogs" ({ cls := "TradeLogs", name := "faultOfExchange", desc := "(II)I" } : MethodName) ({ cls := "TradeLogs", name := "faultOfExchange", desc := "(II)I" } : MethodName) ∈ WS := ws_s (y := ({ cls := "TradeLogs", name := "faultOfExchange", desc := "(II)I" } : MethodName)) 23 rfl rfl
theorem wp_24 : Cond.selects "TradeLogs" ({ cls := "TradeLogs", name := "faultOfRelease", desc := "(II)I" } : MethodName) ({ cls := "TradeLogs", name := "faultOfRelease", desc := "(II)I" } : MethodName) ∈ WS := ws_s (y := ({ cls := "TradeLogs", name := "faultOfRelease", desc := "(II)I" } : MethodName)) 24 rfl rfl
theorem wp_25 : Cond.selects "TradeLogs" ({ cls := "TradeLogs", name := "faultOfDays", desc := "(I)I" } : MethodName) ({ cls := "TradeLogs", name := "faultOfDays", desc := "(I)I" } : MethodName) ∈ WS := ws_s (y := ({ cls := "TradeLogs", name := "faultOfDays", desc := "(I)I" } : MethodName)) 25 rfl rfl
theorem wp_26 : Cond.selects "TradeLogs" ({ cls := "TradeLogs", name := "obey", desc := "(I)V" } : MethodName) ({ cls := "TradeLogs", name := "obey", desc := "(I)V" } : MethodName) ∈ WS := ws_s (y := ({ cls := "TradeLogs", name := "obey", desc := "(I)V" } : MethodName)) 26 rfl rfl
theorem wp_27 : Cond.selects "TradeLogs" ({ cls := "TradeLogs", name := "valueOfWhole", desc := "(I)I" } : MethodName) ({ cls := "TradeLogs", name := "valueOfWhole", desc := "(I)I" } : MethodName) ∈ WS := ws_s (y := ({ cls := "TradeLogs", name := "valueOfWhole", desc := "(I)I" } : MethodName)) 27 rfl rfl
theorem wp_28 : Cond.selects "TradeLogs$State" ({ cls := "TradeLogs$State", name := "sumOfApprentices", desc := "(I)I" } : MethodName) ({ cls := "TradeLogs$State", name := "sumOfApprentices", desc := "(I)I" } : MethodName) ∈ WS := ws_s (y := ({ cls := "TradeLogs$State", name := "sumOfApprentices", desc := "(I)I" } : MethodName)) 28 rfl rfl
theorem wp_29 : Cond.selects "TradeLogs$State" ({ cls := "TradeLogs$State", name := "isComplete", desc := "(LTradeLogs$Apprentice;)Z" } : MethodName) ({ cls := "TradeLogs$State", name := "isComplete", desc := "(LTradeLogs$Apprentice;)Z" } : MethodName) ∈ WS := ws_s (y := ({ cls := "TradeLogs$State", name := "isComplete", desc := "(LTradeLogs$Apprentice;)Z" } : MethodName)) 29 rfl rfl
theorem wp_30 : Cond.selects "TradeLogs$State" ({ cls := "TradeLogs$State", name := "missingIn", desc := "(LTradeLogs$Apprentice;I)I" } : MethodName) ({ cls := "TradeLogs$State", name := "missingIn", desc := "(LTradeLogs$Apprentice;I)I" } : MethodName) ∈ WS := ws_s (y := ({ cls := "TradeLogs$State", name := "missingIn", desc := "(LTradeLogs$Apprentice;I)I" } : MethodName)) 30 rfl rfl
theorem wp_31 : Cond.selects "TradeLogs$State" ({ cls := "TradeLogs$State", name := "needOf", desc := "(LTradeLogs$Apprentice;I)I" } : MethodName) ({ cls := "TradeLogs$State", name := "needOf", desc := "(LTradeLogs$Apprentice;I)I" } : MethodName) ∈ WS := ws_s (y := ({ cls := "TradeLogs$State", name := "needOf", desc := "(LTradeLogs$Apprentice;I)I" } : MethodName)) 31 rfl rfl
theorem wp_32 : Cond.selects "TradeLogs$State" ({ cls := "TradeLogs$State", name := "pendingWith", desc := "(I)I" } : MethodName) ({ cls := "TradeLogs$State", name := "pendingWith", desc := "(I)I" } : MethodName) ∈ WS := ws_s (y := ({ cls := "TradeLogs$State", name := "pendingWith", desc := "(I)I" } : MethodName)) 32 rfl rfl
theorem wp_33 : Cond.selects "TradeLogs" ({ cls := "TradeLogs", name := "withApprentice", desc := "(JI)J" } : MethodName) ({ cls := "TradeLogs", name := "withApprentice", desc := "(JI)J" } : MethodName) ∈ WS := ws_s (y := ({ cls := "TradeLogs", name := "withApprentice", desc := "(JI)J" } : MethodName)) 33 rfl rfl
theorem wp_34 : Cond.selects "TradeLogs" ({ cls := "TradeLogs", name := "withEntries", desc := "(JIZ)J" } : MethodName) ({ cls := "TradeLogs", name := "withEntries", desc := "(JIZ)J" } : MethodName) ∈ WS := ws_s (y := ({ cls := "TradeLogs", name := "withEntries", desc := "(JIZ)J" } : MethodName)) 34 rfl rfl
theorem wp_35 : Cond.selects "TradeLogs$State" ({ cls := "TradeLogs$State", name := "isLessBusy", desc := "(II)Z" } : MethodName) ({ cls := "TradeLogs$State", name := "isLessBusy", desc := "(II)Z" } : MethodName) ∈ WS := ws_s (y := ({ cls := "TradeLogs$State", name := "isLessBusy", desc := "(II)Z" } : MethodName)) 35 rfl rfl
theorem wp_36 : Cond.selects "java/lang/Throwable" ({ cls := "java/lang/Throwable", name := "fillInStackTrace", desc := "(I)Ljava/lang/Throwable;" } : MethodName) ({ cls := "java/lang/Throwable", name := "fillInStackTrace", desc := "(I)Ljava/lang/Throwable;" } : MethodName) ∈ WS := ws_s (y := ({ cls := "java/lang/Throwable", name := "fillInStackTrace", desc := "(I)Ljava/lang/Throwable;" } : MethodName)) 36 rfl rfl
theorem wp_37 : Cond.selects "TradeLogs" ({ cls := "TradeLogs", name := "faultOfCredit", desc := "(III)I" } : MethodName) ({ cls := "TradeLogs", name := "faultOfCredit", desc := "(III)I" } : MethodName) ∈ WS := ws_s (y := ({ cls := "TradeLogs", name := "faultOfCredit", desc := "(III)I" } : MethodName)) 37 rfl rfl
theorem wp_38 : Cond.selects "TradeLogs" ({ cls := "TradeLogs", name := "faultOfLeave", desc := "(I)I" } : MethodName) ({ cls := "TradeLogs", name := "faultOfLeave", desc := "(I)I" } : MethodName) ∈ WS := ws_s (y := ({ cls := "TradeLogs", name := "faultOfLeave", desc := "(I)I" } : MethodName)) 38 rfl rfl
theorem wp_39 : Cond.selects "TradeLogsModel" ({ cls := "TradeLogsModel", name := "laysAside", desc := "()V" } : MethodName) ({ cls := "TradeLogsModel", name := "laysAside", desc := "()V" } : MethodName) ∈ WS := ws_s (y := ({ cls := "TradeLogsModel", name := "laysAside", desc := "()V" } : MethodName)) 39 rfl rfl
theorem wp_40 : Cond.selects "TradeLogsModel" ({ cls := "TradeLogsModel", name := "trades", desc := "(III)I" } : MethodName) ({ cls := "TradeLogsModel", name := "trades", desc := "(III)I" } : MethodName) ∈ WS := ws_s (y := ({ cls := "TradeLogsModel", name := "trades", desc := "(III)I" } : MethodName)) 40 rfl rfl
theorem wp_41 : Cond.selects "TradeLogsModel" ({ cls := "TradeLogsModel", name := "ends", desc := "(JI)I" } : MethodName) ({ cls := "TradeLogsModel", name := "ends", desc := "(JI)I" } : MethodName) ∈ WS := ws_s (y := ({ cls := "TradeLogsModel", name := "ends", desc := "(JI)I" } : MethodName)) 41 rfl rfl
theorem wp_42 : Cond.selects "TradeLogsModel" ({ cls := "TradeLogsModel", name := "bringsBack", desc := "()V" } : MethodName) ({ cls := "TradeLogsModel", name := "bringsBack", desc := "()V" } : MethodName) ∈ WS := ws_s (y := ({ cls := "TradeLogsModel", name := "bringsBack", desc := "()V" } : MethodName)) 42 rfl rfl
theorem wp_43 : Cond.selects "TradeLogsModel" ({ cls := "TradeLogsModel", name := "fails", desc := "(I)I" } : MethodName) ({ cls := "TradeLogsModel", name := "fails", desc := "(I)I" } : MethodName) ∈ WS := ws_s (y := ({ cls := "TradeLogsModel", name := "fails", desc := "(I)I" } : MethodName)) 43 rfl rfl
theorem wp_44 : Cond.selects "TradeLogsModel" ({ cls := "TradeLogsModel", name := "keeps", desc := "()V" } : MethodName) ({ cls := "TradeLogsModel", name := "keeps", desc := "()V" } : MethodName) ∈ WS := ws_s (y := ({ cls := "TradeLogsModel", name := "keeps", desc := "()V" } : MethodName)) 44 rfl rfl
theorem wp_45 : Cond.selects "TradeLogsModel" ({ cls := "TradeLogsModel", name := "tells", desc := "(J)I" } : MethodName) ({ cls := "TradeLogsModel", name := "tells", desc := "(J)I" } : MethodName) ∈ WS := ws_s (y := ({ cls := "TradeLogsModel", name := "tells", desc := "(J)I" } : MethodName)) 45 rfl rfl
theorem wp_46 : Cond.selects "TradeLogsModel" ({ cls := "TradeLogsModel", name := "mentors", desc := "(II)I" } : MethodName) ({ cls := "TradeLogsModel", name := "mentors", desc := "(II)I" } : MethodName) ∈ WS := ws_s (y := ({ cls := "TradeLogsModel", name := "mentors", desc := "(II)I" } : MethodName)) 46 rfl rfl
theorem wp_47 : Cond.selects "TradeLogsModel" ({ cls := "TradeLogsModel", name := "apprentices", desc := "(II)I" } : MethodName) ({ cls := "TradeLogsModel", name := "apprentices", desc := "(II)I" } : MethodName) ∈ WS := ws_s (y := ({ cls := "TradeLogsModel", name := "apprentices", desc := "(II)I" } : MethodName)) 47 rfl rfl
theorem wp_48 : Cond.selects "TradeLogsModel" ({ cls := "TradeLogsModel", name := "isTrade", desc := "(I)Z" } : MethodName) ({ cls := "TradeLogsModel", name := "isTrade", desc := "(I)Z" } : MethodName) ∈ WS := ws_s (y := ({ cls := "TradeLogsModel", name := "isTrade", desc := "(I)Z" } : MethodName)) 48 rfl rfl
theorem wp_49 : Cond.selects "TradeLogsModel" ({ cls := "TradeLogsModel", name := "isMentor", desc := "(I)Z" } : MethodName) ({ cls := "TradeLogsModel", name := "isMentor", desc := "(I)Z" } : MethodName) ∈ WS := ws_s (y := ({ cls := "TradeLogsModel", name := "isMentor", desc := "(I)Z" } : MethodName)) 49 rfl rfl
theorem wp_50 : Cond.selects "TradeLogsModel" ({ cls := "TradeLogsModel", name := "teaches", desc := "(IJ)Z" } : MethodName) ({ cls := "TradeLogsModel", name := "teaches", desc := "(IJ)Z" } : MethodName) ∈ WS := ws_s (y := ({ cls := "TradeLogsModel", name := "teaches", desc := "(IJ)Z" } : MethodName)) 50 rfl rfl
theorem wp_51 : Cond.selects "TradeLogsModel" ({ cls := "TradeLogsModel", name := "ofMentor", desc := "(II)J" } : MethodName) ({ cls := "TradeLogsModel", name := "ofMentor", desc := "(II)J" } : MethodName) ∈ WS := ws_s (y := ({ cls := "TradeLogsModel", name := "ofMentor", desc := "(II)J" } : MethodName)) 51 rfl rfl
theorem wp_52 : Cond.selects "TradeLogsModel" ({ cls := "TradeLogsModel", name := "isFull", desc := "(I)Z" } : MethodName) ({ cls := "TradeLogsModel", name := "isFull", desc := "(I)Z" } : MethodName) ∈ WS := ws_s (y := ({ cls := "TradeLogsModel", name := "isFull", desc := "(I)Z" } : MethodName)) 52 rfl rfl
theorem wp_53 : Cond.selects "TradeLogsModel" ({ cls := "TradeLogsModel", name := "apprenticesOf", desc := "(I)I" } : MethodName) ({ cls := "TradeLogsModel", name := "apprenticesOf", desc := "(I)I" } : MethodName) ∈ WS := ws_s (y := ({ cls := "TradeLogsModel", name := "apprenticesOf", desc := "(I)I" } : MethodName)) 53 rfl rfl
theorem wp_54 : Cond.selects "TradeLogsModel" ({ cls := "TradeLogsModel", name := "mentorOf", desc := "(I)I" } : MethodName) ({ cls := "TradeLogsModel", name := "mentorOf", desc := "(I)I" } : MethodName) ∈ WS := ws_s (y := ({ cls := "TradeLogsModel", name := "mentorOf", desc := "(I)I" } : MethodName)) 54 rfl rfl
theorem wp_55 : Cond.selects "TradeLogsModel" ({ cls := "TradeLogsModel", name := "of", desc := "(II)J" } : MethodName) ({ cls := "TradeLogsModel", name := "of", desc := "(II)J" } : MethodName) ∈ WS := ws_s (y := ({ cls := "TradeLogsModel", name := "of", desc := "(II)J" } : MethodName)) 55 rfl rfl
theorem wp_56 : Cond.selects "TradeLogsModel" ({ cls := "TradeLogsModel", name := "put", desc := "(IIJ)V" } : MethodName) ({ cls := "TradeLogsModel", name := "put", desc := "(IIJ)V" } : MethodName) ∈ WS := ws_s (y := ({ cls := "TradeLogsModel", name := "put", desc := "(IIJ)V" } : MethodName)) 56 rfl rfl
theorem wp_57 : Cond.selects "TradeLogsModel" ({ cls := "TradeLogsModel", name := "frees", desc := "(II)I" } : MethodName) ({ cls := "TradeLogsModel", name := "frees", desc := "(II)I" } : MethodName) ∈ WS := ws_s (y := ({ cls := "TradeLogsModel", name := "frees", desc := "(II)I" } : MethodName)) 57 rfl rfl
theorem wp_58 : Cond.selects "TradeLogsModel" ({ cls := "TradeLogsModel", name := "isApprentice", desc := "(I)Z" } : MethodName) ({ cls := "TradeLogsModel", name := "isApprentice", desc := "(I)Z" } : MethodName) ∈ WS := ws_s (y := ({ cls := "TradeLogsModel", name := "isApprentice", desc := "(I)Z" } : MethodName)) 58 rfl rfl
theorem wp_59 : Cond.selects "TradeLogsModel" ({ cls := "TradeLogsModel", name := "isDay", desc := "(III)Z" } : MethodName) ({ cls := "TradeLogsModel", name := "isDay", desc := "(III)Z" } : MethodName) ∈ WS := ws_s (y := ({ cls := "TradeLogsModel", name := "isDay", desc := "(III)Z" } : MethodName)) 59 rfl rfl
theorem wp_60 : Cond.selects "TradeLogsModel" ({ cls := "TradeLogsModel", name := "putDay", desc := "(III)V" } : MethodName) ({ cls := "TradeLogsModel", name := "putDay", desc := "(III)V" } : MethodName) ∈ WS := ws_s (y := ({ cls := "TradeLogsModel", name := "putDay", desc := "(III)V" } : MethodName)) 60 rfl rfl
theorem wp_61 : Cond.selects "TradeLogsModel" ({ cls := "TradeLogsModel", name := "releases", desc := "(I)I" } : MethodName) ({ cls := "TradeLogsModel", name := "releases", desc := "(I)I" } : MethodName) ∈ WS := ws_s (y := ({ cls := "TradeLogsModel", name := "releases", desc := "(I)I" } : MethodName)) 61 rfl rfl
theorem wp_62 : Cond.selects "TradeLogsModel" ({ cls := "TradeLogsModel", name := "logs", desc := "(III)I" } : MethodName) ({ cls := "TradeLogsModel", name := "logs", desc := "(III)I" } : MethodName) ∈ WS := ws_s (y := ({ cls := "TradeLogsModel", name := "logs", desc := "(III)I" } : MethodName)) 62 rfl rfl
theorem wp_63 : Cond.selects "TradeLogsModel" ({ cls := "TradeLogsModel", name := "entries", desc := "(I)I" } : MethodName) ({ cls := "TradeLogsModel", name := "entries", desc := "(I)I" } : MethodName) ∈ WS := ws_s (y := ({ cls := "TradeLogsModel", name := "entries", desc := "(I)I" } : MethodName)) 63 rfl rfl
theorem wp_64 : Cond.selects "TradeLogsModel" ({ cls := "TradeLogsModel", name := "adds", desc := "(IIJ)V" } : MethodName) ({ cls := "TradeLogsModel", name := "adds", desc := "(IIJ)V" } : MethodName) ∈ WS := ws_s (y := ({ cls := "TradeLogsModel", name := "adds", desc := "(IIJ)V" } : MethodName)) 64 rfl rfl
theorem wp_65 : Cond.selects "TradeLogsModel" ({ cls := "TradeLogsModel", name := "confirms", desc := "(II)I" } : MethodName) ({ cls := "TradeLogsModel", name := "confirms", desc := "(II)I" } : MethodName) ∈ WS := ws_s (y := ({ cls := "TradeLogsModel", name := "confirms", desc := "(II)I" } : MethodName)) 65 rfl rfl
theorem wp_66 : Cond.selects "TradeLogsModel" ({ cls := "TradeLogsModel", name := "entryOf", desc := "(III)I" } : MethodName) ({ cls := "TradeLogsModel", name := "entryOf", desc := "(III)I" } : MethodName) ∈ WS := ws_s (y := ({ cls := "TradeLogsModel", name := "entryOf", desc := "(III)I" } : MethodName)) 66 rfl rfl
theorem wp_67 : Cond.selects "TradeLogsModel" ({ cls := "TradeLogsModel", name := "takesOut", desc := "(II)J" } : MethodName) ({ cls := "TradeLogsModel", name := "takesOut", desc := "(II)J" } : MethodName) ∈ WS := ws_s (y := ({ cls := "TradeLogsModel", name := "takesOut", desc := "(II)J" } : MethodName)) 67 rfl rfl
theorem wp_68 : Cond.selects "TradeLogsModel" ({ cls := "TradeLogsModel", name := "doubtsOldest", desc := "(I)I" } : MethodName) ({ cls := "TradeLogsModel", name := "doubtsOldest", desc := "(I)I" } : MethodName) ∈ WS := ws_s (y := ({ cls := "TradeLogsModel", name := "doubtsOldest", desc := "(I)I" } : MethodName)) 68 rfl rfl
theorem wp_69 : Cond.selects "TradeLogsModel" ({ cls := "TradeLogsModel", name := "doubts", desc := "(II)V" } : MethodName) ({ cls := "TradeLogsModel", name := "doubts", desc := "(II)V" } : MethodName) ∈ WS := ws_s (y := ({ cls := "TradeLogsModel", name := "doubts", desc := "(II)V" } : MethodName)) 69 rfl rfl
theorem wp_70 : Cond.selects "TradeLogsModel" ({ cls := "TradeLogsModel", name := "settles", desc := "(IZ)I" } : MethodName) ({ cls := "TradeLogsModel", name := "settles", desc := "(IZ)I" } : MethodName) ∈ WS := ws_s (y := ({ cls := "TradeLogsModel", name := "settles", desc := "(IZ)I" } : MethodName)) 70 rfl rfl
theorem wp_71 : Cond.selects "TradeLogsModel" ({ cls := "TradeLogsModel", name := "endsDay", desc := "()I" } : MethodName) ({ cls := "TradeLogsModel", name := "endsDay", desc := "()I" } : MethodName) ∈ WS := ws_s (y := ({ cls := "TradeLogsModel", name := "endsDay", desc := "()I" } : MethodName)) 71 rfl rfl
theorem wp_72 : Cond.selects "TradeLogsModel" ({ cls := "TradeLogsModel", name := "moves", desc := "(II)I" } : MethodName) ({ cls := "TradeLogsModel", name := "moves", desc := "(II)I" } : MethodName) ∈ WS := ws_s (y := ({ cls := "TradeLogsModel", name := "moves", desc := "(II)I" } : MethodName)) 72 rfl rfl
theorem wp_73 : Cond.selects "TradeLogsModel" ({ cls := "TradeLogsModel", name := "reasonOf", desc := "(II)I" } : MethodName) ({ cls := "TradeLogsModel", name := "reasonOf", desc := "(II)I" } : MethodName) ∈ WS := ws_s (y := ({ cls := "TradeLogsModel", name := "reasonOf", desc := "(II)I" } : MethodName)) 73 rfl rfl
theorem wp_74 : Cond.selects "TradeLogsModel" ({ cls := "TradeLogsModel", name := "comesTo", desc := "(II)I" } : MethodName) ({ cls := "TradeLogsModel", name := "comesTo", desc := "(II)I" } : MethodName) ∈ WS := ws_s (y := ({ cls := "TradeLogsModel", name := "comesTo", desc := "(II)I" } : MethodName)) 74 rfl rfl
theorem wp_75 : Cond.selects "TradeLogsModel" ({ cls := "TradeLogsModel", name := "strange", desc := "(II)I" } : MethodName) ({ cls := "TradeLogsModel", name := "strange", desc := "(II)I" } : MethodName) ∈ WS := ws_s (y := ({ cls := "TradeLogsModel", name := "strange", desc := "(II)I" } : MethodName)) 75 rfl rfl
theorem wp_76 : Cond.selects "TradeLogsModel" ({ cls := "TradeLogsModel", name := "swaps", desc := "(II)I" } : MethodName) ({ cls := "TradeLogsModel", name := "swaps", desc := "(II)I" } : MethodName) ∈ WS := ws_s (y := ({ cls := "TradeLogsModel", name := "swaps", desc := "(II)I" } : MethodName)) 76 rfl rfl
theorem wp_77 : Cond.selects "TradeLogsModel" ({ cls := "TradeLogsModel", name := "canExchange", desc := "(II)Z" } : MethodName) ({ cls := "TradeLogsModel", name := "canExchange", desc := "(II)Z" } : MethodName) ∈ WS := ws_s (y := ({ cls := "TradeLogsModel", name := "canExchange", desc := "(II)Z" } : MethodName)) 77 rfl rfl
theorem wp_78 : Cond.selects "TradeLogsModel" ({ cls := "TradeLogsModel", name := "mentorTold", desc := "(II)J" } : MethodName) ({ cls := "TradeLogsModel", name := "mentorTold", desc := "(II)J" } : MethodName) ∈ WS := ws_s (y := ({ cls := "TradeLogsModel", name := "mentorTold", desc := "(II)J" } : MethodName)) 78 rfl rfl
theorem wp_79 : Cond.selects "TradeLogsModel" ({ cls := "TradeLogsModel", name := "apprenticeTold", desc := "(II)J" } : MethodName) ({ cls := "TradeLogsModel", name := "apprenticeTold", desc := "(II)J" } : MethodName) ∈ WS := ws_s (y := ({ cls := "TradeLogsModel", name := "apprenticeTold", desc := "(II)J" } : MethodName)) 79 rfl rfl
theorem wp_80 : Cond.selects "TradeLogsModel" ({ cls := "TradeLogsModel", name := "hoursOf", desc := "(IIZ)I" } : MethodName) ({ cls := "TradeLogsModel", name := "hoursOf", desc := "(IIZ)I" } : MethodName) ∈ WS := ws_s (y := ({ cls := "TradeLogsModel", name := "hoursOf", desc := "(IIZ)I" } : MethodName)) 80 rfl rfl
theorem wp_81 : Cond.selects "TradeLogsModel" ({ cls := "TradeLogsModel", name := "isComplete", desc := "(I)Z" } : MethodName) ({ cls := "TradeLogsModel", name := "isComplete", desc := "(I)Z" } : MethodName) ∈ WS := ws_s (y := ({ cls := "TradeLogsModel", name := "isComplete", desc := "(I)Z" } : MethodName)) 81 rfl rfl
theorem wp_82 : Cond.selects "TradeLogsModel" ({ cls := "TradeLogsModel", name := "missing", desc := "(II)J" } : MethodName) ({ cls := "TradeLogsModel", name := "missing", desc := "(II)J" } : MethodName) ∈ WS := ws_s (y := ({ cls := "TradeLogsModel", name := "missing", desc := "(II)J" } : MethodName)) 82 rfl rfl
theorem wp_83 : Cond.selects "TradeLogsModel" ({ cls := "TradeLogsModel", name := "needs", desc := "(II)J" } : MethodName) ({ cls := "TradeLogsModel", name := "needs", desc := "(II)J" } : MethodName) ∈ WS := ws_s (y := ({ cls := "TradeLogsModel", name := "needs", desc := "(II)J" } : MethodName)) 83 rfl rfl
theorem wp_84 : Cond.selects "TradeLogsModel" ({ cls := "TradeLogsModel", name := "partTold", desc := "(III)J" } : MethodName) ({ cls := "TradeLogsModel", name := "partTold", desc := "(III)J" } : MethodName) ∈ WS := ws_s (y := ({ cls := "TradeLogsModel", name := "partTold", desc := "(III)J" } : MethodName)) 84 rfl rfl
theorem wp_85 : Cond.selects "TradeLogsModel" ({ cls := "TradeLogsModel", name := "wholeTold", desc := "(I)J" } : MethodName) ({ cls := "TradeLogsModel", name := "wholeTold", desc := "(I)J" } : MethodName) ∈ WS := ws_s (y := ({ cls := "TradeLogsModel", name := "wholeTold", desc := "(I)J" } : MethodName)) 85 rfl rfl
theorem wp_86 : Cond.selects "TradeLogsModel" ({ cls := "TradeLogsModel", name := "best", desc := "(I)I" } : MethodName) ({ cls := "TradeLogsModel", name := "best", desc := "(I)I" } : MethodName) ∈ WS := ws_s (y := ({ cls := "TradeLogsModel", name := "best", desc := "(I)I" } : MethodName)) 86 rfl rfl
theorem wp_87 : Cond.selects "TradeLogsModel" ({ cls := "TradeLogsModel", name := "next", desc := "(II)I" } : MethodName) ({ cls := "TradeLogsModel", name := "next", desc := "(II)I" } : MethodName) ∈ WS := ws_s (y := ({ cls := "TradeLogsModel", name := "next", desc := "(II)I" } : MethodName)) 87 rfl rfl
theorem wp_88 : Cond.selects "TradeLogsModel" ({ cls := "TradeLogsModel", name := "skips", desc := "()V" } : MethodName) ({ cls := "TradeLogsModel", name := "skips", desc := "()V" } : MethodName) ∈ WS := ws_s (y := ({ cls := "TradeLogsModel", name := "skips", desc := "()V" } : MethodName)) 88 rfl rfl
theorem wp_89 : Cond.selects "TradeLogsModel" ({ cls := "TradeLogsModel", name := "isAt", desc := "(II)Z" } : MethodName) ({ cls := "TradeLogsModel", name := "isAt", desc := "(II)Z" } : MethodName) ∈ WS := ws_s (y := ({ cls := "TradeLogsModel", name := "isAt", desc := "(II)Z" } : MethodName)) 89 rfl rfl
theorem wp_90 : Cond.selects "TradeLogsModel" ({ cls := "TradeLogsModel", name := "takesCommand", desc := "()Z" } : MethodName) ({ cls := "TradeLogsModel", name := "takesCommand", desc := "()Z" } : MethodName) ∈ WS := ws_s (y := ({ cls := "TradeLogsModel", name := "takesCommand", desc := "()Z" } : MethodName)) 90 rfl rfl
theorem wp_91 : Cond.selects "TradeLogsModel" ({ cls := "TradeLogsModel", name := "takesNumber", desc := "(I)Z" } : MethodName) ({ cls := "TradeLogsModel", name := "takesNumber", desc := "(I)Z" } : MethodName) ∈ WS := ws_s (y := ({ cls := "TradeLogsModel", name := "takesNumber", desc := "(I)Z" } : MethodName)) 91 rfl rfl
theorem wp_92 : Cond.selects "TradeLogsModel" ({ cls := "TradeLogsModel", name := "does", desc := "()Z" } : MethodName) ({ cls := "TradeLogsModel", name := "does", desc := "()Z" } : MethodName) ∈ WS := ws_s (y := ({ cls := "TradeLogsModel", name := "does", desc := "()Z" } : MethodName)) 92 rfl rfl
theorem wp_93 : Cond.selects "TradeLogsModel" ({ cls := "TradeLogsModel", name := "carriesOut", desc := "()I" } : MethodName) ({ cls := "TradeLogsModel", name := "carriesOut", desc := "()I" } : MethodName) ∈ WS := ws_s (y := ({ cls := "TradeLogsModel", name := "carriesOut", desc := "()I" } : MethodName)) 93 rfl rfl
theorem wp_94 : Cond.selects "TradeLogsModel" ({ cls := "TradeLogsModel", name := "passes", desc := "(I)I" } : MethodName) ({ cls := "TradeLogsModel", name := "passes", desc := "(I)I" } : MethodName) ∈ WS := ws_s (y := ({ cls := "TradeLogsModel", name := "passes", desc := "(I)I" } : MethodName)) 94 rfl rfl
theorem wp_95 : Cond.selects "TradeLogsModel" ({ cls := "TradeLogsModel", name := "mix", desc := "(J)V" } : MethodName) ({ cls := "TradeLogsModel", name := "mix", desc := "(J)V" } : MethodName) ∈ WS := ws_s (y := ({ cls := "TradeLogsModel", name := "mix", desc := "(J)V" } : MethodName)) 95 rfl rfl
theorem wp_96 : Cond.selects "TradeLogsModel" ({ cls := "TradeLogsModel", name := "mixApprentice", desc := "(I)V" } : MethodName) ({ cls := "TradeLogsModel", name := "mixApprentice", desc := "(I)V" } : MethodName) ∈ WS := ws_s (y := ({ cls := "TradeLogsModel", name := "mixApprentice", desc := "(I)V" } : MethodName)) 96 rfl rfl
