/-! ===== each word of the tables by its place ===== -/
theorem wd_1_0 : (Jvm.Cond.initialized "TradeLogsLaw") ∈ WS := ws_1 0 rfl rfl
theorem wd_1_1 : (Jvm.Cond.initialized "TradeLogs") ∈ WS := ws_1 1 rfl rfl
theorem wd_1_2 : (Jvm.Cond.initialized "TradeLogs$State") ∈ WS := ws_1 2 rfl rfl
theorem wd_1_3 : (Jvm.Cond.initialized "TradeLogs$Mentor") ∈ WS := ws_1 3 rfl rfl
theorem wd_1_4 : (Jvm.Cond.initialized "TradeLogs$Apprentice") ∈ WS := ws_1 4 rfl rfl
theorem wd_1_5 : (Jvm.Cond.initialized "TradeLogs$EntryQueue") ∈ WS := ws_1 5 rfl rfl
theorem wd_1_6 : (Jvm.Cond.initialized "TradeLogs$DaySet") ∈ WS := ws_1 6 rfl rfl
theorem wd_1_7 : (Jvm.Cond.initialized "TradeLogs$UndoStack") ∈ WS := ws_1 7 rfl rfl
theorem wd_1_8 : (Jvm.Cond.initialized "TradeLogs$CommandText") ∈ WS := ws_1 8 rfl rfl
theorem wd_1_9 : (Jvm.Cond.initialized "java/lang/Throwable") ∈ WS := ws_1 9 rfl rfl
theorem wd_1_10 : (Jvm.Cond.initialized "java/lang/Exception") ∈ WS := ws_1 10 rfl rfl
theorem wd_1_11 : (Jvm.Cond.initialized "java/lang/RuntimeException") ∈ WS := ws_1 11 rfl rfl
theorem wd_1_12 : (Jvm.Cond.initialized "java/lang/IndexOutOfBoundsException") ∈ WS := ws_1 12 rfl rfl
theorem wd_1_13 : (Jvm.Cond.initialized "java/lang/IllegalArgumentException") ∈ WS := ws_1 13 rfl rfl
theorem wd_1_14 : (Jvm.Cond.initialized "java/lang/IllegalStateException") ∈ WS := ws_1 14 rfl rfl
theorem wd_1_15 : (Jvm.Cond.initialized "java/lang/System") ∈ WS := ws_1 15 rfl rfl
theorem wd_1_16 : (Jvm.Cond.initialized "java/lang/Math") ∈ WS := ws_1 16 rfl rfl
theorem wd_1_17 : (Jvm.Cond.classLink "TradeLogsLaw" (10 : Nat) "TradeLogs") ∈ WS := ws_1 17 rfl rfl
theorem wd_1_18 : (Jvm.Cond.instantiable "TradeLogs" (3 : Nat)) ∈ WS := ws_1 18 rfl rfl
theorem wd_1_19 : (Jvm.Cond.methodLink "TradeLogsLaw" (206 : Nat) ({ cls := "TradeLogs", name := "<init>", desc := "()V" } : Jvm.MethodName)) ∈ WS := ws_1 19 rfl rfl
theorem wd_1_20 : (Jvm.Cond.instanceMethod ({ cls := "TradeLogs", name := "<init>", desc := "()V" } : Jvm.MethodName)) ∈ WS := ws_1 20 rfl rfl
theorem wd_1_21 : (Jvm.Cond.code ({ cls := "TradeLogs", name := "<init>", desc := "()V" } : Jvm.MethodName) prog_1_method_1_code (1 : Nat) (Option.none : Option Jvm.ClassFile.FieldType)) ∈ WS := ws_1 21 rfl rfl
theorem wd_1_22 : (Jvm.Cond.methodLink "TradeLogs" (1 : Nat) ({ cls := "java/lang/Object", name := "<init>", desc := "()V" } : Jvm.MethodName)) ∈ WS := ws_1 22 rfl rfl
theorem wd_1_23 : (Jvm.Cond.instanceMethod ({ cls := "java/lang/Object", name := "<init>", desc := "()V" } : Jvm.MethodName)) ∈ WS := ws_1 23 rfl rfl
theorem wd_1_24 : (Jvm.Cond.code ({ cls := "java/lang/Object", name := "<init>", desc := "()V" } : Jvm.MethodName) object_method_1_code (1 : Nat) (Option.none : Option Jvm.ClassFile.FieldType)) ∈ WS := ws_1 24 rfl rfl
theorem wd_1_25 : (Jvm.Cond.classLink "TradeLogs" (7 : Nat) "TradeLogs$State") ∈ WS := ws_1 25 rfl rfl
theorem wd_1_26 : (Jvm.Cond.instantiable "TradeLogs$State" (9 : Nat)) ∈ WS := ws_1 26 rfl rfl
theorem wd_1_27 : (Jvm.Cond.methodLink "TradeLogs" (9 : Nat) ({ cls := "TradeLogs$State", name := "<init>", desc := "()V" } : Jvm.MethodName)) ∈ WS := ws_1 27 rfl rfl
theorem wd_1_28 : (Jvm.Cond.instanceMethod ({ cls := "TradeLogs$State", name := "<init>", desc := "()V" } : Jvm.MethodName)) ∈ WS := ws_1 28 rfl rfl
theorem wd_1_29 : (Jvm.Cond.code ({ cls := "TradeLogs$State", name := "<init>", desc := "()V" } : Jvm.MethodName) prog_9_method_1_code (2 : Nat) (Option.none : Option Jvm.ClassFile.FieldType)) ∈ WS := ws_1 29 rfl rfl
theorem wd_1_30 : (Jvm.Cond.methodLink "TradeLogs$State" (3 : Nat) ({ cls := "java/lang/Object", name := "<init>", desc := "()V" } : Jvm.MethodName)) ∈ WS := ws_1 30 rfl rfl
theorem wd_1_31 : (Jvm.Cond.classLink "TradeLogs$State" (9 : Nat) "[[I") ∈ WS := ws_1 31 rfl rfl
theorem wd_1_33 : (Jvm.Cond.classLink "TradeLogs$State" (16 : Nat) "TradeLogs$Mentor") ∈ WS := ws_1 33 rfl rfl
theorem wd_1_35 : (Jvm.Cond.classLink "TradeLogs$State" (22 : Nat) "TradeLogs$Apprentice") ∈ WS := ws_1 35 rfl rfl
theorem wd_1_37 : (Jvm.Cond.instantiable "TradeLogs$Mentor" (3 : Nat)) ∈ WS := ws_1 37 rfl rfl
theorem wd_1_39 : (Jvm.Cond.instanceMethod ({ cls := "TradeLogs$Mentor", name := "<init>", desc := "()V" } : Jvm.MethodName)) ∈ WS := ws_1 39 rfl rfl
theorem wd_1_40 : (Jvm.Cond.code ({ cls := "TradeLogs$Mentor", name := "<init>", desc := "()V" } : Jvm.MethodName) prog_8_method_1_code (1 : Nat) (Option.none : Option Jvm.ClassFile.FieldType)) ∈ WS := ws_1 40 rfl rfl
theorem wd_1_41 : (Jvm.Cond.methodLink "TradeLogs$Mentor" (1 : Nat) ({ cls := "java/lang/Object", name := "<init>", desc := "()V" } : Jvm.MethodName)) ∈ WS := ws_1 41 rfl rfl
theorem wd_1_42 : (Jvm.Cond.fieldLink "TradeLogs$Mentor" (7 : Nat) "TradeLogs$Mentor" "ratio" "I") ∈ WS := ws_1 42 rfl rfl
theorem wd_1_43 : (Jvm.Cond.fieldLink "TradeLogs$State" (86 : Nat) "TradeLogs$Mentor" "ratio" "I") ∈ WS := ws_1 43 rfl rfl
theorem wd_1_44 : (Jvm.Cond.fieldLink "TradeLogs$Mentor" (13 : Nat) "TradeLogs$Mentor" "trades" "I") ∈ WS := ws_1 44 rfl rfl
theorem wd_1_45 : (Jvm.Cond.fieldLink "TradeLogs$State" (76 : Nat) "TradeLogs$Mentor" "trades" "I") ∈ WS := ws_1 45 rfl rfl
theorem wd_1_46 : (Jvm.Cond.fieldLink "TradeLogs$Mentor" (16 : Nat) "TradeLogs$Mentor" "confirmed" "I") ∈ WS := ws_1 46 rfl rfl
theorem wd_1_47 : (Jvm.Cond.fieldLink "TradeLogs$State" (178 : Nat) "TradeLogs$Mentor" "confirmed" "I") ∈ WS := ws_1 47 rfl rfl
theorem wd_1_48 : (Jvm.Cond.lays "TradeLogs$Mentor" "TradeLogs$Mentor" "ratio" "I") ∈ WS := ws_1 48 rfl rfl
theorem wd_1_50 : (Jvm.Cond.lays "TradeLogs$Mentor" "TradeLogs$Mentor" "trades" "I") ∈ WS := ws_1 50 rfl rfl
theorem wd_1_52 : (Jvm.Cond.lays "TradeLogs$Mentor" "TradeLogs$Mentor" "confirmed" "I") ∈ WS := ws_1 52 rfl rfl
theorem wd_1_55 : (Jvm.Cond.arrayClass Jvm.ClassFile.FieldType.int) ∈ WS := ws_1 55 rfl rfl
theorem wd_1_56 : (Jvm.Cond.instantiable "TradeLogs$Apprentice" (11 : Nat)) ∈ WS := ws_1 56 rfl rfl
theorem wd_1_58 : (Jvm.Cond.instanceMethod ({ cls := "TradeLogs$Apprentice", name := "<init>", desc := "()V" } : Jvm.MethodName)) ∈ WS := ws_1 58 rfl rfl
theorem wd_1_59 : (Jvm.Cond.code ({ cls := "TradeLogs$Apprentice", name := "<init>", desc := "()V" } : Jvm.MethodName) prog_3_method_1_code (1 : Nat) (Option.none : Option Jvm.ClassFile.FieldType)) ∈ WS := ws_1 59 rfl rfl
theorem wd_1_60 : (Jvm.Cond.methodLink "TradeLogs$Apprentice" (3 : Nat) ({ cls := "java/lang/Object", name := "<init>", desc := "()V" } : Jvm.MethodName)) ∈ WS := ws_1 60 rfl rfl
theorem wd_1_61 : (Jvm.Cond.classLink "TradeLogs$Apprentice" (15 : Nat) "TradeLogs$EntryQueue") ∈ WS := ws_1 61 rfl rfl
theorem wd_1_62 : (Jvm.Cond.instantiable "TradeLogs$EntryQueue" (2 : Nat)) ∈ WS := ws_1 62 rfl rfl
theorem wd_1_64 : (Jvm.Cond.instanceMethod ({ cls := "TradeLogs$EntryQueue", name := "<init>", desc := "()V" } : Jvm.MethodName)) ∈ WS := ws_1 64 rfl rfl
theorem wd_1_65 : (Jvm.Cond.code ({ cls := "TradeLogs$EntryQueue", name := "<init>", desc := "()V" } : Jvm.MethodName) prog_7_method_1_code (1 : Nat) (Option.none : Option Jvm.ClassFile.FieldType)) ∈ WS := ws_1 65 rfl rfl
theorem wd_1_66 : (Jvm.Cond.methodLink "TradeLogs$EntryQueue" (3 : Nat) ({ cls := "java/lang/Object", name := "<init>", desc := "()V" } : Jvm.MethodName)) ∈ WS := ws_1 66 rfl rfl
theorem wd_1_67 : (Jvm.Cond.classLink "TradeLogs$EntryQueue" (9 : Nat) "[[I") ∈ WS := ws_1 67 rfl rfl
theorem wd_1_68 : (Jvm.Cond.fieldLink "TradeLogs$EntryQueue" (11 : Nat) "TradeLogs$EntryQueue" "columns" "[[I") ∈ WS := ws_1 68 rfl rfl
theorem wd_1_69 : (Jvm.Cond.fieldLink "TradeLogs$EntryQueue" (16 : Nat) "TradeLogs$EntryQueue" "size" "I") ∈ WS := ws_1 69 rfl rfl
theorem wd_1_70 : (Jvm.Cond.fieldLink "TradeLogs$Apprentice" (35 : Nat) "TradeLogs$EntryQueue" "size" "I") ∈ WS := ws_1 70 rfl rfl
theorem wd_1_71 : (Jvm.Cond.fieldLink "TradeLogs$State" (97 : Nat) "TradeLogs$EntryQueue" "size" "I") ∈ WS := ws_1 71 rfl rfl
theorem wd_1_72 : (Jvm.Cond.laysFinal "TradeLogs$EntryQueue" "TradeLogs$EntryQueue" "columns" "[[I") ∈ WS := ws_1 72 rfl rfl
theorem wd_1_74 : (Jvm.Cond.lays "TradeLogs$EntryQueue" "TradeLogs$EntryQueue" "size" "I") ∈ WS := ws_1 74 rfl rfl
theorem wd_1_77 : (Jvm.Cond.classLink "TradeLogs$Apprentice" (25 : Nat) "TradeLogs$DaySet") ∈ WS := ws_1 77 rfl rfl
theorem wd_1_78 : (Jvm.Cond.instantiable "TradeLogs$DaySet" (2 : Nat)) ∈ WS := ws_1 78 rfl rfl
theorem wd_1_80 : (Jvm.Cond.instanceMethod ({ cls := "TradeLogs$DaySet", name := "<init>", desc := "()V" } : Jvm.MethodName)) ∈ WS := ws_1 80 rfl rfl
theorem wd_1_81 : (Jvm.Cond.code ({ cls := "TradeLogs$DaySet", name := "<init>", desc := "()V" } : Jvm.MethodName) prog_6_method_1_code (1 : Nat) (Option.none : Option Jvm.ClassFile.FieldType)) ∈ WS := ws_1 81 rfl rfl
theorem wd_1_82 : (Jvm.Cond.methodLink "TradeLogs$DaySet" (3 : Nat) ({ cls := "java/lang/Object", name := "<init>", desc := "()V" } : Jvm.MethodName)) ∈ WS := ws_1 82 rfl rfl
theorem wd_1_83 : (Jvm.Cond.fieldLink "TradeLogs$DaySet" (11 : Nat) "TradeLogs$DaySet" "words" "[J") ∈ WS := ws_1 83 rfl rfl
theorem wd_1_84 : (Jvm.Cond.fieldLink "TradeLogs$DaySet" (19 : Nat) "TradeLogs$DaySet" "size" "I") ∈ WS := ws_1 84 rfl rfl
theorem wd_1_85 : (Jvm.Cond.fieldLink "TradeLogs$State" (170 : Nat) "TradeLogs$DaySet" "size" "I") ∈ WS := ws_1 85 rfl rfl
theorem wd_1_86 : (Jvm.Cond.laysFinal "TradeLogs$DaySet" "TradeLogs$DaySet" "words" "[J") ∈ WS := ws_1 86 rfl rfl
theorem wd_1_88 : (Jvm.Cond.lays "TradeLogs$DaySet" "TradeLogs$DaySet" "size" "I") ∈ WS := ws_1 88 rfl rfl
theorem wd_1_91 : (Jvm.Cond.arrayClass Jvm.ClassFile.FieldType.long) ∈ WS := ws_1 91 rfl rfl
theorem wd_1_92 : (Jvm.Cond.fieldLink "TradeLogs$Apprentice" (9 : Nat) "TradeLogs$Apprentice" "done" "[I") ∈ WS := ws_1 92 rfl rfl
theorem wd_1_93 : (Jvm.Cond.fieldLink "TradeLogs$Apprentice" (18 : Nat) "TradeLogs$Apprentice" "pending" "LTradeLogs$EntryQueue;") ∈ WS := ws_1 93 rfl rfl
theorem wd_1_94 : (Jvm.Cond.fieldLink "TradeLogs$State" (102 : Nat) "TradeLogs$Apprentice" "pending" "LTradeLogs$EntryQueue;") ∈ WS := ws_1 94 rfl rfl
theorem wd_1_95 : (Jvm.Cond.fieldLink "TradeLogs$Apprentice" (22 : Nat) "TradeLogs$Apprentice" "doubted" "LTradeLogs$EntryQueue;") ∈ WS := ws_1 95 rfl rfl
theorem wd_1_96 : (Jvm.Cond.fieldLink "TradeLogs$State" (93 : Nat) "TradeLogs$Apprentice" "doubted" "LTradeLogs$EntryQueue;") ∈ WS := ws_1 96 rfl rfl
theorem wd_1_97 : (Jvm.Cond.fieldLink "TradeLogs$Apprentice" (28 : Nat) "TradeLogs$Apprentice" "releases" "LTradeLogs$DaySet;") ∈ WS := ws_1 97 rfl rfl
theorem wd_1_98 : (Jvm.Cond.fieldLink "TradeLogs$State" (163 : Nat) "TradeLogs$Apprentice" "releases" "LTradeLogs$DaySet;") ∈ WS := ws_1 98 rfl rfl
theorem wd_1_99 : (Jvm.Cond.fieldLink "TradeLogs$Apprentice" (32 : Nat) "TradeLogs$Apprentice" "worked" "LTradeLogs$DaySet;") ∈ WS := ws_1 99 rfl rfl
theorem wd_1_100 : (Jvm.Cond.fieldLink "TradeLogs$State" (105 : Nat) "TradeLogs$Apprentice" "worked" "LTradeLogs$DaySet;") ∈ WS := ws_1 100 rfl rfl
theorem wd_1_101 : (Jvm.Cond.fieldLink "TradeLogs$Apprentice" (42 : Nat) "TradeLogs$Apprentice" "trade" "I") ∈ WS := ws_1 101 rfl rfl
theorem wd_1_102 : (Jvm.Cond.fieldLink "TradeLogs$State" (114 : Nat) "TradeLogs$Apprentice" "trade" "I") ∈ WS := ws_1 102 rfl rfl
theorem wd_1_103 : (Jvm.Cond.fieldLink "TradeLogs$Apprentice" (45 : Nat) "TradeLogs$Apprentice" "mentor" "I") ∈ WS := ws_1 103 rfl rfl
theorem wd_1_104 : (Jvm.Cond.fieldLink "TradeLogs$State" (79 : Nat) "TradeLogs$Apprentice" "mentor" "I") ∈ WS := ws_1 104 rfl rfl
theorem wd_1_105 : (Jvm.Cond.fieldLink "TradeLogs$Apprentice" (48 : Nat) "TradeLogs$Apprentice" "refused" "I") ∈ WS := ws_1 105 rfl rfl
theorem wd_1_106 : (Jvm.Cond.fieldLink "TradeLogs$State" (187 : Nat) "TradeLogs$Apprentice" "refused" "I") ∈ WS := ws_1 106 rfl rfl
theorem wd_1_107 : (Jvm.Cond.fieldLink "TradeLogs$Apprentice" (51 : Nat) "TradeLogs$Apprentice" "workedDays" "I") ∈ WS := ws_1 107 rfl rfl
theorem wd_1_108 : (Jvm.Cond.fieldLink "TradeLogs$State" (209 : Nat) "TradeLogs$Apprentice" "workedDays" "I") ∈ WS := ws_1 108 rfl rfl
theorem wd_1_109 : (Jvm.Cond.fieldLink "TradeLogs$Apprentice" (54 : Nat) "TradeLogs$Apprentice" "hoursToday" "I") ∈ WS := ws_1 109 rfl rfl
theorem wd_1_110 : (Jvm.Cond.fieldLink "TradeLogs$State" (196 : Nat) "TradeLogs$Apprentice" "hoursToday" "I") ∈ WS := ws_1 110 rfl rfl
theorem wd_1_111 : (Jvm.Cond.fieldLink "TradeLogs$Apprentice" (57 : Nat) "TradeLogs$Apprentice" "moves" "I") ∈ WS := ws_1 111 rfl rfl
theorem wd_1_112 : (Jvm.Cond.fieldLink "TradeLogs$State" (212 : Nat) "TradeLogs$Apprentice" "moves" "I") ∈ WS := ws_1 112 rfl rfl
theorem wd_1_113 : (Jvm.Cond.laysFinal "TradeLogs$Apprentice" "TradeLogs$Apprentice" "done" "[I") ∈ WS := ws_1 113 rfl rfl
theorem wd_1_115 : (Jvm.Cond.laysFinal "TradeLogs$Apprentice" "TradeLogs$Apprentice" "pending" "LTradeLogs$EntryQueue;") ∈ WS := ws_1 115 rfl rfl
theorem wd_1_117 : (Jvm.Cond.laysFinal "TradeLogs$Apprentice" "TradeLogs$Apprentice" "doubted" "LTradeLogs$EntryQueue;") ∈ WS := ws_1 117 rfl rfl
theorem wd_1_119 : (Jvm.Cond.laysFinal "TradeLogs$Apprentice" "TradeLogs$Apprentice" "releases" "LTradeLogs$DaySet;") ∈ WS := ws_1 119 rfl rfl
theorem wd_1_121 : (Jvm.Cond.laysFinal "TradeLogs$Apprentice" "TradeLogs$Apprentice" "worked" "LTradeLogs$DaySet;") ∈ WS := ws_1 121 rfl rfl
theorem wd_1_123 : (Jvm.Cond.lays "TradeLogs$Apprentice" "TradeLogs$Apprentice" "trade" "I") ∈ WS := ws_1 123 rfl rfl
theorem wd_1_125 : (Jvm.Cond.lays "TradeLogs$Apprentice" "TradeLogs$Apprentice" "mentor" "I") ∈ WS := ws_1 125 rfl rfl
theorem wd_1_127 : (Jvm.Cond.lays "TradeLogs$Apprentice" "TradeLogs$Apprentice" "refused" "I") ∈ WS := ws_1 127 rfl rfl
theorem wd_1_129 : (Jvm.Cond.lays "TradeLogs$Apprentice" "TradeLogs$Apprentice" "workedDays" "I") ∈ WS := ws_1 129 rfl rfl
theorem wd_1_131 : (Jvm.Cond.lays "TradeLogs$Apprentice" "TradeLogs$Apprentice" "hoursToday" "I") ∈ WS := ws_1 131 rfl rfl
theorem wd_1_133 : (Jvm.Cond.lays "TradeLogs$Apprentice" "TradeLogs$Apprentice" "moves" "I") ∈ WS := ws_1 133 rfl rfl
theorem wd_1_136 : (Jvm.Cond.fieldLink "TradeLogs$State" (11 : Nat) "TradeLogs$State" "needs" "[[I") ∈ WS := ws_1 136 rfl rfl
theorem wd_1_137 : (Jvm.Cond.fieldLink "TradeLogs$State" (18 : Nat) "TradeLogs$State" "mentors" "[LTradeLogs$Mentor;") ∈ WS := ws_1 137 rfl rfl
theorem wd_1_138 : (Jvm.Cond.fieldLink "TradeLogs$State" (24 : Nat) "TradeLogs$State" "apprentices" "[LTradeLogs$Apprentice;") ∈ WS := ws_1 138 rfl rfl
theorem wd_1_139 : (Jvm.Cond.fieldLink "TradeLogs$State" (29 : Nat) "TradeLogs$State" "noMentor" "LTradeLogs$Mentor;") ∈ WS := ws_1 139 rfl rfl
theorem wd_1_140 : (Jvm.Cond.fieldLink "TradeLogs$State" (34 : Nat) "TradeLogs$State" "noApprentice" "LTradeLogs$Apprentice;") ∈ WS := ws_1 140 rfl rfl
theorem wd_1_141 : (Jvm.Cond.fieldLink "TradeLogs$State" (38 : Nat) "TradeLogs$State" "tradeCount" "I") ∈ WS := ws_1 141 rfl rfl
theorem wd_1_142 : (Jvm.Cond.fieldLink "TradeLogs" (246 : Nat) "TradeLogs$State" "tradeCount" "I") ∈ WS := ws_1 142 rfl rfl
theorem wd_1_143 : (Jvm.Cond.fieldLink "TradeLogs$State" (42 : Nat) "TradeLogs$State" "mentorCount" "I") ∈ WS := ws_1 143 rfl rfl
theorem wd_1_144 : (Jvm.Cond.fieldLink "TradeLogs" (208 : Nat) "TradeLogs$State" "mentorCount" "I") ∈ WS := ws_1 144 rfl rfl
theorem wd_1_145 : (Jvm.Cond.fieldLink "TradeLogs$State" (45 : Nat) "TradeLogs$State" "apprenticeCount" "I") ∈ WS := ws_1 145 rfl rfl
theorem wd_1_146 : (Jvm.Cond.fieldLink "TradeLogs" (211 : Nat) "TradeLogs$State" "apprenticeCount" "I") ∈ WS := ws_1 146 rfl rfl
theorem wd_1_147 : (Jvm.Cond.fieldLink "TradeLogs$State" (48 : Nat) "TradeLogs$State" "day" "I") ∈ WS := ws_1 147 rfl rfl
theorem wd_1_148 : (Jvm.Cond.fieldLink "TradeLogs" (277 : Nat) "TradeLogs$State" "day" "I") ∈ WS := ws_1 148 rfl rfl
theorem wd_1_149 : (Jvm.Cond.laysFinal "TradeLogs$State" "TradeLogs$State" "needs" "[[I") ∈ WS := ws_1 149 rfl rfl
theorem wd_1_151 : (Jvm.Cond.laysFinal "TradeLogs$State" "TradeLogs$State" "mentors" "[LTradeLogs$Mentor;") ∈ WS := ws_1 151 rfl rfl
theorem wd_1_153 : (Jvm.Cond.laysFinal "TradeLogs$State" "TradeLogs$State" "apprentices" "[LTradeLogs$Apprentice;") ∈ WS := ws_1 153 rfl rfl
theorem wd_1_155 : (Jvm.Cond.laysFinal "TradeLogs$State" "TradeLogs$State" "noMentor" "LTradeLogs$Mentor;") ∈ WS := ws_1 155 rfl rfl
theorem wd_1_157 : (Jvm.Cond.laysFinal "TradeLogs$State" "TradeLogs$State" "noApprentice" "LTradeLogs$Apprentice;") ∈ WS := ws_1 157 rfl rfl
theorem wd_1_159 : (Jvm.Cond.lays "TradeLogs$State" "TradeLogs$State" "tradeCount" "I") ∈ WS := ws_1 159 rfl rfl
theorem wd_1_161 : (Jvm.Cond.lays "TradeLogs$State" "TradeLogs$State" "mentorCount" "I") ∈ WS := ws_1 161 rfl rfl
theorem wd_1_163 : (Jvm.Cond.lays "TradeLogs$State" "TradeLogs$State" "apprenticeCount" "I") ∈ WS := ws_1 163 rfl rfl
theorem wd_1_165 : (Jvm.Cond.lays "TradeLogs$State" "TradeLogs$State" "day" "I") ∈ WS := ws_1 165 rfl rfl
theorem wd_1_168 : (Jvm.Cond.classLink "TradeLogs" (16 : Nat) "TradeLogs$UndoStack") ∈ WS := ws_1 168 rfl rfl
theorem wd_1_169 : (Jvm.Cond.instantiable "TradeLogs$UndoStack" (3 : Nat)) ∈ WS := ws_1 169 rfl rfl
theorem wd_1_170 : (Jvm.Cond.methodLink "TradeLogs" (18 : Nat) ({ cls := "TradeLogs$UndoStack", name := "<init>", desc := "()V" } : Jvm.MethodName)) ∈ WS := ws_1 170 rfl rfl
theorem wd_1_171 : (Jvm.Cond.instanceMethod ({ cls := "TradeLogs$UndoStack", name := "<init>", desc := "()V" } : Jvm.MethodName)) ∈ WS := ws_1 171 rfl rfl
theorem wd_1_172 : (Jvm.Cond.code ({ cls := "TradeLogs$UndoStack", name := "<init>", desc := "()V" } : Jvm.MethodName) prog_10_method_1_code (2 : Nat) (Option.none : Option Jvm.ClassFile.FieldType)) ∈ WS := ws_1 172 rfl rfl
theorem wd_1_173 : (Jvm.Cond.methodLink "TradeLogs$UndoStack" (3 : Nat) ({ cls := "java/lang/Object", name := "<init>", desc := "()V" } : Jvm.MethodName)) ∈ WS := ws_1 173 rfl rfl
theorem wd_1_174 : (Jvm.Cond.classLink "TradeLogs$UndoStack" (9 : Nat) "TradeLogs$State") ∈ WS := ws_1 174 rfl rfl
theorem wd_1_176 : (Jvm.Cond.methodLink "TradeLogs$UndoStack" (17 : Nat) ({ cls := "TradeLogs$State", name := "<init>", desc := "()V" } : Jvm.MethodName)) ∈ WS := ws_1 176 rfl rfl
theorem wd_1_177 : (Jvm.Cond.fieldLink "TradeLogs$UndoStack" (11 : Nat) "TradeLogs$UndoStack" "saved" "[LTradeLogs$State;") ∈ WS := ws_1 177 rfl rfl
theorem wd_1_178 : (Jvm.Cond.fieldLink "TradeLogs$UndoStack" (18 : Nat) "TradeLogs$UndoStack" "oldest" "I") ∈ WS := ws_1 178 rfl rfl
theorem wd_1_179 : (Jvm.Cond.fieldLink "TradeLogs$UndoStack" (22 : Nat) "TradeLogs$UndoStack" "size" "I") ∈ WS := ws_1 179 rfl rfl
theorem wd_1_180 : (Jvm.Cond.fieldLink "TradeLogs" (195 : Nat) "TradeLogs$UndoStack" "size" "I") ∈ WS := ws_1 180 rfl rfl
theorem wd_1_181 : (Jvm.Cond.laysFinal "TradeLogs$UndoStack" "TradeLogs$UndoStack" "saved" "[LTradeLogs$State;") ∈ WS := ws_1 181 rfl rfl
theorem wd_1_183 : (Jvm.Cond.lays "TradeLogs$UndoStack" "TradeLogs$UndoStack" "oldest" "I") ∈ WS := ws_1 183 rfl rfl
theorem wd_1_185 : (Jvm.Cond.lays "TradeLogs$UndoStack" "TradeLogs$UndoStack" "size" "I") ∈ WS := ws_1 185 rfl rfl
theorem wd_1_188 : (Jvm.Cond.classLink "TradeLogs" (23 : Nat) "TradeLogs$CommandText") ∈ WS := ws_1 188 rfl rfl
theorem wd_1_189 : (Jvm.Cond.instantiable "TradeLogs$CommandText" (11 : Nat)) ∈ WS := ws_1 189 rfl rfl
theorem wd_1_191 : (Jvm.Cond.instanceMethod ({ cls := "TradeLogs$CommandText", name := "<init>", desc := "()V" } : Jvm.MethodName)) ∈ WS := ws_1 191 rfl rfl
theorem wd_1_192 : (Jvm.Cond.code ({ cls := "TradeLogs$CommandText", name := "<init>", desc := "()V" } : Jvm.MethodName) prog_5_method_1_code (1 : Nat) (Option.none : Option Jvm.ClassFile.FieldType)) ∈ WS := ws_1 192 rfl rfl
theorem wd_1_193 : (Jvm.Cond.methodLink "TradeLogs$CommandText" (3 : Nat) ({ cls := "java/lang/Object", name := "<init>", desc := "()V" } : Jvm.MethodName)) ∈ WS := ws_1 193 rfl rfl
theorem wd_1_194 : (Jvm.Cond.classLink "TradeLogs$CommandText" (15 : Nat) "TradeLogs$Command") ∈ WS := ws_1 194 rfl rfl
theorem wd_1_196 : (Jvm.Cond.classLink "TradeLogs$CommandText" (21 : Nat) "[[I") ∈ WS := ws_1 196 rfl rfl
theorem wd_1_197 : (Jvm.Cond.fieldLink "TradeLogs$CommandText" (9 : Nat) "TradeLogs$CommandText" "bytes" "[I") ∈ WS := ws_1 197 rfl rfl
theorem wd_1_198 : (Jvm.Cond.fieldLink "TradeLogs$CommandText" (17 : Nat) "TradeLogs$CommandText" "commands" "[LTradeLogs$Command;") ∈ WS := ws_1 198 rfl rfl
theorem wd_1_199 : (Jvm.Cond.fieldLink "TradeLogs$CommandText" (23 : Nat) "TradeLogs$CommandText" "numbers" "[[I") ∈ WS := ws_1 199 rfl rfl
theorem wd_1_200 : (Jvm.Cond.fieldLink "TradeLogs$CommandText" (26 : Nat) "TradeLogs$CommandText" "length" "I") ∈ WS := ws_1 200 rfl rfl
theorem wd_1_201 : (Jvm.Cond.fieldLink "TradeLogs" (172 : Nat) "TradeLogs$CommandText" "length" "I") ∈ WS := ws_1 201 rfl rfl
theorem wd_1_202 : (Jvm.Cond.laysFinal "TradeLogs$CommandText" "TradeLogs$CommandText" "bytes" "[I") ∈ WS := ws_1 202 rfl rfl
theorem wd_1_204 : (Jvm.Cond.laysFinal "TradeLogs$CommandText" "TradeLogs$CommandText" "commands" "[LTradeLogs$Command;") ∈ WS := ws_1 204 rfl rfl
theorem wd_1_206 : (Jvm.Cond.laysFinal "TradeLogs$CommandText" "TradeLogs$CommandText" "numbers" "[[I") ∈ WS := ws_1 206 rfl rfl
theorem wd_1_208 : (Jvm.Cond.lays "TradeLogs$CommandText" "TradeLogs$CommandText" "length" "I") ∈ WS := ws_1 208 rfl rfl
theorem wd_1_210 : (Jvm.Cond.lays "TradeLogs$CommandText" "TradeLogs$CommandText" "count" "I") ∈ WS := ws_1 210 rfl rfl
theorem wd_1_212 : (Jvm.Cond.lays "TradeLogs$CommandText" "TradeLogs$CommandText" "place" "I") ∈ WS := ws_1 212 rfl rfl
theorem wd_1_214 : (Jvm.Cond.lays "TradeLogs$CommandText" "TradeLogs$CommandText" "wordStart" "I") ∈ WS := ws_1 214 rfl rfl
theorem wd_1_216 : (Jvm.Cond.lays "TradeLogs$CommandText" "TradeLogs$CommandText" "numbersDue" "I") ∈ WS := ws_1 216 rfl rfl
theorem wd_1_218 : (Jvm.Cond.lays "TradeLogs$CommandText" "TradeLogs$CommandText" "numbersRead" "I") ∈ WS := ws_1 218 rfl rfl
theorem wd_1_220 : (Jvm.Cond.lays "TradeLogs$CommandText" "TradeLogs$CommandText" "digits" "I") ∈ WS := ws_1 220 rfl rfl
theorem wd_1_222 : (Jvm.Cond.lays "TradeLogs$CommandText" "TradeLogs$CommandText" "number" "I") ∈ WS := ws_1 222 rfl rfl
theorem wd_1_225 : (Jvm.Cond.fieldLink "TradeLogs" (10 : Nat) "TradeLogs" "state" "LTradeLogs$State;") ∈ WS := ws_1 225 rfl rfl
theorem wd_1_226 : (Jvm.Cond.fieldLink "TradeLogs" (19 : Nat) "TradeLogs" "undoStack" "LTradeLogs$UndoStack;") ∈ WS := ws_1 226 rfl rfl
theorem wd_1_227 : (Jvm.Cond.fieldLink "TradeLogs" (26 : Nat) "TradeLogs" "commandText" "LTradeLogs$CommandText;") ∈ WS := ws_1 227 rfl rfl
theorem wd_1_228 : (Jvm.Cond.laysFinal "TradeLogs" "TradeLogs" "state" "LTradeLogs$State;") ∈ WS := ws_1 228 rfl rfl
theorem wd_1_230 : (Jvm.Cond.laysFinal "TradeLogs" "TradeLogs" "undoStack" "LTradeLogs$UndoStack;") ∈ WS := ws_1 230 rfl rfl
theorem wd_1_232 : (Jvm.Cond.laysFinal "TradeLogs" "TradeLogs" "commandText" "LTradeLogs$CommandText;") ∈ WS := ws_1 232 rfl rfl
theorem wd_1_235 : (Jvm.Cond.methodLink "TradeLogsLaw" (202 : Nat) ({ cls := "TradeLogsLaw", name := "cell", desc := "([II)I" } : Jvm.MethodName)) ∈ WS := ws_1 235 rfl rfl
theorem wd_1_236 : (Jvm.Cond.static ({ cls := "TradeLogsLaw", name := "cell", desc := "([II)I" } : Jvm.MethodName)) ∈ WS := ws_1 236 rfl rfl
theorem wd_1_237 : (Jvm.Cond.code ({ cls := "TradeLogsLaw", name := "cell", desc := "([II)I" } : Jvm.MethodName) method_2_code (3 : Nat) (Option.some Jvm.ClassFile.FieldType.int)) ∈ WS := ws_1 237 rfl rfl
theorem wd_1_238 : (Jvm.Cond.constant "TradeLogsLaw" (7 : Nat) (916318735 : Int32)) ∈ WS := ws_1 238 rfl rfl
theorem wd_1_239 : (Jvm.Cond.methodLink "TradeLogsLaw" (186 : Nat) ({ cls := "TradeLogsLaw", name := "low", desc := "(II)I" } : Jvm.MethodName)) ∈ WS := ws_1 239 rfl rfl
theorem wd_2_0 : (Jvm.Cond.static ({ cls := "TradeLogsLaw", name := "low", desc := "(II)I" } : Jvm.MethodName)) ∈ WS := ws_2 0 rfl rfl
theorem wd_2_1 : (Jvm.Cond.code ({ cls := "TradeLogsLaw", name := "low", desc := "(II)I" } : Jvm.MethodName) method_3_code (2 : Nat) (Option.some Jvm.ClassFile.FieldType.int)) ∈ WS := ws_2 1 rfl rfl
theorem wd_2_2 : (Jvm.Cond.constant "TradeLogsLaw" (8 : Nat) (2147483647 : Int32)) ∈ WS := ws_2 2 rfl rfl
theorem wd_2_3 : (Jvm.Cond.methodLink "TradeLogsLaw" (129 : Nat) ({ cls := "TradeLogsLaw", name := "trade", desc := "(LTradeLogs;III)I" } : Jvm.MethodName)) ∈ WS := ws_2 3 rfl rfl
theorem wd_2_4 : (Jvm.Cond.static ({ cls := "TradeLogsLaw", name := "trade", desc := "(LTradeLogs;III)I" } : Jvm.MethodName)) ∈ WS := ws_2 4 rfl rfl
theorem wd_2_6 : (Jvm.Cond.classLink "TradeLogsLaw" (15 : Nat) "java/lang/IllegalArgumentException") ∈ WS := ws_2 6 rfl rfl
theorem wd_2_7 : (Jvm.Cond.classLink "TradeLogsLaw" (18 : Nat) "java/lang/IllegalStateException") ∈ WS := ws_2 7 rfl rfl
theorem wd_2_8 : (Jvm.Cond.methodLink "TradeLogsLaw" (9 : Nat) ({ cls := "TradeLogs", name := "addTrade", desc := "(III)I" } : Jvm.MethodName)) ∈ WS := ws_2 8 rfl rfl
theorem wd_2_9 : (Jvm.Cond.instanceMethod ({ cls := "TradeLogs", name := "addTrade", desc := "(III)I" } : Jvm.MethodName)) ∈ WS := ws_2 9 rfl rfl
theorem wd_2_10 : (Jvm.Cond.selects "TradeLogs" ({ cls := "TradeLogs", name := "addTrade", desc := "(III)I" } : Jvm.MethodName) ({ cls := "TradeLogs", name := "addTrade", desc := "(III)I" } : Jvm.MethodName)) ∈ WS := ws_2 10 rfl rfl
theorem wd_2_11 : (Jvm.Cond.code ({ cls := "TradeLogs", name := "addTrade", desc := "(III)I" } : Jvm.MethodName) prog_1_method_2_code (4 : Nat) (Option.some Jvm.ClassFile.FieldType.int)) ∈ WS := ws_2 11 rfl rfl
theorem wd_2_12 : (Jvm.Cond.methodLink "TradeLogs" (30 : Nat) ({ cls := "TradeLogs", name := "faultOfTrade", desc := "(III)I" } : Jvm.MethodName)) ∈ WS := ws_2 12 rfl rfl
theorem wd_2_14 : (Jvm.Cond.instanceMethod ({ cls := "TradeLogs", name := "faultOfTrade", desc := "(III)I" } : Jvm.MethodName)) ∈ WS := ws_2 14 rfl rfl
theorem wd_2_15 : (Jvm.Cond.code ({ cls := "TradeLogs", name := "faultOfTrade", desc := "(III)I" } : Jvm.MethodName) prog_1_method_37_code (4 : Nat) (Option.some Jvm.ClassFile.FieldType.int)) ∈ WS := ws_2 15 rfl rfl
theorem wd_2_16 : (Jvm.Cond.methodLink "TradeLogs" (130 : Nat) ({ cls := "TradeLogs", name := "isWithin", desc := "(III)Z" } : Jvm.MethodName)) ∈ WS := ws_2 16 rfl rfl
theorem wd_2_17 : (Jvm.Cond.static ({ cls := "TradeLogs", name := "isWithin", desc := "(III)Z" } : Jvm.MethodName)) ∈ WS := ws_2 17 rfl rfl
theorem wd_2_18 : (Jvm.Cond.code ({ cls := "TradeLogs", name := "isWithin", desc := "(III)Z" } : Jvm.MethodName) prog_1_method_35_code (3 : Nat) (Option.some Jvm.ClassFile.FieldType.boolean)) ∈ WS := ws_2 18 rfl rfl
theorem wd_2_19 : (Jvm.Cond.methodLink "TradeLogs" (34 : Nat) ({ cls := "TradeLogs", name := "refuse", desc := "(I)V" } : Jvm.MethodName)) ∈ WS := ws_2 19 rfl rfl
theorem wd_2_20 : (Jvm.Cond.static ({ cls := "TradeLogs", name := "refuse", desc := "(I)V" } : Jvm.MethodName)) ∈ WS := ws_2 20 rfl rfl
theorem wd_2_21 : (Jvm.Cond.code ({ cls := "TradeLogs", name := "refuse", desc := "(I)V" } : Jvm.MethodName) prog_1_method_34_code (1 : Nat) (Option.none : Option Jvm.ClassFile.FieldType)) ∈ WS := ws_2 21 rfl rfl
theorem wd_2_22 : (Jvm.Cond.classLink "TradeLogs" (229 : Nat) "java/lang/IndexOutOfBoundsException") ∈ WS := ws_2 22 rfl rfl
theorem wd_2_23 : (Jvm.Cond.instantiable "java/lang/IndexOutOfBoundsException" (6 : Nat)) ∈ WS := ws_2 23 rfl rfl
theorem wd_2_31 : (Jvm.Cond.selects "java/lang/IndexOutOfBoundsException" ({ cls := "java/lang/Throwable", name := "fillInStackTrace", desc := "(I)Ljava/lang/Throwable;" } : Jvm.MethodName) ({ cls := "java/lang/Throwable", name := "fillInStackTrace", desc := "(I)Ljava/lang/Throwable;" } : Jvm.MethodName)) ∈ WS := ws_2 31 rfl rfl
theorem wd_2_32 : (Jvm.Cond.selects "java/lang/IndexOutOfBoundsException" ({ cls := "java/lang/Throwable", name := "fillInStackTrace", desc := "()Ljava/lang/Throwable;" } : Jvm.MethodName) ({ cls := "java/lang/Throwable", name := "fillInStackTrace", desc := "()Ljava/lang/Throwable;" } : Jvm.MethodName)) ∈ WS := ws_2 32 rfl rfl
theorem wd_2_33 : (Jvm.Cond.lays "java/lang/IndexOutOfBoundsException" "java/lang/Throwable" "cause" "Ljava/lang/Throwable;") ∈ WS := ws_2 33 rfl rfl
theorem wd_2_34 : (Jvm.Cond.lays "java/lang/Throwable" "java/lang/Throwable" "cause" "Ljava/lang/Throwable;") ∈ WS := ws_2 34 rfl rfl
theorem wd_2_35 : (Jvm.Cond.lays "java/lang/IndexOutOfBoundsException" "java/lang/Throwable" "stackTrace" "[Ljava/lang/StackTraceElement;") ∈ WS := ws_2 35 rfl rfl
theorem wd_2_36 : (Jvm.Cond.lays "java/lang/Throwable" "java/lang/Throwable" "stackTrace" "[Ljava/lang/StackTraceElement;") ∈ WS := ws_2 36 rfl rfl
theorem wd_2_37 : (Jvm.Cond.lays "java/lang/IndexOutOfBoundsException" "java/lang/Throwable" "suppressedExceptions" "Ljava/util/List;") ∈ WS := ws_2 37 rfl rfl
theorem wd_2_38 : (Jvm.Cond.lays "java/lang/Throwable" "java/lang/Throwable" "suppressedExceptions" "Ljava/util/List;") ∈ WS := ws_2 38 rfl rfl
theorem wd_2_39 : (Jvm.Cond.lays "java/lang/IndexOutOfBoundsException" "java/lang/Throwable" "detailMessage" "Ljava/lang/String;") ∈ WS := ws_2 39 rfl rfl
theorem wd_2_40 : (Jvm.Cond.lays "java/lang/Throwable" "java/lang/Throwable" "detailMessage" "Ljava/lang/String;") ∈ WS := ws_2 40 rfl rfl
theorem wd_2_41 : (Jvm.Cond.lays "java/lang/IndexOutOfBoundsException" "java/lang/Throwable" "backtrace" "Ljava/lang/Object;") ∈ WS := ws_2 41 rfl rfl
theorem wd_2_42 : (Jvm.Cond.lays "java/lang/Throwable" "java/lang/Throwable" "backtrace" "Ljava/lang/Object;") ∈ WS := ws_2 42 rfl rfl
theorem wd_2_43 : (Jvm.Cond.fieldLink "java/lang/Throwable" (198 : Nat) "java/lang/Throwable" "backtrace" "Ljava/lang/Object;") ∈ WS := ws_2 43 rfl rfl
theorem wd_2_45 : (Jvm.Cond.instanceMethod ({ cls := "java/lang/Throwable", name := "<init>", desc := "()V" } : Jvm.MethodName)) ∈ WS := ws_2 45 rfl rfl
theorem wd_2_46 : (Jvm.Cond.code ({ cls := "java/lang/Throwable", name := "<init>", desc := "()V" } : Jvm.MethodName) prog_21_method_1_code (1 : Nat) (Option.none : Option Jvm.ClassFile.FieldType)) ∈ WS := ws_2 46 rfl rfl
theorem wd_2_47 : (Jvm.Cond.methodLink "java/lang/Throwable" (1 : Nat) ({ cls := "java/lang/Object", name := "<init>", desc := "()V" } : Jvm.MethodName)) ∈ WS := ws_2 47 rfl rfl
theorem wd_2_48 : (Jvm.Cond.fieldLink "java/lang/Throwable" (13 : Nat) "java/lang/Throwable" "UNASSIGNED_STACK" "[Ljava/lang/StackTraceElement;") ∈ WS := ws_2 48 rfl rfl
theorem wd_2_50 : (Jvm.Cond.fieldLink "java/lang/Throwable" (20 : Nat) "java/lang/Throwable" "SUPPRESSED_SENTINEL" "Ljava/util/List;") ∈ WS := ws_2 50 rfl rfl
theorem wd_2_52 : (Jvm.Cond.methodLink "java/lang/Throwable" (27 : Nat) ({ cls := "java/lang/Throwable", name := "fillInStackTrace", desc := "()Ljava/lang/Throwable;" } : Jvm.MethodName)) ∈ WS := ws_2 52 rfl rfl
theorem wd_2_53 : (Jvm.Cond.instanceMethod ({ cls := "java/lang/Throwable", name := "fillInStackTrace", desc := "()Ljava/lang/Throwable;" } : Jvm.MethodName)) ∈ WS := ws_2 53 rfl rfl
theorem wd_2_55 : (Jvm.Cond.selects "java/lang/IllegalArgumentException" ({ cls := "java/lang/Throwable", name := "fillInStackTrace", desc := "()Ljava/lang/Throwable;" } : Jvm.MethodName) ({ cls := "java/lang/Throwable", name := "fillInStackTrace", desc := "()Ljava/lang/Throwable;" } : Jvm.MethodName)) ∈ WS := ws_2 55 rfl rfl
theorem wd_2_56 : (Jvm.Cond.selects "java/lang/IllegalStateException" ({ cls := "java/lang/Throwable", name := "fillInStackTrace", desc := "()Ljava/lang/Throwable;" } : Jvm.MethodName) ({ cls := "java/lang/Throwable", name := "fillInStackTrace", desc := "()Ljava/lang/Throwable;" } : Jvm.MethodName)) ∈ WS := ws_2 56 rfl rfl
theorem wd_2_58 : (Jvm.Cond.methodLink "java/lang/Throwable" (202 : Nat) ({ cls := "java/lang/Throwable", name := "fillInStackTrace", desc := "(I)Ljava/lang/Throwable;" } : Jvm.MethodName)) ∈ WS := ws_2 58 rfl rfl
theorem wd_2_60 : (Jvm.Cond.instanceMethod ({ cls := "java/lang/Throwable", name := "fillInStackTrace", desc := "(I)Ljava/lang/Throwable;" } : Jvm.MethodName)) ∈ WS := ws_2 60 rfl rfl
theorem wd_2_61 : (Jvm.Cond.instantiable "java/lang/Throwable" (6 : Nat)) ∈ WS := ws_2 61 rfl rfl
theorem wd_2_62 : (Jvm.Cond.native ({ cls := "java/lang/Throwable", name := "fillInStackTrace", desc := "(I)Ljava/lang/Throwable;" } : Jvm.MethodName)) ∈ WS := ws_2 62 rfl rfl
theorem wd_2_64 : (Jvm.Cond.methodLink "TradeLogs" (233 : Nat) ({ cls := "java/lang/IndexOutOfBoundsException", name := "<init>", desc := "(Ljava/lang/String;)V" } : Jvm.MethodName)) ∈ WS := ws_2 64 rfl rfl
theorem wd_2_65 : (Jvm.Cond.instanceMethod ({ cls := "java/lang/IndexOutOfBoundsException", name := "<init>", desc := "(Ljava/lang/String;)V" } : Jvm.MethodName)) ∈ WS := ws_2 65 rfl rfl
theorem wd_2_66 : (Jvm.Cond.code ({ cls := "java/lang/IndexOutOfBoundsException", name := "<init>", desc := "(Ljava/lang/String;)V" } : Jvm.MethodName) prog_16_method_2_code (2 : Nat) (Option.none : Option Jvm.ClassFile.FieldType)) ∈ WS := ws_2 66 rfl rfl
theorem wd_2_67 : (Jvm.Cond.methodLink "java/lang/IndexOutOfBoundsException" (7 : Nat) ({ cls := "java/lang/RuntimeException", name := "<init>", desc := "(Ljava/lang/String;)V" } : Jvm.MethodName)) ∈ WS := ws_2 67 rfl rfl
theorem wd_2_68 : (Jvm.Cond.instanceMethod ({ cls := "java/lang/RuntimeException", name := "<init>", desc := "(Ljava/lang/String;)V" } : Jvm.MethodName)) ∈ WS := ws_2 68 rfl rfl
theorem wd_2_69 : (Jvm.Cond.code ({ cls := "java/lang/RuntimeException", name := "<init>", desc := "(Ljava/lang/String;)V" } : Jvm.MethodName) prog_18_method_2_code (2 : Nat) (Option.none : Option Jvm.ClassFile.FieldType)) ∈ WS := ws_2 69 rfl rfl
theorem wd_2_70 : (Jvm.Cond.methodLink "java/lang/RuntimeException" (7 : Nat) ({ cls := "java/lang/Exception", name := "<init>", desc := "(Ljava/lang/String;)V" } : Jvm.MethodName)) ∈ WS := ws_2 70 rfl rfl
theorem wd_2_71 : (Jvm.Cond.instanceMethod ({ cls := "java/lang/Exception", name := "<init>", desc := "(Ljava/lang/String;)V" } : Jvm.MethodName)) ∈ WS := ws_2 71 rfl rfl
theorem wd_2_72 : (Jvm.Cond.code ({ cls := "java/lang/Exception", name := "<init>", desc := "(Ljava/lang/String;)V" } : Jvm.MethodName) prog_13_method_2_code (2 : Nat) (Option.none : Option Jvm.ClassFile.FieldType)) ∈ WS := ws_2 72 rfl rfl
theorem wd_2_73 : (Jvm.Cond.methodLink "java/lang/Exception" (7 : Nat) ({ cls := "java/lang/Throwable", name := "<init>", desc := "(Ljava/lang/String;)V" } : Jvm.MethodName)) ∈ WS := ws_2 73 rfl rfl
theorem wd_2_74 : (Jvm.Cond.instanceMethod ({ cls := "java/lang/Throwable", name := "<init>", desc := "(Ljava/lang/String;)V" } : Jvm.MethodName)) ∈ WS := ws_2 74 rfl rfl
theorem wd_2_75 : (Jvm.Cond.code ({ cls := "java/lang/Throwable", name := "<init>", desc := "(Ljava/lang/String;)V" } : Jvm.MethodName) prog_21_method_2_code (2 : Nat) (Option.none : Option Jvm.ClassFile.FieldType)) ∈ WS := ws_2 75 rfl rfl
theorem wd_2_76 : (Jvm.Cond.fieldLink "java/lang/Throwable" (198 : Nat) "java/lang/Throwable" "backtrace" "Ljava/lang/Object;") ∈ WS := ws_2 76 rfl rfl
theorem wd_2_77 : (Jvm.Cond.fieldLink "java/lang/Throwable" (31 : Nat) "java/lang/Throwable" "detailMessage" "Ljava/lang/String;") ∈ WS := ws_2 77 rfl rfl
theorem wd_2_78 : (Jvm.Cond.fieldLink "java/lang/Throwable" (7 : Nat) "java/lang/Throwable" "cause" "Ljava/lang/Throwable;") ∈ WS := ws_2 78 rfl rfl
theorem wd_2_79 : (Jvm.Cond.fieldLink "java/lang/Throwable" (17 : Nat) "java/lang/Throwable" "stackTrace" "[Ljava/lang/StackTraceElement;") ∈ WS := ws_2 79 rfl rfl
theorem wd_2_80 : (Jvm.Cond.fieldLink "java/lang/Throwable" (24 : Nat) "java/lang/Throwable" "suppressedExceptions" "Ljava/util/List;") ∈ WS := ws_2 80 rfl rfl
theorem wd_2_85 : (Jvm.Cond.lays "java/lang/IndexOutOfBoundsException" "java/lang/Throwable" "depth" "I") ∈ WS := ws_2 85 rfl rfl
theorem wd_2_89 : (Jvm.Cond.arrayClass Jvm.ClassFile.FieldType.byte) ∈ WS := ws_2 89 rfl rfl
theorem wd_2_90 : (Jvm.Cond.classLink "TradeLogs" (236 : Nat) "java/lang/IllegalArgumentException") ∈ WS := ws_2 90 rfl rfl
theorem wd_2_91 : (Jvm.Cond.instantiable "java/lang/IllegalArgumentException" (6 : Nat)) ∈ WS := ws_2 91 rfl rfl
theorem wd_2_93 : (Jvm.Cond.selects "java/lang/IllegalArgumentException" ({ cls := "java/lang/Throwable", name := "fillInStackTrace", desc := "(I)Ljava/lang/Throwable;" } : Jvm.MethodName) ({ cls := "java/lang/Throwable", name := "fillInStackTrace", desc := "(I)Ljava/lang/Throwable;" } : Jvm.MethodName)) ∈ WS := ws_2 93 rfl rfl
theorem wd_2_94 : (Jvm.Cond.lays "java/lang/IllegalArgumentException" "java/lang/Throwable" "cause" "Ljava/lang/Throwable;") ∈ WS := ws_2 94 rfl rfl
theorem wd_2_95 : (Jvm.Cond.lays "java/lang/IllegalArgumentException" "java/lang/Throwable" "stackTrace" "[Ljava/lang/StackTraceElement;") ∈ WS := ws_2 95 rfl rfl
theorem wd_2_96 : (Jvm.Cond.lays "java/lang/IllegalArgumentException" "java/lang/Throwable" "suppressedExceptions" "Ljava/util/List;") ∈ WS := ws_2 96 rfl rfl
theorem wd_2_97 : (Jvm.Cond.lays "java/lang/IllegalArgumentException" "java/lang/Throwable" "detailMessage" "Ljava/lang/String;") ∈ WS := ws_2 97 rfl rfl
theorem wd_2_98 : (Jvm.Cond.lays "java/lang/IllegalArgumentException" "java/lang/Throwable" "backtrace" "Ljava/lang/Object;") ∈ WS := ws_2 98 rfl rfl
theorem wd_2_100 : (Jvm.Cond.methodLink "TradeLogs" (240 : Nat) ({ cls := "java/lang/IllegalArgumentException", name := "<init>", desc := "(Ljava/lang/String;)V" } : Jvm.MethodName)) ∈ WS := ws_2 100 rfl rfl
theorem wd_2_101 : (Jvm.Cond.instanceMethod ({ cls := "java/lang/IllegalArgumentException", name := "<init>", desc := "(Ljava/lang/String;)V" } : Jvm.MethodName)) ∈ WS := ws_2 101 rfl rfl
theorem wd_2_102 : (Jvm.Cond.code ({ cls := "java/lang/IllegalArgumentException", name := "<init>", desc := "(Ljava/lang/String;)V" } : Jvm.MethodName) prog_14_method_2_code (2 : Nat) (Option.none : Option Jvm.ClassFile.FieldType)) ∈ WS := ws_2 102 rfl rfl
theorem wd_2_103 : (Jvm.Cond.methodLink "java/lang/IllegalArgumentException" (7 : Nat) ({ cls := "java/lang/RuntimeException", name := "<init>", desc := "(Ljava/lang/String;)V" } : Jvm.MethodName)) ∈ WS := ws_2 103 rfl rfl
theorem wd_2_104 : (Jvm.Cond.lays "java/lang/IllegalArgumentException" "java/lang/Throwable" "depth" "I") ∈ WS := ws_2 104 rfl rfl
theorem wd_2_106 : (Jvm.Cond.classLink "TradeLogs" (241 : Nat) "java/lang/IllegalStateException") ∈ WS := ws_2 106 rfl rfl
theorem wd_2_107 : (Jvm.Cond.instantiable "java/lang/IllegalStateException" (6 : Nat)) ∈ WS := ws_2 107 rfl rfl
theorem wd_2_109 : (Jvm.Cond.selects "java/lang/IllegalStateException" ({ cls := "java/lang/Throwable", name := "fillInStackTrace", desc := "(I)Ljava/lang/Throwable;" } : Jvm.MethodName) ({ cls := "java/lang/Throwable", name := "fillInStackTrace", desc := "(I)Ljava/lang/Throwable;" } : Jvm.MethodName)) ∈ WS := ws_2 109 rfl rfl
theorem wd_2_110 : (Jvm.Cond.lays "java/lang/IllegalStateException" "java/lang/Throwable" "cause" "Ljava/lang/Throwable;") ∈ WS := ws_2 110 rfl rfl
theorem wd_2_111 : (Jvm.Cond.lays "java/lang/IllegalStateException" "java/lang/Throwable" "stackTrace" "[Ljava/lang/StackTraceElement;") ∈ WS := ws_2 111 rfl rfl
theorem wd_2_112 : (Jvm.Cond.lays "java/lang/IllegalStateException" "java/lang/Throwable" "suppressedExceptions" "Ljava/util/List;") ∈ WS := ws_2 112 rfl rfl
theorem wd_2_113 : (Jvm.Cond.lays "java/lang/IllegalStateException" "java/lang/Throwable" "detailMessage" "Ljava/lang/String;") ∈ WS := ws_2 113 rfl rfl
theorem wd_2_114 : (Jvm.Cond.lays "java/lang/IllegalStateException" "java/lang/Throwable" "backtrace" "Ljava/lang/Object;") ∈ WS := ws_2 114 rfl rfl
theorem wd_2_116 : (Jvm.Cond.methodLink "TradeLogs" (245 : Nat) ({ cls := "java/lang/IllegalStateException", name := "<init>", desc := "(Ljava/lang/String;)V" } : Jvm.MethodName)) ∈ WS := ws_2 116 rfl rfl
theorem wd_2_117 : (Jvm.Cond.instanceMethod ({ cls := "java/lang/IllegalStateException", name := "<init>", desc := "(Ljava/lang/String;)V" } : Jvm.MethodName)) ∈ WS := ws_2 117 rfl rfl
theorem wd_2_118 : (Jvm.Cond.code ({ cls := "java/lang/IllegalStateException", name := "<init>", desc := "(Ljava/lang/String;)V" } : Jvm.MethodName) prog_15_method_2_code (2 : Nat) (Option.none : Option Jvm.ClassFile.FieldType)) ∈ WS := ws_2 118 rfl rfl
theorem wd_2_119 : (Jvm.Cond.methodLink "java/lang/IllegalStateException" (7 : Nat) ({ cls := "java/lang/RuntimeException", name := "<init>", desc := "(Ljava/lang/String;)V" } : Jvm.MethodName)) ∈ WS := ws_2 119 rfl rfl
theorem wd_2_120 : (Jvm.Cond.lays "java/lang/IllegalStateException" "java/lang/Throwable" "depth" "I") ∈ WS := ws_2 120 rfl rfl
theorem wd_2_122 : (Jvm.Cond.methodLink "TradeLogs" (38 : Nat) ({ cls := "TradeLogs$UndoStack", name := "save", desc := "(LTradeLogs$State;)V" } : Jvm.MethodName)) ∈ WS := ws_2 122 rfl rfl
theorem wd_2_123 : (Jvm.Cond.instanceMethod ({ cls := "TradeLogs$UndoStack", name := "save", desc := "(LTradeLogs$State;)V" } : Jvm.MethodName)) ∈ WS := ws_2 123 rfl rfl
theorem wd_2_124 : (Jvm.Cond.selects "TradeLogs$UndoStack" ({ cls := "TradeLogs$UndoStack", name := "save", desc := "(LTradeLogs$State;)V" } : Jvm.MethodName) ({ cls := "TradeLogs$UndoStack", name := "save", desc := "(LTradeLogs$State;)V" } : Jvm.MethodName)) ∈ WS := ws_2 124 rfl rfl
theorem wd_2_125 : (Jvm.Cond.code ({ cls := "TradeLogs$UndoStack", name := "save", desc := "(LTradeLogs$State;)V" } : Jvm.MethodName) prog_10_method_2_code (2 : Nat) (Option.none : Option Jvm.ClassFile.FieldType)) ∈ WS := ws_2 125 rfl rfl
theorem wd_2_126 : (Jvm.Cond.methodLink "TradeLogs$UndoStack" (25 : Nat) ({ cls := "TradeLogs$State", name := "copyState", desc := "(LTradeLogs$State;)V" } : Jvm.MethodName)) ∈ WS := ws_2 126 rfl rfl
theorem wd_2_127 : (Jvm.Cond.instanceMethod ({ cls := "TradeLogs$State", name := "copyState", desc := "(LTradeLogs$State;)V" } : Jvm.MethodName)) ∈ WS := ws_2 127 rfl rfl
theorem wd_2_128 : (Jvm.Cond.selects "TradeLogs$State" ({ cls := "TradeLogs$State", name := "copyState", desc := "(LTradeLogs$State;)V" } : Jvm.MethodName) ({ cls := "TradeLogs$State", name := "copyState", desc := "(LTradeLogs$State;)V" } : Jvm.MethodName)) ∈ WS := ws_2 128 rfl rfl
theorem wd_2_129 : (Jvm.Cond.code ({ cls := "TradeLogs$State", name := "copyState", desc := "(LTradeLogs$State;)V" } : Jvm.MethodName) prog_9_method_2_code (3 : Nat) (Option.none : Option Jvm.ClassFile.FieldType)) ∈ WS := ws_2 129 rfl rfl
theorem wd_2_130 : (Jvm.Cond.methodLink "TradeLogs$State" (51 : Nat) ({ cls := "java/lang/System", name := "arraycopy", desc := "(Ljava/lang/Object;ILjava/lang/Object;II)V" } : Jvm.MethodName)) ∈ WS := ws_2 130 rfl rfl
theorem wd_2_131 : (Jvm.Cond.static ({ cls := "java/lang/System", name := "arraycopy", desc := "(Ljava/lang/Object;ILjava/lang/Object;II)V" } : Jvm.MethodName)) ∈ WS := ws_2 131 rfl rfl
theorem wd_2_132 : (Jvm.Cond.native ({ cls := "java/lang/System", name := "arraycopy", desc := "(Ljava/lang/Object;ILjava/lang/Object;II)V" } : Jvm.MethodName)) ∈ WS := ws_2 132 rfl rfl
theorem wd_2_133 : (Jvm.Cond.methodLink "TradeLogs$State" (57 : Nat) ({ cls := "TradeLogs$Mentor", name := "copyMentor", desc := "(LTradeLogs$Mentor;)V" } : Jvm.MethodName)) ∈ WS := ws_2 133 rfl rfl
theorem wd_2_134 : (Jvm.Cond.instanceMethod ({ cls := "TradeLogs$Mentor", name := "copyMentor", desc := "(LTradeLogs$Mentor;)V" } : Jvm.MethodName)) ∈ WS := ws_2 134 rfl rfl
theorem wd_2_135 : (Jvm.Cond.selects "TradeLogs$Mentor" ({ cls := "TradeLogs$Mentor", name := "copyMentor", desc := "(LTradeLogs$Mentor;)V" } : Jvm.MethodName) ({ cls := "TradeLogs$Mentor", name := "copyMentor", desc := "(LTradeLogs$Mentor;)V" } : Jvm.MethodName)) ∈ WS := ws_2 135 rfl rfl
theorem wd_2_136 : (Jvm.Cond.code ({ cls := "TradeLogs$Mentor", name := "copyMentor", desc := "(LTradeLogs$Mentor;)V" } : Jvm.MethodName) prog_8_method_3_code (2 : Nat) (Option.none : Option Jvm.ClassFile.FieldType)) ∈ WS := ws_2 136 rfl rfl
theorem wd_2_137 : (Jvm.Cond.methodLink "TradeLogs$State" (61 : Nat) ({ cls := "TradeLogs$Apprentice", name := "copyApprentice", desc := "(LTradeLogs$Apprentice;)V" } : Jvm.MethodName)) ∈ WS := ws_2 137 rfl rfl
theorem wd_2_138 : (Jvm.Cond.instanceMethod ({ cls := "TradeLogs$Apprentice", name := "copyApprentice", desc := "(LTradeLogs$Apprentice;)V" } : Jvm.MethodName)) ∈ WS := ws_2 138 rfl rfl
theorem wd_2_139 : (Jvm.Cond.selects "TradeLogs$Apprentice" ({ cls := "TradeLogs$Apprentice", name := "copyApprentice", desc := "(LTradeLogs$Apprentice;)V" } : Jvm.MethodName) ({ cls := "TradeLogs$Apprentice", name := "copyApprentice", desc := "(LTradeLogs$Apprentice;)V" } : Jvm.MethodName)) ∈ WS := ws_2 139 rfl rfl
theorem wd_2_140 : (Jvm.Cond.code ({ cls := "TradeLogs$Apprentice", name := "copyApprentice", desc := "(LTradeLogs$Apprentice;)V" } : Jvm.MethodName) prog_3_method_14_code (2 : Nat) (Option.none : Option Jvm.ClassFile.FieldType)) ∈ WS := ws_2 140 rfl rfl
theorem wd_2_141 : (Jvm.Cond.methodLink "TradeLogs$Apprentice" (103 : Nat) ({ cls := "java/lang/System", name := "arraycopy", desc := "(Ljava/lang/Object;ILjava/lang/Object;II)V" } : Jvm.MethodName)) ∈ WS := ws_2 141 rfl rfl
theorem wd_2_142 : (Jvm.Cond.methodLink "TradeLogs$Apprentice" (109 : Nat) ({ cls := "TradeLogs$EntryQueue", name := "copyEntries", desc := "(LTradeLogs$EntryQueue;)V" } : Jvm.MethodName)) ∈ WS := ws_2 142 rfl rfl
theorem wd_2_143 : (Jvm.Cond.instanceMethod ({ cls := "TradeLogs$EntryQueue", name := "copyEntries", desc := "(LTradeLogs$EntryQueue;)V" } : Jvm.MethodName)) ∈ WS := ws_2 143 rfl rfl
theorem wd_2_144 : (Jvm.Cond.selects "TradeLogs$EntryQueue" ({ cls := "TradeLogs$EntryQueue", name := "copyEntries", desc := "(LTradeLogs$EntryQueue;)V" } : Jvm.MethodName) ({ cls := "TradeLogs$EntryQueue", name := "copyEntries", desc := "(LTradeLogs$EntryQueue;)V" } : Jvm.MethodName)) ∈ WS := ws_2 144 rfl rfl
theorem wd_2_145 : (Jvm.Cond.code ({ cls := "TradeLogs$EntryQueue", name := "copyEntries", desc := "(LTradeLogs$EntryQueue;)V" } : Jvm.MethodName) prog_7_method_9_code (3 : Nat) (Option.none : Option Jvm.ClassFile.FieldType)) ∈ WS := ws_2 145 rfl rfl
theorem wd_2_146 : (Jvm.Cond.methodLink "TradeLogs$EntryQueue" (20 : Nat) ({ cls := "java/lang/System", name := "arraycopy", desc := "(Ljava/lang/Object;ILjava/lang/Object;II)V" } : Jvm.MethodName)) ∈ WS := ws_2 146 rfl rfl
theorem wd_2_147 : (Jvm.Cond.methodLink "TradeLogs$Apprentice" (113 : Nat) ({ cls := "TradeLogs$DaySet", name := "copyDays", desc := "(LTradeLogs$DaySet;)V" } : Jvm.MethodName)) ∈ WS := ws_2 147 rfl rfl
theorem wd_2_148 : (Jvm.Cond.instanceMethod ({ cls := "TradeLogs$DaySet", name := "copyDays", desc := "(LTradeLogs$DaySet;)V" } : Jvm.MethodName)) ∈ WS := ws_2 148 rfl rfl
theorem wd_2_149 : (Jvm.Cond.selects "TradeLogs$DaySet" ({ cls := "TradeLogs$DaySet", name := "copyDays", desc := "(LTradeLogs$DaySet;)V" } : Jvm.MethodName) ({ cls := "TradeLogs$DaySet", name := "copyDays", desc := "(LTradeLogs$DaySet;)V" } : Jvm.MethodName)) ∈ WS := ws_2 149 rfl rfl
theorem wd_2_150 : (Jvm.Cond.code ({ cls := "TradeLogs$DaySet", name := "copyDays", desc := "(LTradeLogs$DaySet;)V" } : Jvm.MethodName) prog_6_method_6_code (2 : Nat) (Option.none : Option Jvm.ClassFile.FieldType)) ∈ WS := ws_2 150 rfl rfl
theorem wd_2_151 : (Jvm.Cond.methodLink "TradeLogs$DaySet" (29 : Nat) ({ cls := "java/lang/System", name := "arraycopy", desc := "(Ljava/lang/Object;ILjava/lang/Object;II)V" } : Jvm.MethodName)) ∈ WS := ws_2 151 rfl rfl
theorem wd_2_152 : (Jvm.Cond.methodLink "TradeLogs" (42 : Nat) ({ cls := "TradeLogs$State", name := "putTrade", desc := "(III)I" } : Jvm.MethodName)) ∈ WS := ws_2 152 rfl rfl
theorem wd_2_153 : (Jvm.Cond.instanceMethod ({ cls := "TradeLogs$State", name := "putTrade", desc := "(III)I" } : Jvm.MethodName)) ∈ WS := ws_2 153 rfl rfl
theorem wd_2_154 : (Jvm.Cond.selects "TradeLogs$State" ({ cls := "TradeLogs$State", name := "putTrade", desc := "(III)I" } : Jvm.MethodName) ({ cls := "TradeLogs$State", name := "putTrade", desc := "(III)I" } : Jvm.MethodName)) ∈ WS := ws_2 154 rfl rfl
theorem wd_2_155 : (Jvm.Cond.code ({ cls := "TradeLogs$State", name := "putTrade", desc := "(III)I" } : Jvm.MethodName) prog_9_method_23_code (4 : Nat) (Option.some Jvm.ClassFile.FieldType.int)) ∈ WS := ws_2 155 rfl rfl
theorem wd_2_156 : (Jvm.Cond.constant "TradeLogsLaw" (17 : Nat) (-900000001 : Int32)) ∈ WS := ws_2 156 rfl rfl
theorem wd_2_157 : (Jvm.Cond.constant "TradeLogsLaw" (20 : Nat) (-900000002 : Int32)) ∈ WS := ws_2 157 rfl rfl
theorem wd_2_158 : (Jvm.Cond.methodLink "TradeLogsLaw" (199 : Nat) ({ cls := "TradeLogsLaw", name := "ends", desc := "(LTradeLogs;)I" } : Jvm.MethodName)) ∈ WS := ws_2 158 rfl rfl
theorem wd_2_159 : (Jvm.Cond.static ({ cls := "TradeLogsLaw", name := "ends", desc := "(LTradeLogs;)I" } : Jvm.MethodName)) ∈ WS := ws_2 159 rfl rfl
theorem wd_2_161 : (Jvm.Cond.methodLink "TradeLogsLaw" (51 : Nat) ({ cls := "TradeLogs", name := "endDay", desc := "()I" } : Jvm.MethodName)) ∈ WS := ws_2 161 rfl rfl
theorem wd_2_162 : (Jvm.Cond.instanceMethod ({ cls := "TradeLogs", name := "endDay", desc := "()I" } : Jvm.MethodName)) ∈ WS := ws_2 162 rfl rfl
theorem wd_2_163 : (Jvm.Cond.selects "TradeLogs" ({ cls := "TradeLogs", name := "endDay", desc := "()I" } : Jvm.MethodName) ({ cls := "TradeLogs", name := "endDay", desc := "()I" } : Jvm.MethodName)) ∈ WS := ws_2 163 rfl rfl
theorem wd_2_164 : (Jvm.Cond.code ({ cls := "TradeLogs", name := "endDay", desc := "()I" } : Jvm.MethodName) prog_1_method_11_code (1 : Nat) (Option.some Jvm.ClassFile.FieldType.int)) ∈ WS := ws_2 164 rfl rfl
theorem wd_2_165 : (Jvm.Cond.methodLink "TradeLogs" (96 : Nat) ({ cls := "TradeLogs", name := "faultOfDays", desc := "(I)I" } : Jvm.MethodName)) ∈ WS := ws_2 165 rfl rfl
theorem wd_2_167 : (Jvm.Cond.instanceMethod ({ cls := "TradeLogs", name := "faultOfDays", desc := "(I)I" } : Jvm.MethodName)) ∈ WS := ws_2 167 rfl rfl
theorem wd_2_168 : (Jvm.Cond.code ({ cls := "TradeLogs", name := "faultOfDays", desc := "(I)I" } : Jvm.MethodName) prog_1_method_46_code (2 : Nat) (Option.some Jvm.ClassFile.FieldType.int)) ∈ WS := ws_2 168 rfl rfl
theorem wd_2_169 : (Jvm.Cond.methodLink "TradeLogs" (99 : Nat) ({ cls := "TradeLogs$State", name := "passDays", desc := "(I)I" } : Jvm.MethodName)) ∈ WS := ws_2 169 rfl rfl
theorem wd_2_170 : (Jvm.Cond.instanceMethod ({ cls := "TradeLogs$State", name := "passDays", desc := "(I)I" } : Jvm.MethodName)) ∈ WS := ws_2 170 rfl rfl
theorem wd_2_171 : (Jvm.Cond.selects "TradeLogs$State" ({ cls := "TradeLogs$State", name := "passDays", desc := "(I)I" } : Jvm.MethodName) ({ cls := "TradeLogs$State", name := "passDays", desc := "(I)I" } : Jvm.MethodName)) ∈ WS := ws_2 171 rfl rfl
theorem wd_2_172 : (Jvm.Cond.code ({ cls := "TradeLogs$State", name := "passDays", desc := "(I)I" } : Jvm.MethodName) prog_9_method_32_code (5 : Nat) (Option.some Jvm.ClassFile.FieldType.int)) ∈ WS := ws_2 172 rfl rfl
theorem wd_2_173 : (Jvm.Cond.methodLink "TradeLogs$State" (193 : Nat) ({ cls := "TradeLogs$Apprentice", name := "doubtUntil", desc := "(I)I" } : Jvm.MethodName)) ∈ WS := ws_2 173 rfl rfl
theorem wd_2_174 : (Jvm.Cond.instanceMethod ({ cls := "TradeLogs$Apprentice", name := "doubtUntil", desc := "(I)I" } : Jvm.MethodName)) ∈ WS := ws_2 174 rfl rfl
theorem wd_2_175 : (Jvm.Cond.selects "TradeLogs$Apprentice" ({ cls := "TradeLogs$Apprentice", name := "doubtUntil", desc := "(I)I" } : Jvm.MethodName) ({ cls := "TradeLogs$Apprentice", name := "doubtUntil", desc := "(I)I" } : Jvm.MethodName)) ∈ WS := ws_2 175 rfl rfl
theorem wd_2_176 : (Jvm.Cond.code ({ cls := "TradeLogs$Apprentice", name := "doubtUntil", desc := "(I)I" } : Jvm.MethodName) prog_3_method_11_code (5 : Nat) (Option.some Jvm.ClassFile.FieldType.int)) ∈ WS := ws_2 176 rfl rfl
theorem wd_2_177 : (Jvm.Cond.methodLink "TradeLogs$Apprentice" (86 : Nat) ({ cls := "TradeLogs$EntryQueue", name := "valueAt", desc := "(II)I" } : Jvm.MethodName)) ∈ WS := ws_2 177 rfl rfl
theorem wd_2_178 : (Jvm.Cond.instanceMethod ({ cls := "TradeLogs$EntryQueue", name := "valueAt", desc := "(II)I" } : Jvm.MethodName)) ∈ WS := ws_2 178 rfl rfl
theorem wd_2_179 : (Jvm.Cond.selects "TradeLogs$EntryQueue" ({ cls := "TradeLogs$EntryQueue", name := "valueAt", desc := "(II)I" } : Jvm.MethodName) ({ cls := "TradeLogs$EntryQueue", name := "valueAt", desc := "(II)I" } : Jvm.MethodName)) ∈ WS := ws_2 179 rfl rfl
theorem wd_2_180 : (Jvm.Cond.code ({ cls := "TradeLogs$EntryQueue", name := "valueAt", desc := "(II)I" } : Jvm.MethodName) prog_7_method_2_code (4 : Nat) (Option.some Jvm.ClassFile.FieldType.int)) ∈ WS := ws_2 180 rfl rfl
theorem wd_2_181 : (Jvm.Cond.methodLink "TradeLogs$Apprentice" (97 : Nat) ({ cls := "TradeLogs$Apprentice", name := "doubtAt", desc := "(I)V" } : Jvm.MethodName)) ∈ WS := ws_2 181 rfl rfl
theorem wd_2_182 : (Jvm.Cond.instanceMethod ({ cls := "TradeLogs$Apprentice", name := "doubtAt", desc := "(I)V" } : Jvm.MethodName)) ∈ WS := ws_2 182 rfl rfl
theorem wd_2_183 : (Jvm.Cond.selects "TradeLogs$Apprentice" ({ cls := "TradeLogs$Apprentice", name := "doubtAt", desc := "(I)V" } : Jvm.MethodName) ({ cls := "TradeLogs$Apprentice", name := "doubtAt", desc := "(I)V" } : Jvm.MethodName)) ∈ WS := ws_2 183 rfl rfl
theorem wd_2_184 : (Jvm.Cond.code ({ cls := "TradeLogs$Apprentice", name := "doubtAt", desc := "(I)V" } : Jvm.MethodName) prog_3_method_10_code (2 : Nat) (Option.none : Option Jvm.ClassFile.FieldType)) ∈ WS := ws_2 184 rfl rfl
theorem wd_2_185 : (Jvm.Cond.methodLink "TradeLogs$Apprentice" (74 : Nat) ({ cls := "TradeLogs$EntryQueue", name := "append", desc := "(IIII)V" } : Jvm.MethodName)) ∈ WS := ws_2 185 rfl rfl
theorem wd_2_186 : (Jvm.Cond.instanceMethod ({ cls := "TradeLogs$EntryQueue", name := "append", desc := "(IIII)V" } : Jvm.MethodName)) ∈ WS := ws_2 186 rfl rfl
theorem wd_2_187 : (Jvm.Cond.selects "TradeLogs$EntryQueue" ({ cls := "TradeLogs$EntryQueue", name := "append", desc := "(IIII)V" } : Jvm.MethodName) ({ cls := "TradeLogs$EntryQueue", name := "append", desc := "(IIII)V" } : Jvm.MethodName)) ∈ WS := ws_2 187 rfl rfl
theorem wd_2_188 : (Jvm.Cond.code ({ cls := "TradeLogs$EntryQueue", name := "append", desc := "(IIII)V" } : Jvm.MethodName) prog_7_method_3_code (5 : Nat) (Option.none : Option Jvm.ClassFile.FieldType)) ∈ WS := ws_2 188 rfl rfl
theorem wd_2_189 : (Jvm.Cond.methodLink "TradeLogs$Apprentice" (94 : Nat) ({ cls := "TradeLogs$EntryQueue", name := "removeAt", desc := "(I)V" } : Jvm.MethodName)) ∈ WS := ws_2 189 rfl rfl
theorem wd_2_190 : (Jvm.Cond.instanceMethod ({ cls := "TradeLogs$EntryQueue", name := "removeAt", desc := "(I)V" } : Jvm.MethodName)) ∈ WS := ws_2 190 rfl rfl
theorem wd_2_191 : (Jvm.Cond.selects "TradeLogs$EntryQueue" ({ cls := "TradeLogs$EntryQueue", name := "removeAt", desc := "(I)V" } : Jvm.MethodName) ({ cls := "TradeLogs$EntryQueue", name := "removeAt", desc := "(I)V" } : Jvm.MethodName)) ∈ WS := ws_2 191 rfl rfl
theorem wd_2_192 : (Jvm.Cond.code ({ cls := "TradeLogs$EntryQueue", name := "removeAt", desc := "(I)V" } : Jvm.MethodName) prog_7_method_4_code (3 : Nat) (Option.none : Option Jvm.ClassFile.FieldType)) ∈ WS := ws_2 192 rfl rfl
theorem wd_2_193 : (Jvm.Cond.methodLink "TradeLogsLaw" (192 : Nat) ({ cls := "TradeLogsLaw", name := "back", desc := "(LTradeLogs;)I" } : Jvm.MethodName)) ∈ WS := ws_2 193 rfl rfl
theorem wd_2_194 : (Jvm.Cond.static ({ cls := "TradeLogsLaw", name := "back", desc := "(LTradeLogs;)I" } : Jvm.MethodName)) ∈ WS := ws_2 194 rfl rfl
theorem wd_2_196 : (Jvm.Cond.methodLink "TradeLogsLaw" (98 : Nat) ({ cls := "TradeLogs", name := "undo", desc := "()I" } : Jvm.MethodName)) ∈ WS := ws_2 196 rfl rfl
theorem wd_2_197 : (Jvm.Cond.instanceMethod ({ cls := "TradeLogs", name := "undo", desc := "()I" } : Jvm.MethodName)) ∈ WS := ws_2 197 rfl rfl
theorem wd_2_198 : (Jvm.Cond.selects "TradeLogs" ({ cls := "TradeLogs", name := "undo", desc := "()I" } : Jvm.MethodName) ({ cls := "TradeLogs", name := "undo", desc := "()I" } : Jvm.MethodName)) ∈ WS := ws_2 198 rfl rfl
theorem wd_2_199 : (Jvm.Cond.code ({ cls := "TradeLogs", name := "undo", desc := "()I" } : Jvm.MethodName) prog_1_method_28_code (1 : Nat) (Option.some Jvm.ClassFile.FieldType.int)) ∈ WS := ws_2 199 rfl rfl
theorem wd_2_200 : (Jvm.Cond.methodLink "TradeLogs" (198 : Nat) ({ cls := "TradeLogs$UndoStack", name := "restore", desc := "(LTradeLogs$State;)I" } : Jvm.MethodName)) ∈ WS := ws_2 200 rfl rfl
theorem wd_2_201 : (Jvm.Cond.instanceMethod ({ cls := "TradeLogs$UndoStack", name := "restore", desc := "(LTradeLogs$State;)I" } : Jvm.MethodName)) ∈ WS := ws_2 201 rfl rfl
theorem wd_2_202 : (Jvm.Cond.selects "TradeLogs$UndoStack" ({ cls := "TradeLogs$UndoStack", name := "restore", desc := "(LTradeLogs$State;)I" } : Jvm.MethodName) ({ cls := "TradeLogs$UndoStack", name := "restore", desc := "(LTradeLogs$State;)I" } : Jvm.MethodName)) ∈ WS := ws_2 202 rfl rfl
theorem wd_2_203 : (Jvm.Cond.code ({ cls := "TradeLogs$UndoStack", name := "restore", desc := "(LTradeLogs$State;)I" } : Jvm.MethodName) prog_10_method_3_code (2 : Nat) (Option.some Jvm.ClassFile.FieldType.int)) ∈ WS := ws_2 203 rfl rfl
theorem wd_2_204 : (Jvm.Cond.methodLink "TradeLogsLaw" (125 : Nat) ({ cls := "TradeLogsLaw", name := "sum", desc := "(LTradeLogs;)J" } : Jvm.MethodName)) ∈ WS := ws_2 204 rfl rfl
theorem wd_2_205 : (Jvm.Cond.static ({ cls := "TradeLogsLaw", name := "sum", desc := "(LTradeLogs;)J" } : Jvm.MethodName)) ∈ WS := ws_2 205 rfl rfl
theorem wd_2_206 : (Jvm.Cond.code ({ cls := "TradeLogsLaw", name := "sum", desc := "(LTradeLogs;)J" } : Jvm.MethodName) method_29_code (5 : Nat) (Option.some Jvm.ClassFile.FieldType.long)) ∈ WS := ws_2 206 rfl rfl
theorem wd_2_207 : (Jvm.Cond.constantLong "TradeLogsLaw" (101 : Nat) (17 : Int64)) ∈ WS := ws_2 207 rfl rfl
theorem wd_2_208 : (Jvm.Cond.constantLong "TradeLogsLaw" (103 : Nat) (31 : Int64)) ∈ WS := ws_2 208 rfl rfl
theorem wd_2_209 : (Jvm.Cond.methodLink "TradeLogsLaw" (105 : Nat) ({ cls := "TradeLogsLaw", name := "whole", desc := "(LTradeLogs;I)I" } : Jvm.MethodName)) ∈ WS := ws_2 209 rfl rfl
theorem wd_2_210 : (Jvm.Cond.static ({ cls := "TradeLogsLaw", name := "whole", desc := "(LTradeLogs;I)I" } : Jvm.MethodName)) ∈ WS := ws_2 210 rfl rfl
theorem wd_2_212 : (Jvm.Cond.methodLink "TradeLogsLaw" (80 : Nat) ({ cls := "TradeLogs", name := "whole", desc := "(I)I" } : Jvm.MethodName)) ∈ WS := ws_2 212 rfl rfl
theorem wd_2_213 : (Jvm.Cond.instanceMethod ({ cls := "TradeLogs", name := "whole", desc := "(I)I" } : Jvm.MethodName)) ∈ WS := ws_2 213 rfl rfl
theorem wd_2_214 : (Jvm.Cond.selects "TradeLogs" ({ cls := "TradeLogs", name := "whole", desc := "(I)I" } : Jvm.MethodName) ({ cls := "TradeLogs", name := "whole", desc := "(I)I" } : Jvm.MethodName)) ∈ WS := ws_2 214 rfl rfl
theorem wd_2_215 : (Jvm.Cond.code ({ cls := "TradeLogs", name := "whole", desc := "(I)I" } : Jvm.MethodName) prog_1_method_20_code (2 : Nat) (Option.some Jvm.ClassFile.FieldType.int)) ∈ WS := ws_2 215 rfl rfl
theorem wd_2_216 : (Jvm.Cond.methodLink "TradeLogs" (153 : Nat) ({ cls := "TradeLogs", name := "valueOfWhole", desc := "(I)I" } : Jvm.MethodName)) ∈ WS := ws_2 216 rfl rfl
theorem wd_2_218 : (Jvm.Cond.instanceMethod ({ cls := "TradeLogs", name := "valueOfWhole", desc := "(I)I" } : Jvm.MethodName)) ∈ WS := ws_2 218 rfl rfl
theorem wd_2_219 : (Jvm.Cond.code ({ cls := "TradeLogs", name := "valueOfWhole", desc := "(I)I" } : Jvm.MethodName) prog_1_method_33_code (2 : Nat) (Option.some Jvm.ClassFile.FieldType.int)) ∈ WS := ws_2 219 rfl rfl
theorem wd_2_220 : (Jvm.Cond.methodLink "TradeLogs" (226 : Nat) ({ cls := "TradeLogs$State", name := "wholeValue", desc := "(I)I" } : Jvm.MethodName)) ∈ WS := ws_2 220 rfl rfl
theorem wd_2_221 : (Jvm.Cond.instanceMethod ({ cls := "TradeLogs$State", name := "wholeValue", desc := "(I)I" } : Jvm.MethodName)) ∈ WS := ws_2 221 rfl rfl
theorem wd_2_222 : (Jvm.Cond.selects "TradeLogs$State" ({ cls := "TradeLogs$State", name := "wholeValue", desc := "(I)I" } : Jvm.MethodName) ({ cls := "TradeLogs$State", name := "wholeValue", desc := "(I)I" } : Jvm.MethodName)) ∈ WS := ws_2 222 rfl rfl
theorem wd_2_223 : (Jvm.Cond.code ({ cls := "TradeLogs$State", name := "wholeValue", desc := "(I)I" } : Jvm.MethodName) prog_9_method_41_code (2 : Nat) (Option.some Jvm.ClassFile.FieldType.int)) ∈ WS := ws_2 223 rfl rfl
theorem wd_2_224 : (Jvm.Cond.methodLink "TradeLogs$State" (82 : Nat) ({ cls := "TradeLogs$State", name := "apprenticesOf", desc := "(I)I" } : Jvm.MethodName)) ∈ WS := ws_2 224 rfl rfl
theorem wd_2_225 : (Jvm.Cond.instanceMethod ({ cls := "TradeLogs$State", name := "apprenticesOf", desc := "(I)I" } : Jvm.MethodName)) ∈ WS := ws_2 225 rfl rfl
theorem wd_2_226 : (Jvm.Cond.selects "TradeLogs$State" ({ cls := "TradeLogs$State", name := "apprenticesOf", desc := "(I)I" } : Jvm.MethodName) ({ cls := "TradeLogs$State", name := "apprenticesOf", desc := "(I)I" } : Jvm.MethodName)) ∈ WS := ws_2 226 rfl rfl
theorem wd_2_227 : (Jvm.Cond.code ({ cls := "TradeLogs$State", name := "apprenticesOf", desc := "(I)I" } : Jvm.MethodName) prog_9_method_9_code (4 : Nat) (Option.some Jvm.ClassFile.FieldType.int)) ∈ WS := ws_2 227 rfl rfl
theorem wd_2_228 : (Jvm.Cond.methodLink "TradeLogs$State" (222 : Nat) ({ cls := "TradeLogs$State", name := "sumOfApprentices", desc := "(I)I" } : Jvm.MethodName)) ∈ WS := ws_2 228 rfl rfl
theorem wd_2_230 : (Jvm.Cond.instanceMethod ({ cls := "TradeLogs$State", name := "sumOfApprentices", desc := "(I)I" } : Jvm.MethodName)) ∈ WS := ws_2 230 rfl rfl
theorem wd_2_231 : (Jvm.Cond.code ({ cls := "TradeLogs$State", name := "sumOfApprentices", desc := "(I)I" } : Jvm.MethodName) prog_9_method_42_code (5 : Nat) (Option.some Jvm.ClassFile.FieldType.int)) ∈ WS := ws_2 231 rfl rfl
theorem wd_2_232 : (Jvm.Cond.methodLink "TradeLogs$State" (215 : Nat) ({ cls := "TradeLogs$State", name := "isComplete", desc := "(LTradeLogs$Apprentice;)Z" } : Jvm.MethodName)) ∈ WS := ws_2 232 rfl rfl
theorem wd_2_234 : (Jvm.Cond.instanceMethod ({ cls := "TradeLogs$State", name := "isComplete", desc := "(LTradeLogs$Apprentice;)Z" } : Jvm.MethodName)) ∈ WS := ws_2 234 rfl rfl
theorem wd_2_235 : (Jvm.Cond.code ({ cls := "TradeLogs$State", name := "isComplete", desc := "(LTradeLogs$Apprentice;)Z" } : Jvm.MethodName) prog_9_method_16_code (3 : Nat) (Option.some Jvm.ClassFile.FieldType.boolean)) ∈ WS := ws_2 235 rfl rfl
theorem wd_2_236 : (Jvm.Cond.methodLink "TradeLogs$State" (130 : Nat) ({ cls := "TradeLogs$State", name := "missingIn", desc := "(LTradeLogs$Apprentice;I)I" } : Jvm.MethodName)) ∈ WS := ws_2 236 rfl rfl
theorem wd_2_238 : (Jvm.Cond.instanceMethod ({ cls := "TradeLogs$State", name := "missingIn", desc := "(LTradeLogs$Apprentice;I)I" } : Jvm.MethodName)) ∈ WS := ws_2 238 rfl rfl
theorem wd_2_239 : (Jvm.Cond.code ({ cls := "TradeLogs$State", name := "missingIn", desc := "(LTradeLogs$Apprentice;I)I" } : Jvm.MethodName) prog_9_method_15_code (3 : Nat) (Option.some Jvm.ClassFile.FieldType.int)) ∈ WS := ws_2 239 rfl rfl
theorem wd_3_0 : (Jvm.Cond.methodLink "TradeLogs$State" (117 : Nat) ({ cls := "TradeLogs$State", name := "needOf", desc := "(LTradeLogs$Apprentice;I)I" } : Jvm.MethodName)) ∈ WS := ws_3 0 rfl rfl
theorem wd_3_2 : (Jvm.Cond.instanceMethod ({ cls := "TradeLogs$State", name := "needOf", desc := "(LTradeLogs$Apprentice;I)I" } : Jvm.MethodName)) ∈ WS := ws_3 2 rfl rfl
theorem wd_3_3 : (Jvm.Cond.code ({ cls := "TradeLogs$State", name := "needOf", desc := "(LTradeLogs$Apprentice;I)I" } : Jvm.MethodName) prog_9_method_14_code (4 : Nat) (Option.some Jvm.ClassFile.FieldType.int)) ∈ WS := ws_3 3 rfl rfl
theorem wd_3_4 : (Jvm.Cond.methodLink "TradeLogs$State" (121 : Nat) ({ cls := "TradeLogs$Apprentice", name := "doneIn", desc := "(I)I" } : Jvm.MethodName)) ∈ WS := ws_3 4 rfl rfl
theorem wd_3_5 : (Jvm.Cond.instanceMethod ({ cls := "TradeLogs$Apprentice", name := "doneIn", desc := "(I)I" } : Jvm.MethodName)) ∈ WS := ws_3 5 rfl rfl
theorem wd_3_6 : (Jvm.Cond.selects "TradeLogs$Apprentice" ({ cls := "TradeLogs$Apprentice", name := "doneIn", desc := "(I)I" } : Jvm.MethodName) ({ cls := "TradeLogs$Apprentice", name := "doneIn", desc := "(I)I" } : Jvm.MethodName)) ∈ WS := ws_3 6 rfl rfl
theorem wd_3_7 : (Jvm.Cond.code ({ cls := "TradeLogs$Apprentice", name := "doneIn", desc := "(I)I" } : Jvm.MethodName) prog_3_method_3_code (2 : Nat) (Option.some Jvm.ClassFile.FieldType.int)) ∈ WS := ws_3 7 rfl rfl
theorem wd_3_8 : (Jvm.Cond.methodLink "TradeLogs$State" (124 : Nat) ({ cls := "java/lang/Math", name := "max", desc := "(II)I" } : Jvm.MethodName)) ∈ WS := ws_3 8 rfl rfl
theorem wd_3_9 : (Jvm.Cond.static ({ cls := "java/lang/Math", name := "max", desc := "(II)I" } : Jvm.MethodName)) ∈ WS := ws_3 9 rfl rfl
theorem wd_3_10 : (Jvm.Cond.code ({ cls := "java/lang/Math", name := "max", desc := "(II)I" } : Jvm.MethodName) prog_17_method_65_code (2 : Nat) (Option.some Jvm.ClassFile.FieldType.int)) ∈ WS := ws_3 10 rfl rfl
theorem wd_3_11 : (Jvm.Cond.methodLink "TradeLogsLaw" (110 : Nat) ({ cls := "TradeLogsLaw", name := "mentor", desc := "(LTradeLogs;II)I" } : Jvm.MethodName)) ∈ WS := ws_3 11 rfl rfl
theorem wd_3_12 : (Jvm.Cond.static ({ cls := "TradeLogsLaw", name := "mentor", desc := "(LTradeLogs;II)I" } : Jvm.MethodName)) ∈ WS := ws_3 12 rfl rfl
theorem wd_3_14 : (Jvm.Cond.classLink "TradeLogsLaw" (28 : Nat) "java/lang/IndexOutOfBoundsException") ∈ WS := ws_3 14 rfl rfl
theorem wd_3_15 : (Jvm.Cond.methodLink "TradeLogsLaw" (67 : Nat) ({ cls := "TradeLogs", name := "mentor", desc := "(II)I" } : Jvm.MethodName)) ∈ WS := ws_3 15 rfl rfl
theorem wd_3_16 : (Jvm.Cond.instanceMethod ({ cls := "TradeLogs", name := "mentor", desc := "(II)I" } : Jvm.MethodName)) ∈ WS := ws_3 16 rfl rfl
theorem wd_3_17 : (Jvm.Cond.selects "TradeLogs" ({ cls := "TradeLogs", name := "mentor", desc := "(II)I" } : Jvm.MethodName) ({ cls := "TradeLogs", name := "mentor", desc := "(II)I" } : Jvm.MethodName)) ∈ WS := ws_3 17 rfl rfl
theorem wd_3_18 : (Jvm.Cond.code ({ cls := "TradeLogs", name := "mentor", desc := "(II)I" } : Jvm.MethodName) prog_1_method_16_code (3 : Nat) (Option.some Jvm.ClassFile.FieldType.int)) ∈ WS := ws_3 18 rfl rfl
theorem wd_3_19 : (Jvm.Cond.methodLink "TradeLogs" (126 : Nat) ({ cls := "TradeLogs$State", name := "hasMentor", desc := "(I)Z" } : Jvm.MethodName)) ∈ WS := ws_3 19 rfl rfl
theorem wd_3_20 : (Jvm.Cond.instanceMethod ({ cls := "TradeLogs$State", name := "hasMentor", desc := "(I)Z" } : Jvm.MethodName)) ∈ WS := ws_3 20 rfl rfl
theorem wd_3_21 : (Jvm.Cond.selects "TradeLogs$State" ({ cls := "TradeLogs$State", name := "hasMentor", desc := "(I)Z" } : Jvm.MethodName) ({ cls := "TradeLogs$State", name := "hasMentor", desc := "(I)Z" } : Jvm.MethodName)) ∈ WS := ws_3 21 rfl rfl
theorem wd_3_22 : (Jvm.Cond.code ({ cls := "TradeLogs$State", name := "hasMentor", desc := "(I)Z" } : Jvm.MethodName) prog_9_method_4_code (2 : Nat) (Option.some Jvm.ClassFile.FieldType.boolean)) ∈ WS := ws_3 22 rfl rfl
theorem wd_3_23 : (Jvm.Cond.methodLink "TradeLogs" (134 : Nat) ({ cls := "TradeLogs$State", name := "mentorValue", desc := "(II)I" } : Jvm.MethodName)) ∈ WS := ws_3 23 rfl rfl
theorem wd_3_24 : (Jvm.Cond.instanceMethod ({ cls := "TradeLogs$State", name := "mentorValue", desc := "(II)I" } : Jvm.MethodName)) ∈ WS := ws_3 24 rfl rfl
theorem wd_3_25 : (Jvm.Cond.selects "TradeLogs$State" ({ cls := "TradeLogs$State", name := "mentorValue", desc := "(II)I" } : Jvm.MethodName) ({ cls := "TradeLogs$State", name := "mentorValue", desc := "(II)I" } : Jvm.MethodName)) ∈ WS := ws_3 25 rfl rfl
theorem wd_3_26 : (Jvm.Cond.code ({ cls := "TradeLogs$State", name := "mentorValue", desc := "(II)I" } : Jvm.MethodName) prog_9_method_36_code (3 : Nat) (Option.some Jvm.ClassFile.FieldType.int)) ∈ WS := ws_3 26 rfl rfl
theorem wd_3_27 : (Jvm.Cond.methodLink "TradeLogs$State" (72 : Nat) ({ cls := "TradeLogs$State", name := "mentorAt", desc := "(I)LTradeLogs$Mentor;" } : Jvm.MethodName)) ∈ WS := ws_3 27 rfl rfl
theorem wd_3_29 : (Jvm.Cond.instanceMethod ({ cls := "TradeLogs$State", name := "mentorAt", desc := "(I)LTradeLogs$Mentor;" } : Jvm.MethodName)) ∈ WS := ws_3 29 rfl rfl
theorem wd_3_30 : (Jvm.Cond.code ({ cls := "TradeLogs$State", name := "mentorAt", desc := "(I)LTradeLogs$Mentor;" } : Jvm.MethodName) prog_9_method_7_code (2 : Nat) (Option.some (Jvm.ClassFile.FieldType.object "TradeLogs$Mentor"))) ∈ WS := ws_3 30 rfl rfl
theorem wd_3_31 : (Jvm.Cond.methodLink "TradeLogs$State" (69 : Nat) ({ cls := "TradeLogs$State", name := "hasMentor", desc := "(I)Z" } : Jvm.MethodName)) ∈ WS := ws_3 31 rfl rfl
theorem wd_3_32 : (Jvm.Cond.methodLink "TradeLogs$State" (202 : Nat) ({ cls := "TradeLogs$State", name := "pendingWith", desc := "(I)I" } : Jvm.MethodName)) ∈ WS := ws_3 32 rfl rfl
theorem wd_3_34 : (Jvm.Cond.instanceMethod ({ cls := "TradeLogs$State", name := "pendingWith", desc := "(I)I" } : Jvm.MethodName)) ∈ WS := ws_3 34 rfl rfl
theorem wd_3_35 : (Jvm.Cond.code ({ cls := "TradeLogs$State", name := "pendingWith", desc := "(I)I" } : Jvm.MethodName) prog_9_method_37_code (4 : Nat) (Option.some Jvm.ClassFile.FieldType.int)) ∈ WS := ws_3 35 rfl rfl
theorem wd_3_36 : (Jvm.Cond.methodLink "TradeLogs$State" (140 : Nat) ({ cls := "TradeLogs$EntryQueue", name := "countWith", desc := "(I)I" } : Jvm.MethodName)) ∈ WS := ws_3 36 rfl rfl
theorem wd_3_37 : (Jvm.Cond.instanceMethod ({ cls := "TradeLogs$EntryQueue", name := "countWith", desc := "(I)I" } : Jvm.MethodName)) ∈ WS := ws_3 37 rfl rfl
theorem wd_3_38 : (Jvm.Cond.selects "TradeLogs$EntryQueue" ({ cls := "TradeLogs$EntryQueue", name := "countWith", desc := "(I)I" } : Jvm.MethodName) ({ cls := "TradeLogs$EntryQueue", name := "countWith", desc := "(I)I" } : Jvm.MethodName)) ∈ WS := ws_3 38 rfl rfl
theorem wd_3_39 : (Jvm.Cond.code ({ cls := "TradeLogs$EntryQueue", name := "countWith", desc := "(I)I" } : Jvm.MethodName) prog_7_method_7_code (4 : Nat) (Option.some Jvm.ClassFile.FieldType.int)) ∈ WS := ws_3 39 rfl rfl
theorem wd_3_40 : (Jvm.Cond.methodLink "TradeLogs$EntryQueue" (26 : Nat) ({ cls := "TradeLogs$EntryQueue", name := "valueAt", desc := "(II)I" } : Jvm.MethodName)) ∈ WS := ws_3 40 rfl rfl
theorem wd_3_41 : (Jvm.Cond.constant "TradeLogsLaw" (30 : Nat) (-900000003 : Int32)) ∈ WS := ws_3 41 rfl rfl
theorem wd_3_42 : (Jvm.Cond.methodLink "TradeLogsLaw" (113 : Nat) ({ cls := "TradeLogsLaw", name := "one", desc := "(LTradeLogs;II)I" } : Jvm.MethodName)) ∈ WS := ws_3 42 rfl rfl
theorem wd_3_43 : (Jvm.Cond.static ({ cls := "TradeLogsLaw", name := "one", desc := "(LTradeLogs;II)I" } : Jvm.MethodName)) ∈ WS := ws_3 43 rfl rfl
theorem wd_3_45 : (Jvm.Cond.methodLink "TradeLogsLaw" (70 : Nat) ({ cls := "TradeLogs", name := "apprentice", desc := "(II)I" } : Jvm.MethodName)) ∈ WS := ws_3 45 rfl rfl
theorem wd_3_46 : (Jvm.Cond.instanceMethod ({ cls := "TradeLogs", name := "apprentice", desc := "(II)I" } : Jvm.MethodName)) ∈ WS := ws_3 46 rfl rfl
theorem wd_3_47 : (Jvm.Cond.selects "TradeLogs" ({ cls := "TradeLogs", name := "apprentice", desc := "(II)I" } : Jvm.MethodName) ({ cls := "TradeLogs", name := "apprentice", desc := "(II)I" } : Jvm.MethodName)) ∈ WS := ws_3 47 rfl rfl
theorem wd_3_48 : (Jvm.Cond.code ({ cls := "TradeLogs", name := "apprentice", desc := "(II)I" } : Jvm.MethodName) prog_1_method_17_code (3 : Nat) (Option.some Jvm.ClassFile.FieldType.int)) ∈ WS := ws_3 48 rfl rfl
theorem wd_3_49 : (Jvm.Cond.methodLink "TradeLogs" (137 : Nat) ({ cls := "TradeLogs$State", name := "hasApprentice", desc := "(I)Z" } : Jvm.MethodName)) ∈ WS := ws_3 49 rfl rfl
theorem wd_3_50 : (Jvm.Cond.instanceMethod ({ cls := "TradeLogs$State", name := "hasApprentice", desc := "(I)Z" } : Jvm.MethodName)) ∈ WS := ws_3 50 rfl rfl
theorem wd_3_51 : (Jvm.Cond.selects "TradeLogs$State" ({ cls := "TradeLogs$State", name := "hasApprentice", desc := "(I)Z" } : Jvm.MethodName) ({ cls := "TradeLogs$State", name := "hasApprentice", desc := "(I)Z" } : Jvm.MethodName)) ∈ WS := ws_3 51 rfl rfl
theorem wd_3_52 : (Jvm.Cond.code ({ cls := "TradeLogs$State", name := "hasApprentice", desc := "(I)Z" } : Jvm.MethodName) prog_9_method_5_code (2 : Nat) (Option.some Jvm.ClassFile.FieldType.boolean)) ∈ WS := ws_3 52 rfl rfl
theorem wd_3_53 : (Jvm.Cond.methodLink "TradeLogs" (140 : Nat) ({ cls := "TradeLogs$State", name := "apprenticeValue", desc := "(II)I" } : Jvm.MethodName)) ∈ WS := ws_3 53 rfl rfl
theorem wd_3_54 : (Jvm.Cond.instanceMethod ({ cls := "TradeLogs$State", name := "apprenticeValue", desc := "(II)I" } : Jvm.MethodName)) ∈ WS := ws_3 54 rfl rfl
theorem wd_3_55 : (Jvm.Cond.selects "TradeLogs$State" ({ cls := "TradeLogs$State", name := "apprenticeValue", desc := "(II)I" } : Jvm.MethodName) ({ cls := "TradeLogs$State", name := "apprenticeValue", desc := "(II)I" } : Jvm.MethodName)) ∈ WS := ws_3 55 rfl rfl
theorem wd_3_56 : (Jvm.Cond.code ({ cls := "TradeLogs$State", name := "apprenticeValue", desc := "(II)I" } : Jvm.MethodName) prog_9_method_38_code (4 : Nat) (Option.some Jvm.ClassFile.FieldType.int)) ∈ WS := ws_3 56 rfl rfl
theorem wd_3_57 : (Jvm.Cond.methodLink "TradeLogs$State" (89 : Nat) ({ cls := "TradeLogs$State", name := "apprenticeAt", desc := "(I)LTradeLogs$Apprentice;" } : Jvm.MethodName)) ∈ WS := ws_3 57 rfl rfl
theorem wd_3_59 : (Jvm.Cond.instanceMethod ({ cls := "TradeLogs$State", name := "apprenticeAt", desc := "(I)LTradeLogs$Apprentice;" } : Jvm.MethodName)) ∈ WS := ws_3 59 rfl rfl
theorem wd_3_60 : (Jvm.Cond.code ({ cls := "TradeLogs$State", name := "apprenticeAt", desc := "(I)LTradeLogs$Apprentice;" } : Jvm.MethodName) prog_9_method_6_code (2 : Nat) (Option.some (Jvm.ClassFile.FieldType.object "TradeLogs$Apprentice"))) ∈ WS := ws_3 60 rfl rfl
theorem wd_3_61 : (Jvm.Cond.methodLink "TradeLogs$State" (65 : Nat) ({ cls := "TradeLogs$State", name := "hasApprentice", desc := "(I)Z" } : Jvm.MethodName)) ∈ WS := ws_3 61 rfl rfl
theorem wd_3_62 : (Jvm.Cond.methodLink "TradeLogs$State" (205 : Nat) ({ cls := "TradeLogs$EntryQueue", name := "hoursInAll", desc := "()I" } : Jvm.MethodName)) ∈ WS := ws_3 62 rfl rfl
theorem wd_3_63 : (Jvm.Cond.instanceMethod ({ cls := "TradeLogs$EntryQueue", name := "hoursInAll", desc := "()I" } : Jvm.MethodName)) ∈ WS := ws_3 63 rfl rfl
theorem wd_3_64 : (Jvm.Cond.selects "TradeLogs$EntryQueue" ({ cls := "TradeLogs$EntryQueue", name := "hoursInAll", desc := "()I" } : Jvm.MethodName) ({ cls := "TradeLogs$EntryQueue", name := "hoursInAll", desc := "()I" } : Jvm.MethodName)) ∈ WS := ws_3 64 rfl rfl
theorem wd_3_65 : (Jvm.Cond.code ({ cls := "TradeLogs$EntryQueue", name := "hoursInAll", desc := "()I" } : Jvm.MethodName) prog_7_method_5_code (3 : Nat) (Option.some Jvm.ClassFile.FieldType.int)) ∈ WS := ws_3 65 rfl rfl
theorem wd_3_66 : (Jvm.Cond.methodLink "TradeLogsLaw" (116 : Nat) ({ cls := "TradeLogsLaw", name := "part", desc := "(LTradeLogs;III)I" } : Jvm.MethodName)) ∈ WS := ws_3 66 rfl rfl
theorem wd_3_67 : (Jvm.Cond.static ({ cls := "TradeLogsLaw", name := "part", desc := "(LTradeLogs;III)I" } : Jvm.MethodName)) ∈ WS := ws_3 67 rfl rfl
theorem wd_3_69 : (Jvm.Cond.methodLink "TradeLogsLaw" (73 : Nat) ({ cls := "TradeLogs", name := "part", desc := "(III)I" } : Jvm.MethodName)) ∈ WS := ws_3 69 rfl rfl
theorem wd_3_70 : (Jvm.Cond.instanceMethod ({ cls := "TradeLogs", name := "part", desc := "(III)I" } : Jvm.MethodName)) ∈ WS := ws_3 70 rfl rfl
theorem wd_3_71 : (Jvm.Cond.selects "TradeLogs" ({ cls := "TradeLogs", name := "part", desc := "(III)I" } : Jvm.MethodName) ({ cls := "TradeLogs", name := "part", desc := "(III)I" } : Jvm.MethodName)) ∈ WS := ws_3 71 rfl rfl
theorem wd_3_72 : (Jvm.Cond.code ({ cls := "TradeLogs", name := "part", desc := "(III)I" } : Jvm.MethodName) prog_1_method_18_code (4 : Nat) (Option.some Jvm.ClassFile.FieldType.int)) ∈ WS := ws_3 72 rfl rfl
theorem wd_3_73 : (Jvm.Cond.methodLink "TradeLogs" (143 : Nat) ({ cls := "TradeLogs", name := "isPart", desc := "(I)Z" } : Jvm.MethodName)) ∈ WS := ws_3 73 rfl rfl
theorem wd_3_74 : (Jvm.Cond.static ({ cls := "TradeLogs", name := "isPart", desc := "(I)Z" } : Jvm.MethodName)) ∈ WS := ws_3 74 rfl rfl
theorem wd_3_75 : (Jvm.Cond.code ({ cls := "TradeLogs", name := "isPart", desc := "(I)Z" } : Jvm.MethodName) prog_1_method_36_code (1 : Nat) (Option.some Jvm.ClassFile.FieldType.boolean)) ∈ WS := ws_3 75 rfl rfl
theorem wd_3_76 : (Jvm.Cond.methodLink "TradeLogs" (146 : Nat) ({ cls := "TradeLogs$State", name := "partValue", desc := "(III)I" } : Jvm.MethodName)) ∈ WS := ws_3 76 rfl rfl
theorem wd_3_77 : (Jvm.Cond.instanceMethod ({ cls := "TradeLogs$State", name := "partValue", desc := "(III)I" } : Jvm.MethodName)) ∈ WS := ws_3 77 rfl rfl
theorem wd_3_78 : (Jvm.Cond.selects "TradeLogs$State" ({ cls := "TradeLogs$State", name := "partValue", desc := "(III)I" } : Jvm.MethodName) ({ cls := "TradeLogs$State", name := "partValue", desc := "(III)I" } : Jvm.MethodName)) ∈ WS := ws_3 78 rfl rfl
theorem wd_3_79 : (Jvm.Cond.code ({ cls := "TradeLogs$State", name := "partValue", desc := "(III)I" } : Jvm.MethodName) prog_9_method_39_code (5 : Nat) (Option.some Jvm.ClassFile.FieldType.int)) ∈ WS := ws_3 79 rfl rfl
theorem wd_3_80 : (Jvm.Cond.methodLink "TradeLogs$State" (219 : Nat) ({ cls := "TradeLogs$EntryQueue", name := "hoursOfPart", desc := "(I)I" } : Jvm.MethodName)) ∈ WS := ws_3 80 rfl rfl
theorem wd_3_81 : (Jvm.Cond.instanceMethod ({ cls := "TradeLogs$EntryQueue", name := "hoursOfPart", desc := "(I)I" } : Jvm.MethodName)) ∈ WS := ws_3 81 rfl rfl
theorem wd_3_82 : (Jvm.Cond.selects "TradeLogs$EntryQueue" ({ cls := "TradeLogs$EntryQueue", name := "hoursOfPart", desc := "(I)I" } : Jvm.MethodName) ({ cls := "TradeLogs$EntryQueue", name := "hoursOfPart", desc := "(I)I" } : Jvm.MethodName)) ∈ WS := ws_3 82 rfl rfl
theorem wd_3_83 : (Jvm.Cond.code ({ cls := "TradeLogs$EntryQueue", name := "hoursOfPart", desc := "(I)I" } : Jvm.MethodName) prog_7_method_6_code (4 : Nat) (Option.some Jvm.ClassFile.FieldType.int)) ∈ WS := ws_3 83 rfl rfl
theorem wd_3_84 : (Jvm.Cond.methodLink "TradeLogsLaw" (119 : Nat) ({ cls := "TradeLogsLaw", name := "entry", desc := "(LTradeLogs;IZII)I" } : Jvm.MethodName)) ∈ WS := ws_3 84 rfl rfl
theorem wd_3_85 : (Jvm.Cond.static ({ cls := "TradeLogsLaw", name := "entry", desc := "(LTradeLogs;IZII)I" } : Jvm.MethodName)) ∈ WS := ws_3 85 rfl rfl
theorem wd_3_87 : (Jvm.Cond.methodLink "TradeLogsLaw" (76 : Nat) ({ cls := "TradeLogs", name := "entry", desc := "(IZII)I" } : Jvm.MethodName)) ∈ WS := ws_3 87 rfl rfl
theorem wd_3_88 : (Jvm.Cond.instanceMethod ({ cls := "TradeLogs", name := "entry", desc := "(IZII)I" } : Jvm.MethodName)) ∈ WS := ws_3 88 rfl rfl
theorem wd_3_89 : (Jvm.Cond.selects "TradeLogs" ({ cls := "TradeLogs", name := "entry", desc := "(IZII)I" } : Jvm.MethodName) ({ cls := "TradeLogs", name := "entry", desc := "(IZII)I" } : Jvm.MethodName)) ∈ WS := ws_3 89 rfl rfl
theorem wd_3_90 : (Jvm.Cond.code ({ cls := "TradeLogs", name := "entry", desc := "(IZII)I" } : Jvm.MethodName) prog_1_method_19_code (5 : Nat) (Option.some Jvm.ClassFile.FieldType.int)) ∈ WS := ws_3 90 rfl rfl
theorem wd_3_91 : (Jvm.Cond.methodLink "TradeLogs" (149 : Nat) ({ cls := "TradeLogs$State", name := "entryValue", desc := "(IZII)I" } : Jvm.MethodName)) ∈ WS := ws_3 91 rfl rfl
theorem wd_3_92 : (Jvm.Cond.instanceMethod ({ cls := "TradeLogs$State", name := "entryValue", desc := "(IZII)I" } : Jvm.MethodName)) ∈ WS := ws_3 92 rfl rfl
theorem wd_3_93 : (Jvm.Cond.selects "TradeLogs$State" ({ cls := "TradeLogs$State", name := "entryValue", desc := "(IZII)I" } : Jvm.MethodName) ({ cls := "TradeLogs$State", name := "entryValue", desc := "(IZII)I" } : Jvm.MethodName)) ∈ WS := ws_3 93 rfl rfl
theorem wd_3_94 : (Jvm.Cond.code ({ cls := "TradeLogs$State", name := "entryValue", desc := "(IZII)I" } : Jvm.MethodName) prog_9_method_40_code (6 : Nat) (Option.some Jvm.ClassFile.FieldType.int)) ∈ WS := ws_3 94 rfl rfl
theorem wd_3_95 : (Jvm.Cond.methodLink "TradeLogs$State" (146 : Nat) ({ cls := "TradeLogs$EntryQueue", name := "valueAt", desc := "(II)I" } : Jvm.MethodName)) ∈ WS := ws_3 95 rfl rfl
theorem wd_3_96 : (Jvm.Cond.methodLink "TradeLogsLaw" (122 : Nat) ({ cls := "TradeLogsLaw", name := "next", desc := "(LTradeLogs;II)I" } : Jvm.MethodName)) ∈ WS := ws_3 96 rfl rfl
theorem wd_3_97 : (Jvm.Cond.static ({ cls := "TradeLogsLaw", name := "next", desc := "(LTradeLogs;II)I" } : Jvm.MethodName)) ∈ WS := ws_3 97 rfl rfl
theorem wd_3_99 : (Jvm.Cond.methodLink "TradeLogsLaw" (92 : Nat) ({ cls := "TradeLogs", name := "nextRelease", desc := "(II)I" } : Jvm.MethodName)) ∈ WS := ws_3 99 rfl rfl
theorem wd_3_100 : (Jvm.Cond.instanceMethod ({ cls := "TradeLogs", name := "nextRelease", desc := "(II)I" } : Jvm.MethodName)) ∈ WS := ws_3 100 rfl rfl
theorem wd_3_101 : (Jvm.Cond.selects "TradeLogs" ({ cls := "TradeLogs", name := "nextRelease", desc := "(II)I" } : Jvm.MethodName) ({ cls := "TradeLogs", name := "nextRelease", desc := "(II)I" } : Jvm.MethodName)) ∈ WS := ws_3 101 rfl rfl
theorem wd_3_102 : (Jvm.Cond.code ({ cls := "TradeLogs", name := "nextRelease", desc := "(II)I" } : Jvm.MethodName) prog_1_method_24_code (3 : Nat) (Option.some Jvm.ClassFile.FieldType.int)) ∈ WS := ws_3 102 rfl rfl
theorem wd_3_103 : (Jvm.Cond.methodLink "TradeLogs" (169 : Nat) ({ cls := "TradeLogs$State", name := "firstRelease", desc := "(II)I" } : Jvm.MethodName)) ∈ WS := ws_3 103 rfl rfl
theorem wd_3_104 : (Jvm.Cond.instanceMethod ({ cls := "TradeLogs$State", name := "firstRelease", desc := "(II)I" } : Jvm.MethodName)) ∈ WS := ws_3 104 rfl rfl
theorem wd_3_105 : (Jvm.Cond.selects "TradeLogs$State" ({ cls := "TradeLogs$State", name := "firstRelease", desc := "(II)I" } : Jvm.MethodName) ({ cls := "TradeLogs$State", name := "firstRelease", desc := "(II)I" } : Jvm.MethodName)) ∈ WS := ws_3 105 rfl rfl
theorem wd_3_106 : (Jvm.Cond.code ({ cls := "TradeLogs$State", name := "firstRelease", desc := "(II)I" } : Jvm.MethodName) prog_9_method_47_code (3 : Nat) (Option.some Jvm.ClassFile.FieldType.int)) ∈ WS := ws_3 106 rfl rfl
theorem wd_3_107 : (Jvm.Cond.methodLink "TradeLogs$State" (234 : Nat) ({ cls := "TradeLogs$DaySet", name := "firstFrom", desc := "(I)I" } : Jvm.MethodName)) ∈ WS := ws_3 107 rfl rfl
theorem wd_3_108 : (Jvm.Cond.instanceMethod ({ cls := "TradeLogs$DaySet", name := "firstFrom", desc := "(I)I" } : Jvm.MethodName)) ∈ WS := ws_3 108 rfl rfl
theorem wd_3_109 : (Jvm.Cond.selects "TradeLogs$DaySet" ({ cls := "TradeLogs$DaySet", name := "firstFrom", desc := "(I)I" } : Jvm.MethodName) ({ cls := "TradeLogs$DaySet", name := "firstFrom", desc := "(I)I" } : Jvm.MethodName)) ∈ WS := ws_3 109 rfl rfl
theorem wd_3_110 : (Jvm.Cond.code ({ cls := "TradeLogs$DaySet", name := "firstFrom", desc := "(I)I" } : Jvm.MethodName) prog_6_method_4_code (3 : Nat) (Option.some Jvm.ClassFile.FieldType.int)) ∈ WS := ws_3 110 rfl rfl
theorem wd_3_111 : (Jvm.Cond.methodLink "TradeLogs$DaySet" (23 : Nat) ({ cls := "java/lang/Math", name := "max", desc := "(II)I" } : Jvm.MethodName)) ∈ WS := ws_3 111 rfl rfl
theorem wd_3_112 : (Jvm.Cond.methodLink "TradeLogs$DaySet" (15 : Nat) ({ cls := "TradeLogs$DaySet", name := "has", desc := "(I)Z" } : Jvm.MethodName)) ∈ WS := ws_3 112 rfl rfl
theorem wd_3_113 : (Jvm.Cond.instanceMethod ({ cls := "TradeLogs$DaySet", name := "has", desc := "(I)Z" } : Jvm.MethodName)) ∈ WS := ws_3 113 rfl rfl
theorem wd_3_114 : (Jvm.Cond.selects "TradeLogs$DaySet" ({ cls := "TradeLogs$DaySet", name := "has", desc := "(I)Z" } : Jvm.MethodName) ({ cls := "TradeLogs$DaySet", name := "has", desc := "(I)Z" } : Jvm.MethodName)) ∈ WS := ws_3 114 rfl rfl
theorem wd_3_115 : (Jvm.Cond.code ({ cls := "TradeLogs$DaySet", name := "has", desc := "(I)Z" } : Jvm.MethodName) prog_6_method_2_code (2 : Nat) (Option.some Jvm.ClassFile.FieldType.boolean)) ∈ WS := ws_3 115 rfl rfl
theorem wd_3_116 : (Jvm.Cond.methodLink "TradeLogsLaw" (207 : Nat) ({ cls := "TradeLogsLaw", name := "refused", desc := "(LTradeLogs;)Z" } : Jvm.MethodName)) ∈ WS := ws_3 116 rfl rfl
theorem wd_3_117 : (Jvm.Cond.static ({ cls := "TradeLogsLaw", name := "refused", desc := "(LTradeLogs;)Z" } : Jvm.MethodName)) ∈ WS := ws_3 117 rfl rfl
theorem wd_3_118 : (Jvm.Cond.code ({ cls := "TradeLogsLaw", name := "refused", desc := "(LTradeLogs;)Z" } : Jvm.MethodName) method_30_code (4 : Nat) (Option.some Jvm.ClassFile.FieldType.boolean)) ∈ WS := ws_3 118 rfl rfl
theorem wd_3_119 : (Jvm.Cond.methodLink "TradeLogsLaw" (132 : Nat) ({ cls := "TradeLogsLaw", name := "mentors", desc := "(LTradeLogs;II)I" } : Jvm.MethodName)) ∈ WS := ws_3 119 rfl rfl
theorem wd_3_120 : (Jvm.Cond.static ({ cls := "TradeLogsLaw", name := "mentors", desc := "(LTradeLogs;II)I" } : Jvm.MethodName)) ∈ WS := ws_3 120 rfl rfl
theorem wd_3_122 : (Jvm.Cond.methodLink "TradeLogsLaw" (21 : Nat) ({ cls := "TradeLogs", name := "addMentor", desc := "(II)I" } : Jvm.MethodName)) ∈ WS := ws_3 122 rfl rfl
theorem wd_3_123 : (Jvm.Cond.instanceMethod ({ cls := "TradeLogs", name := "addMentor", desc := "(II)I" } : Jvm.MethodName)) ∈ WS := ws_3 123 rfl rfl
theorem wd_3_124 : (Jvm.Cond.selects "TradeLogs" ({ cls := "TradeLogs", name := "addMentor", desc := "(II)I" } : Jvm.MethodName) ({ cls := "TradeLogs", name := "addMentor", desc := "(II)I" } : Jvm.MethodName)) ∈ WS := ws_3 124 rfl rfl
theorem wd_3_125 : (Jvm.Cond.code ({ cls := "TradeLogs", name := "addMentor", desc := "(II)I" } : Jvm.MethodName) prog_1_method_3_code (3 : Nat) (Option.some Jvm.ClassFile.FieldType.int)) ∈ WS := ws_3 125 rfl rfl
theorem wd_3_126 : (Jvm.Cond.methodLink "TradeLogs" (45 : Nat) ({ cls := "TradeLogs", name := "faultOfMentor", desc := "(II)I" } : Jvm.MethodName)) ∈ WS := ws_3 126 rfl rfl
theorem wd_3_128 : (Jvm.Cond.instanceMethod ({ cls := "TradeLogs", name := "faultOfMentor", desc := "(II)I" } : Jvm.MethodName)) ∈ WS := ws_3 128 rfl rfl
theorem wd_3_129 : (Jvm.Cond.code ({ cls := "TradeLogs", name := "faultOfMentor", desc := "(II)I" } : Jvm.MethodName) prog_1_method_38_code (3 : Nat) (Option.some Jvm.ClassFile.FieldType.int)) ∈ WS := ws_3 129 rfl rfl
theorem wd_3_130 : (Jvm.Cond.methodLink "TradeLogs" (49 : Nat) ({ cls := "TradeLogs$State", name := "putMentor", desc := "(II)I" } : Jvm.MethodName)) ∈ WS := ws_3 130 rfl rfl
theorem wd_3_131 : (Jvm.Cond.instanceMethod ({ cls := "TradeLogs$State", name := "putMentor", desc := "(II)I" } : Jvm.MethodName)) ∈ WS := ws_3 131 rfl rfl
theorem wd_3_132 : (Jvm.Cond.selects "TradeLogs$State" ({ cls := "TradeLogs$State", name := "putMentor", desc := "(II)I" } : Jvm.MethodName) ({ cls := "TradeLogs$State", name := "putMentor", desc := "(II)I" } : Jvm.MethodName)) ∈ WS := ws_3 132 rfl rfl
theorem wd_3_133 : (Jvm.Cond.code ({ cls := "TradeLogs$State", name := "putMentor", desc := "(II)I" } : Jvm.MethodName) prog_9_method_24_code (3 : Nat) (Option.some Jvm.ClassFile.FieldType.int)) ∈ WS := ws_3 133 rfl rfl
theorem wd_3_134 : (Jvm.Cond.methodLink "TradeLogs$State" (158 : Nat) ({ cls := "TradeLogs$Mentor", name := "begin", desc := "(II)V" } : Jvm.MethodName)) ∈ WS := ws_3 134 rfl rfl
theorem wd_3_135 : (Jvm.Cond.instanceMethod ({ cls := "TradeLogs$Mentor", name := "begin", desc := "(II)V" } : Jvm.MethodName)) ∈ WS := ws_3 135 rfl rfl
theorem wd_3_136 : (Jvm.Cond.selects "TradeLogs$Mentor" ({ cls := "TradeLogs$Mentor", name := "begin", desc := "(II)V" } : Jvm.MethodName) ({ cls := "TradeLogs$Mentor", name := "begin", desc := "(II)V" } : Jvm.MethodName)) ∈ WS := ws_3 136 rfl rfl
theorem wd_3_137 : (Jvm.Cond.code ({ cls := "TradeLogs$Mentor", name := "begin", desc := "(II)V" } : Jvm.MethodName) prog_8_method_2_code (3 : Nat) (Option.none : Option Jvm.ClassFile.FieldType)) ∈ WS := ws_3 137 rfl rfl
theorem wd_3_138 : (Jvm.Cond.methodLink "TradeLogsLaw" (135 : Nat) ({ cls := "TradeLogsLaw", name := "pupil", desc := "(LTradeLogs;II)I" } : Jvm.MethodName)) ∈ WS := ws_3 138 rfl rfl
theorem wd_3_139 : (Jvm.Cond.static ({ cls := "TradeLogsLaw", name := "pupil", desc := "(LTradeLogs;II)I" } : Jvm.MethodName)) ∈ WS := ws_3 139 rfl rfl
theorem wd_3_141 : (Jvm.Cond.methodLink "TradeLogsLaw" (25 : Nat) ({ cls := "TradeLogs", name := "addApprentice", desc := "(II)I" } : Jvm.MethodName)) ∈ WS := ws_3 141 rfl rfl
theorem wd_3_142 : (Jvm.Cond.instanceMethod ({ cls := "TradeLogs", name := "addApprentice", desc := "(II)I" } : Jvm.MethodName)) ∈ WS := ws_3 142 rfl rfl
theorem wd_3_143 : (Jvm.Cond.selects "TradeLogs" ({ cls := "TradeLogs", name := "addApprentice", desc := "(II)I" } : Jvm.MethodName) ({ cls := "TradeLogs", name := "addApprentice", desc := "(II)I" } : Jvm.MethodName)) ∈ WS := ws_3 143 rfl rfl
theorem wd_3_144 : (Jvm.Cond.code ({ cls := "TradeLogs", name := "addApprentice", desc := "(II)I" } : Jvm.MethodName) prog_1_method_4_code (3 : Nat) (Option.some Jvm.ClassFile.FieldType.int)) ∈ WS := ws_3 144 rfl rfl
theorem wd_3_145 : (Jvm.Cond.methodLink "TradeLogs" (52 : Nat) ({ cls := "TradeLogs", name := "faultOfApprentice", desc := "(II)I" } : Jvm.MethodName)) ∈ WS := ws_3 145 rfl rfl
theorem wd_3_147 : (Jvm.Cond.instanceMethod ({ cls := "TradeLogs", name := "faultOfApprentice", desc := "(II)I" } : Jvm.MethodName)) ∈ WS := ws_3 147 rfl rfl
theorem wd_3_148 : (Jvm.Cond.code ({ cls := "TradeLogs", name := "faultOfApprentice", desc := "(II)I" } : Jvm.MethodName) prog_1_method_39_code (3 : Nat) (Option.some Jvm.ClassFile.FieldType.int)) ∈ WS := ws_3 148 rfl rfl
theorem wd_3_149 : (Jvm.Cond.methodLink "TradeLogs" (249 : Nat) ({ cls := "TradeLogs$State", name := "hasTrade", desc := "(I)Z" } : Jvm.MethodName)) ∈ WS := ws_3 149 rfl rfl
theorem wd_3_150 : (Jvm.Cond.instanceMethod ({ cls := "TradeLogs$State", name := "hasTrade", desc := "(I)Z" } : Jvm.MethodName)) ∈ WS := ws_3 150 rfl rfl
theorem wd_3_151 : (Jvm.Cond.selects "TradeLogs$State" ({ cls := "TradeLogs$State", name := "hasTrade", desc := "(I)Z" } : Jvm.MethodName) ({ cls := "TradeLogs$State", name := "hasTrade", desc := "(I)Z" } : Jvm.MethodName)) ∈ WS := ws_3 151 rfl rfl
theorem wd_3_152 : (Jvm.Cond.code ({ cls := "TradeLogs$State", name := "hasTrade", desc := "(I)Z" } : Jvm.MethodName) prog_9_method_3_code (2 : Nat) (Option.some Jvm.ClassFile.FieldType.boolean)) ∈ WS := ws_3 152 rfl rfl
theorem wd_3_153 : (Jvm.Cond.methodLink "TradeLogs" (252 : Nat) ({ cls := "TradeLogs$State", name := "teaches", desc := "(II)Z" } : Jvm.MethodName)) ∈ WS := ws_3 153 rfl rfl
theorem wd_3_154 : (Jvm.Cond.instanceMethod ({ cls := "TradeLogs$State", name := "teaches", desc := "(II)Z" } : Jvm.MethodName)) ∈ WS := ws_3 154 rfl rfl
theorem wd_3_155 : (Jvm.Cond.selects "TradeLogs$State" ({ cls := "TradeLogs$State", name := "teaches", desc := "(II)Z" } : Jvm.MethodName) ({ cls := "TradeLogs$State", name := "teaches", desc := "(II)Z" } : Jvm.MethodName)) ∈ WS := ws_3 155 rfl rfl
theorem wd_3_156 : (Jvm.Cond.code ({ cls := "TradeLogs$State", name := "teaches", desc := "(II)Z" } : Jvm.MethodName) prog_9_method_8_code (3 : Nat) (Option.some Jvm.ClassFile.FieldType.boolean)) ∈ WS := ws_3 156 rfl rfl
theorem wd_3_157 : (Jvm.Cond.methodLink "TradeLogs" (255 : Nat) ({ cls := "TradeLogs$State", name := "isFull", desc := "(I)Z" } : Jvm.MethodName)) ∈ WS := ws_3 157 rfl rfl
theorem wd_3_158 : (Jvm.Cond.instanceMethod ({ cls := "TradeLogs$State", name := "isFull", desc := "(I)Z" } : Jvm.MethodName)) ∈ WS := ws_3 158 rfl rfl
theorem wd_3_159 : (Jvm.Cond.selects "TradeLogs$State" ({ cls := "TradeLogs$State", name := "isFull", desc := "(I)Z" } : Jvm.MethodName) ({ cls := "TradeLogs$State", name := "isFull", desc := "(I)Z" } : Jvm.MethodName)) ∈ WS := ws_3 159 rfl rfl
theorem wd_3_160 : (Jvm.Cond.code ({ cls := "TradeLogs$State", name := "isFull", desc := "(I)Z" } : Jvm.MethodName) prog_9_method_10_code (2 : Nat) (Option.some Jvm.ClassFile.FieldType.boolean)) ∈ WS := ws_3 160 rfl rfl
theorem wd_3_161 : (Jvm.Cond.methodLink "TradeLogs" (55 : Nat) ({ cls := "TradeLogs$State", name := "putApprentice", desc := "(II)I" } : Jvm.MethodName)) ∈ WS := ws_3 161 rfl rfl
theorem wd_3_162 : (Jvm.Cond.instanceMethod ({ cls := "TradeLogs$State", name := "putApprentice", desc := "(II)I" } : Jvm.MethodName)) ∈ WS := ws_3 162 rfl rfl
theorem wd_3_163 : (Jvm.Cond.selects "TradeLogs$State" ({ cls := "TradeLogs$State", name := "putApprentice", desc := "(II)I" } : Jvm.MethodName) ({ cls := "TradeLogs$State", name := "putApprentice", desc := "(II)I" } : Jvm.MethodName)) ∈ WS := ws_3 163 rfl rfl
theorem wd_3_164 : (Jvm.Cond.code ({ cls := "TradeLogs$State", name := "putApprentice", desc := "(II)I" } : Jvm.MethodName) prog_9_method_25_code (3 : Nat) (Option.some Jvm.ClassFile.FieldType.int)) ∈ WS := ws_3 164 rfl rfl
theorem wd_3_165 : (Jvm.Cond.methodLink "TradeLogs$State" (162 : Nat) ({ cls := "TradeLogs$Apprentice", name := "begin", desc := "(II)V" } : Jvm.MethodName)) ∈ WS := ws_3 165 rfl rfl
theorem wd_3_166 : (Jvm.Cond.instanceMethod ({ cls := "TradeLogs$Apprentice", name := "begin", desc := "(II)V" } : Jvm.MethodName)) ∈ WS := ws_3 166 rfl rfl
theorem wd_3_167 : (Jvm.Cond.selects "TradeLogs$Apprentice" ({ cls := "TradeLogs$Apprentice", name := "begin", desc := "(II)V" } : Jvm.MethodName) ({ cls := "TradeLogs$Apprentice", name := "begin", desc := "(II)V" } : Jvm.MethodName)) ∈ WS := ws_3 167 rfl rfl
theorem wd_3_168 : (Jvm.Cond.code ({ cls := "TradeLogs$Apprentice", name := "begin", desc := "(II)V" } : Jvm.MethodName) prog_3_method_2_code (4 : Nat) (Option.none : Option Jvm.ClassFile.FieldType)) ∈ WS := ws_3 168 rfl rfl
theorem wd_3_169 : (Jvm.Cond.methodLink "TradeLogs$Apprentice" (39 : Nat) ({ cls := "TradeLogs$DaySet", name := "clear", desc := "()V" } : Jvm.MethodName)) ∈ WS := ws_3 169 rfl rfl
theorem wd_3_170 : (Jvm.Cond.instanceMethod ({ cls := "TradeLogs$DaySet", name := "clear", desc := "()V" } : Jvm.MethodName)) ∈ WS := ws_3 170 rfl rfl
theorem wd_3_171 : (Jvm.Cond.selects "TradeLogs$DaySet" ({ cls := "TradeLogs$DaySet", name := "clear", desc := "()V" } : Jvm.MethodName) ({ cls := "TradeLogs$DaySet", name := "clear", desc := "()V" } : Jvm.MethodName)) ∈ WS := ws_3 171 rfl rfl
theorem wd_3_172 : (Jvm.Cond.code ({ cls := "TradeLogs$DaySet", name := "clear", desc := "()V" } : Jvm.MethodName) prog_6_method_5_code (2 : Nat) (Option.none : Option Jvm.ClassFile.FieldType)) ∈ WS := ws_3 172 rfl rfl
theorem wd_3_173 : (Jvm.Cond.methodLink "TradeLogsLaw" (138 : Nat) ({ cls := "TradeLogsLaw", name := "frees", desc := "(LTradeLogs;II)I" } : Jvm.MethodName)) ∈ WS := ws_3 173 rfl rfl
theorem wd_3_174 : (Jvm.Cond.static ({ cls := "TradeLogsLaw", name := "frees", desc := "(LTradeLogs;II)I" } : Jvm.MethodName)) ∈ WS := ws_3 174 rfl rfl
theorem wd_3_176 : (Jvm.Cond.methodLink "TradeLogsLaw" (31 : Nat) ({ cls := "TradeLogs", name := "release", desc := "(II)I" } : Jvm.MethodName)) ∈ WS := ws_3 176 rfl rfl
theorem wd_3_177 : (Jvm.Cond.instanceMethod ({ cls := "TradeLogs", name := "release", desc := "(II)I" } : Jvm.MethodName)) ∈ WS := ws_3 177 rfl rfl
theorem wd_3_178 : (Jvm.Cond.selects "TradeLogs" ({ cls := "TradeLogs", name := "release", desc := "(II)I" } : Jvm.MethodName) ({ cls := "TradeLogs", name := "release", desc := "(II)I" } : Jvm.MethodName)) ∈ WS := ws_3 178 rfl rfl
theorem wd_3_179 : (Jvm.Cond.code ({ cls := "TradeLogs", name := "release", desc := "(II)I" } : Jvm.MethodName) prog_1_method_5_code (3 : Nat) (Option.some Jvm.ClassFile.FieldType.int)) ∈ WS := ws_3 179 rfl rfl
theorem wd_3_180 : (Jvm.Cond.methodLink "TradeLogs" (58 : Nat) ({ cls := "TradeLogs", name := "faultOfRelease", desc := "(II)I" } : Jvm.MethodName)) ∈ WS := ws_3 180 rfl rfl
theorem wd_3_182 : (Jvm.Cond.instanceMethod ({ cls := "TradeLogs", name := "faultOfRelease", desc := "(II)I" } : Jvm.MethodName)) ∈ WS := ws_3 182 rfl rfl
theorem wd_3_183 : (Jvm.Cond.code ({ cls := "TradeLogs", name := "faultOfRelease", desc := "(II)I" } : Jvm.MethodName) prog_1_method_40_code (3 : Nat) (Option.some Jvm.ClassFile.FieldType.int)) ∈ WS := ws_3 183 rfl rfl
theorem wd_3_184 : (Jvm.Cond.methodLink "TradeLogs" (258 : Nat) ({ cls := "TradeLogs$State", name := "hasWorked", desc := "(II)Z" } : Jvm.MethodName)) ∈ WS := ws_3 184 rfl rfl
theorem wd_3_185 : (Jvm.Cond.instanceMethod ({ cls := "TradeLogs$State", name := "hasWorked", desc := "(II)Z" } : Jvm.MethodName)) ∈ WS := ws_3 185 rfl rfl
theorem wd_3_186 : (Jvm.Cond.selects "TradeLogs$State" ({ cls := "TradeLogs$State", name := "hasWorked", desc := "(II)Z" } : Jvm.MethodName) ({ cls := "TradeLogs$State", name := "hasWorked", desc := "(II)Z" } : Jvm.MethodName)) ∈ WS := ws_3 186 rfl rfl
theorem wd_3_187 : (Jvm.Cond.code ({ cls := "TradeLogs$State", name := "hasWorked", desc := "(II)Z" } : Jvm.MethodName) prog_9_method_13_code (3 : Nat) (Option.some Jvm.ClassFile.FieldType.boolean)) ∈ WS := ws_3 187 rfl rfl
theorem wd_3_188 : (Jvm.Cond.methodLink "TradeLogs$State" (109 : Nat) ({ cls := "TradeLogs$DaySet", name := "has", desc := "(I)Z" } : Jvm.MethodName)) ∈ WS := ws_3 188 rfl rfl
theorem wd_3_189 : (Jvm.Cond.methodLink "TradeLogs" (61 : Nat) ({ cls := "TradeLogs$State", name := "putRelease", desc := "(II)I" } : Jvm.MethodName)) ∈ WS := ws_3 189 rfl rfl
theorem wd_3_190 : (Jvm.Cond.instanceMethod ({ cls := "TradeLogs$State", name := "putRelease", desc := "(II)I" } : Jvm.MethodName)) ∈ WS := ws_3 190 rfl rfl
theorem wd_3_191 : (Jvm.Cond.selects "TradeLogs$State" ({ cls := "TradeLogs$State", name := "putRelease", desc := "(II)I" } : Jvm.MethodName) ({ cls := "TradeLogs$State", name := "putRelease", desc := "(II)I" } : Jvm.MethodName)) ∈ WS := ws_3 191 rfl rfl
theorem wd_3_192 : (Jvm.Cond.code ({ cls := "TradeLogs$State", name := "putRelease", desc := "(II)I" } : Jvm.MethodName) prog_9_method_26_code (4 : Nat) (Option.some Jvm.ClassFile.FieldType.int)) ∈ WS := ws_3 192 rfl rfl
theorem wd_3_193 : (Jvm.Cond.methodLink "TradeLogs$State" (166 : Nat) ({ cls := "TradeLogs$DaySet", name := "put", desc := "(I)V" } : Jvm.MethodName)) ∈ WS := ws_3 193 rfl rfl
theorem wd_3_194 : (Jvm.Cond.instanceMethod ({ cls := "TradeLogs$DaySet", name := "put", desc := "(I)V" } : Jvm.MethodName)) ∈ WS := ws_3 194 rfl rfl
theorem wd_3_195 : (Jvm.Cond.selects "TradeLogs$DaySet" ({ cls := "TradeLogs$DaySet", name := "put", desc := "(I)V" } : Jvm.MethodName) ({ cls := "TradeLogs$DaySet", name := "put", desc := "(I)V" } : Jvm.MethodName)) ∈ WS := ws_3 195 rfl rfl
theorem wd_3_196 : (Jvm.Cond.code ({ cls := "TradeLogs$DaySet", name := "put", desc := "(I)V" } : Jvm.MethodName) prog_6_method_3_code (2 : Nat) (Option.none : Option Jvm.ClassFile.FieldType)) ∈ WS := ws_3 196 rfl rfl
theorem wd_3_197 : (Jvm.Cond.methodLink "TradeLogsLaw" (141 : Nat) ({ cls := "TradeLogsLaw", name := "logs", desc := "(LTradeLogs;III)I" } : Jvm.MethodName)) ∈ WS := ws_3 197 rfl rfl
theorem wd_3_198 : (Jvm.Cond.static ({ cls := "TradeLogsLaw", name := "logs", desc := "(LTradeLogs;III)I" } : Jvm.MethodName)) ∈ WS := ws_3 198 rfl rfl
theorem wd_3_200 : (Jvm.Cond.methodLink "TradeLogsLaw" (34 : Nat) ({ cls := "TradeLogs", name := "log", desc := "(III)I" } : Jvm.MethodName)) ∈ WS := ws_3 200 rfl rfl
theorem wd_3_201 : (Jvm.Cond.instanceMethod ({ cls := "TradeLogs", name := "log", desc := "(III)I" } : Jvm.MethodName)) ∈ WS := ws_3 201 rfl rfl
theorem wd_3_202 : (Jvm.Cond.selects "TradeLogs" ({ cls := "TradeLogs", name := "log", desc := "(III)I" } : Jvm.MethodName) ({ cls := "TradeLogs", name := "log", desc := "(III)I" } : Jvm.MethodName)) ∈ WS := ws_3 202 rfl rfl
theorem wd_3_203 : (Jvm.Cond.code ({ cls := "TradeLogs", name := "log", desc := "(III)I" } : Jvm.MethodName) prog_1_method_6_code (4 : Nat) (Option.some Jvm.ClassFile.FieldType.int)) ∈ WS := ws_3 203 rfl rfl
theorem wd_3_204 : (Jvm.Cond.methodLink "TradeLogs" (64 : Nat) ({ cls := "TradeLogs", name := "faultOfLog", desc := "(III)I" } : Jvm.MethodName)) ∈ WS := ws_3 204 rfl rfl
theorem wd_3_206 : (Jvm.Cond.instanceMethod ({ cls := "TradeLogs", name := "faultOfLog", desc := "(III)I" } : Jvm.MethodName)) ∈ WS := ws_3 206 rfl rfl
theorem wd_3_207 : (Jvm.Cond.code ({ cls := "TradeLogs", name := "faultOfLog", desc := "(III)I" } : Jvm.MethodName) prog_1_method_41_code (4 : Nat) (Option.some Jvm.ClassFile.FieldType.int)) ∈ WS := ws_3 207 rfl rfl
theorem wd_3_208 : (Jvm.Cond.methodLink "TradeLogs" (261 : Nat) ({ cls := "TradeLogs$State", name := "canWork", desc := "(II)Z" } : Jvm.MethodName)) ∈ WS := ws_3 208 rfl rfl
theorem wd_3_209 : (Jvm.Cond.instanceMethod ({ cls := "TradeLogs$State", name := "canWork", desc := "(II)Z" } : Jvm.MethodName)) ∈ WS := ws_3 209 rfl rfl
theorem wd_3_210 : (Jvm.Cond.selects "TradeLogs$State" ({ cls := "TradeLogs$State", name := "canWork", desc := "(II)Z" } : Jvm.MethodName) ({ cls := "TradeLogs$State", name := "canWork", desc := "(II)Z" } : Jvm.MethodName)) ∈ WS := ws_3 210 rfl rfl
theorem wd_3_211 : (Jvm.Cond.code ({ cls := "TradeLogs$State", name := "canWork", desc := "(II)Z" } : Jvm.MethodName) prog_9_method_17_code (3 : Nat) (Option.some Jvm.ClassFile.FieldType.boolean)) ∈ WS := ws_3 211 rfl rfl
theorem wd_3_212 : (Jvm.Cond.methodLink "TradeLogs$State" (133 : Nat) ({ cls := "TradeLogs$Apprentice", name := "hasRoomFor", desc := "(II)Z" } : Jvm.MethodName)) ∈ WS := ws_3 212 rfl rfl
theorem wd_3_213 : (Jvm.Cond.instanceMethod ({ cls := "TradeLogs$Apprentice", name := "hasRoomFor", desc := "(II)Z" } : Jvm.MethodName)) ∈ WS := ws_3 213 rfl rfl
theorem wd_3_214 : (Jvm.Cond.selects "TradeLogs$Apprentice" ({ cls := "TradeLogs$Apprentice", name := "hasRoomFor", desc := "(II)Z" } : Jvm.MethodName) ({ cls := "TradeLogs$Apprentice", name := "hasRoomFor", desc := "(II)Z" } : Jvm.MethodName)) ∈ WS := ws_3 214 rfl rfl
theorem wd_3_215 : (Jvm.Cond.code ({ cls := "TradeLogs$Apprentice", name := "hasRoomFor", desc := "(II)Z" } : Jvm.MethodName) prog_3_method_6_code (3 : Nat) (Option.some Jvm.ClassFile.FieldType.boolean)) ∈ WS := ws_3 215 rfl rfl
theorem wd_3_216 : (Jvm.Cond.methodLink "TradeLogs$Apprentice" (66 : Nat) ({ cls := "TradeLogs$DaySet", name := "has", desc := "(I)Z" } : Jvm.MethodName)) ∈ WS := ws_3 216 rfl rfl
theorem wd_3_217 : (Jvm.Cond.methodLink "TradeLogs" (67 : Nat) ({ cls := "TradeLogs$State", name := "putWork", desc := "(III)I" } : Jvm.MethodName)) ∈ WS := ws_3 217 rfl rfl
theorem wd_3_218 : (Jvm.Cond.instanceMethod ({ cls := "TradeLogs$State", name := "putWork", desc := "(III)I" } : Jvm.MethodName)) ∈ WS := ws_3 218 rfl rfl
theorem wd_3_219 : (Jvm.Cond.selects "TradeLogs$State" ({ cls := "TradeLogs$State", name := "putWork", desc := "(III)I" } : Jvm.MethodName) ({ cls := "TradeLogs$State", name := "putWork", desc := "(III)I" } : Jvm.MethodName)) ∈ WS := ws_3 219 rfl rfl
theorem wd_3_220 : (Jvm.Cond.code ({ cls := "TradeLogs$State", name := "putWork", desc := "(III)I" } : Jvm.MethodName) prog_9_method_27_code (5 : Nat) (Option.some Jvm.ClassFile.FieldType.int)) ∈ WS := ws_3 220 rfl rfl
theorem wd_3_221 : (Jvm.Cond.methodLink "TradeLogs$State" (171 : Nat) ({ cls := "TradeLogs$Apprentice", name := "work", desc := "(III)V" } : Jvm.MethodName)) ∈ WS := ws_3 221 rfl rfl
theorem wd_3_222 : (Jvm.Cond.instanceMethod ({ cls := "TradeLogs$Apprentice", name := "work", desc := "(III)V" } : Jvm.MethodName)) ∈ WS := ws_3 222 rfl rfl
theorem wd_3_223 : (Jvm.Cond.selects "TradeLogs$Apprentice" ({ cls := "TradeLogs$Apprentice", name := "work", desc := "(III)V" } : Jvm.MethodName) ({ cls := "TradeLogs$Apprentice", name := "work", desc := "(III)V" } : Jvm.MethodName)) ∈ WS := ws_3 223 rfl rfl
theorem wd_3_224 : (Jvm.Cond.code ({ cls := "TradeLogs$Apprentice", name := "work", desc := "(III)V" } : Jvm.MethodName) prog_3_method_7_code (4 : Nat) (Option.none : Option Jvm.ClassFile.FieldType)) ∈ WS := ws_3 224 rfl rfl
theorem wd_3_225 : (Jvm.Cond.methodLink "TradeLogs$Apprentice" (70 : Nat) ({ cls := "TradeLogs$DaySet", name := "put", desc := "(I)V" } : Jvm.MethodName)) ∈ WS := ws_3 225 rfl rfl
theorem wd_3_226 : (Jvm.Cond.methodLink "TradeLogsLaw" (144 : Nat) ({ cls := "TradeLogsLaw", name := "confirms", desc := "(LTradeLogs;II)I" } : Jvm.MethodName)) ∈ WS := ws_3 226 rfl rfl
theorem wd_3_227 : (Jvm.Cond.static ({ cls := "TradeLogsLaw", name := "confirms", desc := "(LTradeLogs;II)I" } : Jvm.MethodName)) ∈ WS := ws_3 227 rfl rfl
theorem wd_3_229 : (Jvm.Cond.methodLink "TradeLogsLaw" (37 : Nat) ({ cls := "TradeLogs", name := "confirm", desc := "(II)I" } : Jvm.MethodName)) ∈ WS := ws_3 229 rfl rfl
theorem wd_3_230 : (Jvm.Cond.instanceMethod ({ cls := "TradeLogs", name := "confirm", desc := "(II)I" } : Jvm.MethodName)) ∈ WS := ws_3 230 rfl rfl
theorem wd_3_231 : (Jvm.Cond.selects "TradeLogs" ({ cls := "TradeLogs", name := "confirm", desc := "(II)I" } : Jvm.MethodName) ({ cls := "TradeLogs", name := "confirm", desc := "(II)I" } : Jvm.MethodName)) ∈ WS := ws_3 231 rfl rfl
theorem wd_3_232 : (Jvm.Cond.code ({ cls := "TradeLogs", name := "confirm", desc := "(II)I" } : Jvm.MethodName) prog_1_method_7_code (3 : Nat) (Option.some Jvm.ClassFile.FieldType.int)) ∈ WS := ws_3 232 rfl rfl
theorem wd_3_233 : (Jvm.Cond.methodLink "TradeLogs" (70 : Nat) ({ cls := "TradeLogs", name := "faultOfConfirm", desc := "(II)I" } : Jvm.MethodName)) ∈ WS := ws_3 233 rfl rfl
theorem wd_3_235 : (Jvm.Cond.instanceMethod ({ cls := "TradeLogs", name := "faultOfConfirm", desc := "(II)I" } : Jvm.MethodName)) ∈ WS := ws_3 235 rfl rfl
theorem wd_3_236 : (Jvm.Cond.code ({ cls := "TradeLogs", name := "faultOfConfirm", desc := "(II)I" } : Jvm.MethodName) prog_1_method_42_code (3 : Nat) (Option.some Jvm.ClassFile.FieldType.int)) ∈ WS := ws_3 236 rfl rfl
theorem wd_3_237 : (Jvm.Cond.methodLink "TradeLogs" (264 : Nat) ({ cls := "TradeLogs$State", name := "canConfirm", desc := "(II)Z" } : Jvm.MethodName)) ∈ WS := ws_3 237 rfl rfl
theorem wd_3_238 : (Jvm.Cond.instanceMethod ({ cls := "TradeLogs$State", name := "canConfirm", desc := "(II)Z" } : Jvm.MethodName)) ∈ WS := ws_3 238 rfl rfl
theorem wd_3_239 : (Jvm.Cond.selects "TradeLogs$State" ({ cls := "TradeLogs$State", name := "canConfirm", desc := "(II)Z" } : Jvm.MethodName) ({ cls := "TradeLogs$State", name := "canConfirm", desc := "(II)Z" } : Jvm.MethodName)) ∈ WS := ws_3 239 rfl rfl
theorem wd_4_0 : (Jvm.Cond.code ({ cls := "TradeLogs$State", name := "canConfirm", desc := "(II)Z" } : Jvm.MethodName) prog_9_method_18_code (6 : Nat) (Option.some Jvm.ClassFile.FieldType.boolean)) ∈ WS := ws_4 0 rfl rfl
theorem wd_4_1 : (Jvm.Cond.methodLink "TradeLogs$State" (137 : Nat) ({ cls := "TradeLogs$Apprentice", name := "canTakeFirst", desc := "(I)Z" } : Jvm.MethodName)) ∈ WS := ws_4 1 rfl rfl
theorem wd_4_2 : (Jvm.Cond.instanceMethod ({ cls := "TradeLogs$Apprentice", name := "canTakeFirst", desc := "(I)Z" } : Jvm.MethodName)) ∈ WS := ws_4 2 rfl rfl
theorem wd_4_3 : (Jvm.Cond.selects "TradeLogs$Apprentice" ({ cls := "TradeLogs$Apprentice", name := "canTakeFirst", desc := "(I)Z" } : Jvm.MethodName) ({ cls := "TradeLogs$Apprentice", name := "canTakeFirst", desc := "(I)Z" } : Jvm.MethodName)) ∈ WS := ws_4 3 rfl rfl
theorem wd_4_4 : (Jvm.Cond.code ({ cls := "TradeLogs$Apprentice", name := "canTakeFirst", desc := "(I)Z" } : Jvm.MethodName) prog_3_method_8_code (3 : Nat) (Option.some Jvm.ClassFile.FieldType.boolean)) ∈ WS := ws_4 4 rfl rfl
theorem wd_4_5 : (Jvm.Cond.methodLink "TradeLogs$Apprentice" (78 : Nat) ({ cls := "TradeLogs$EntryQueue", name := "hoursOfFirst", desc := "(III)I" } : Jvm.MethodName)) ∈ WS := ws_4 5 rfl rfl
theorem wd_4_6 : (Jvm.Cond.instanceMethod ({ cls := "TradeLogs$EntryQueue", name := "hoursOfFirst", desc := "(III)I" } : Jvm.MethodName)) ∈ WS := ws_4 6 rfl rfl
theorem wd_4_7 : (Jvm.Cond.selects "TradeLogs$EntryQueue" ({ cls := "TradeLogs$EntryQueue", name := "hoursOfFirst", desc := "(III)I" } : Jvm.MethodName) ({ cls := "TradeLogs$EntryQueue", name := "hoursOfFirst", desc := "(III)I" } : Jvm.MethodName)) ∈ WS := ws_4 7 rfl rfl
theorem wd_4_8 : (Jvm.Cond.code ({ cls := "TradeLogs$EntryQueue", name := "hoursOfFirst", desc := "(III)I" } : Jvm.MethodName) prog_7_method_8_code (7 : Nat) (Option.some Jvm.ClassFile.FieldType.int)) ∈ WS := ws_4 8 rfl rfl
theorem wd_4_9 : (Jvm.Cond.methodLink "TradeLogs$Apprentice" (82 : Nat) ({ cls := "TradeLogs$Apprentice", name := "canAdd", desc := "(II)Z" } : Jvm.MethodName)) ∈ WS := ws_4 9 rfl rfl
theorem wd_4_10 : (Jvm.Cond.instanceMethod ({ cls := "TradeLogs$Apprentice", name := "canAdd", desc := "(II)Z" } : Jvm.MethodName)) ∈ WS := ws_4 10 rfl rfl
theorem wd_4_11 : (Jvm.Cond.selects "TradeLogs$Apprentice" ({ cls := "TradeLogs$Apprentice", name := "canAdd", desc := "(II)Z" } : Jvm.MethodName) ({ cls := "TradeLogs$Apprentice", name := "canAdd", desc := "(II)Z" } : Jvm.MethodName)) ∈ WS := ws_4 11 rfl rfl
theorem wd_4_12 : (Jvm.Cond.code ({ cls := "TradeLogs$Apprentice", name := "canAdd", desc := "(II)Z" } : Jvm.MethodName) prog_3_method_4_code (5 : Nat) (Option.some Jvm.ClassFile.FieldType.boolean)) ∈ WS := ws_4 12 rfl rfl
theorem wd_4_13 : (Jvm.Cond.methodLink "TradeLogs$Apprentice" (60 : Nat) ({ cls := "TradeLogs$Apprentice", name := "doneIn", desc := "(I)I" } : Jvm.MethodName)) ∈ WS := ws_4 13 rfl rfl
theorem wd_4_14 : (Jvm.Cond.constantLong "TradeLogs$Apprentice" (64 : Nat) (2147483647 : Int64)) ∈ WS := ws_4 14 rfl rfl
theorem wd_4_15 : (Jvm.Cond.methodLink "TradeLogs$State" (143 : Nat) ({ cls := "java/lang/Math", name := "min", desc := "(II)I" } : Jvm.MethodName)) ∈ WS := ws_4 15 rfl rfl
theorem wd_4_16 : (Jvm.Cond.static ({ cls := "java/lang/Math", name := "min", desc := "(II)I" } : Jvm.MethodName)) ∈ WS := ws_4 16 rfl rfl
theorem wd_4_17 : (Jvm.Cond.code ({ cls := "java/lang/Math", name := "min", desc := "(II)I" } : Jvm.MethodName) prog_17_method_69_code (2 : Nat) (Option.some Jvm.ClassFile.FieldType.int)) ∈ WS := ws_4 17 rfl rfl
theorem wd_4_18 : (Jvm.Cond.methodLink "TradeLogs" (73 : Nat) ({ cls := "TradeLogs$State", name := "confirmPending", desc := "(II)I" } : Jvm.MethodName)) ∈ WS := ws_4 18 rfl rfl
theorem wd_4_19 : (Jvm.Cond.instanceMethod ({ cls := "TradeLogs$State", name := "confirmPending", desc := "(II)I" } : Jvm.MethodName)) ∈ WS := ws_4 19 rfl rfl
theorem wd_4_20 : (Jvm.Cond.selects "TradeLogs$State" ({ cls := "TradeLogs$State", name := "confirmPending", desc := "(II)I" } : Jvm.MethodName) ({ cls := "TradeLogs$State", name := "confirmPending", desc := "(II)I" } : Jvm.MethodName)) ∈ WS := ws_4 20 rfl rfl
theorem wd_4_21 : (Jvm.Cond.code ({ cls := "TradeLogs$State", name := "confirmPending", desc := "(II)I" } : Jvm.MethodName) prog_9_method_28_code (5 : Nat) (Option.some Jvm.ClassFile.FieldType.int)) ∈ WS := ws_4 21 rfl rfl
theorem wd_4_22 : (Jvm.Cond.methodLink "TradeLogs$State" (175 : Nat) ({ cls := "TradeLogs$Apprentice", name := "takeFirst", desc := "(I)I" } : Jvm.MethodName)) ∈ WS := ws_4 22 rfl rfl
theorem wd_4_23 : (Jvm.Cond.instanceMethod ({ cls := "TradeLogs$Apprentice", name := "takeFirst", desc := "(I)I" } : Jvm.MethodName)) ∈ WS := ws_4 23 rfl rfl
theorem wd_4_24 : (Jvm.Cond.selects "TradeLogs$Apprentice" ({ cls := "TradeLogs$Apprentice", name := "takeFirst", desc := "(I)I" } : Jvm.MethodName) ({ cls := "TradeLogs$Apprentice", name := "takeFirst", desc := "(I)I" } : Jvm.MethodName)) ∈ WS := ws_4 24 rfl rfl
theorem wd_4_25 : (Jvm.Cond.code ({ cls := "TradeLogs$Apprentice", name := "takeFirst", desc := "(I)I" } : Jvm.MethodName) prog_3_method_9_code (5 : Nat) (Option.some Jvm.ClassFile.FieldType.int)) ∈ WS := ws_4 25 rfl rfl
theorem wd_4_26 : (Jvm.Cond.methodLink "TradeLogs$Apprentice" (90 : Nat) ({ cls := "TradeLogs$Apprentice", name := "addDone", desc := "(II)V" } : Jvm.MethodName)) ∈ WS := ws_4 26 rfl rfl
theorem wd_4_27 : (Jvm.Cond.instanceMethod ({ cls := "TradeLogs$Apprentice", name := "addDone", desc := "(II)V" } : Jvm.MethodName)) ∈ WS := ws_4 27 rfl rfl
theorem wd_4_28 : (Jvm.Cond.selects "TradeLogs$Apprentice" ({ cls := "TradeLogs$Apprentice", name := "addDone", desc := "(II)V" } : Jvm.MethodName) ({ cls := "TradeLogs$Apprentice", name := "addDone", desc := "(II)V" } : Jvm.MethodName)) ∈ WS := ws_4 28 rfl rfl
theorem wd_4_29 : (Jvm.Cond.code ({ cls := "TradeLogs$Apprentice", name := "addDone", desc := "(II)V" } : Jvm.MethodName) prog_3_method_5_code (3 : Nat) (Option.none : Option Jvm.ClassFile.FieldType)) ∈ WS := ws_4 29 rfl rfl
theorem wd_4_30 : (Jvm.Cond.methodLink "TradeLogsLaw" (147 : Nat) ({ cls := "TradeLogsLaw", name := "doubts", desc := "(LTradeLogs;I)I" } : Jvm.MethodName)) ∈ WS := ws_4 30 rfl rfl
theorem wd_4_31 : (Jvm.Cond.static ({ cls := "TradeLogsLaw", name := "doubts", desc := "(LTradeLogs;I)I" } : Jvm.MethodName)) ∈ WS := ws_4 31 rfl rfl
theorem wd_4_33 : (Jvm.Cond.methodLink "TradeLogsLaw" (40 : Nat) ({ cls := "TradeLogs", name := "doubt", desc := "(I)I" } : Jvm.MethodName)) ∈ WS := ws_4 33 rfl rfl
theorem wd_4_34 : (Jvm.Cond.instanceMethod ({ cls := "TradeLogs", name := "doubt", desc := "(I)I" } : Jvm.MethodName)) ∈ WS := ws_4 34 rfl rfl
theorem wd_4_35 : (Jvm.Cond.selects "TradeLogs" ({ cls := "TradeLogs", name := "doubt", desc := "(I)I" } : Jvm.MethodName) ({ cls := "TradeLogs", name := "doubt", desc := "(I)I" } : Jvm.MethodName)) ∈ WS := ws_4 35 rfl rfl
theorem wd_4_36 : (Jvm.Cond.code ({ cls := "TradeLogs", name := "doubt", desc := "(I)I" } : Jvm.MethodName) prog_1_method_8_code (2 : Nat) (Option.some Jvm.ClassFile.FieldType.int)) ∈ WS := ws_4 36 rfl rfl
theorem wd_4_37 : (Jvm.Cond.methodLink "TradeLogs" (76 : Nat) ({ cls := "TradeLogs", name := "faultOfDoubt", desc := "(I)I" } : Jvm.MethodName)) ∈ WS := ws_4 37 rfl rfl
theorem wd_4_39 : (Jvm.Cond.instanceMethod ({ cls := "TradeLogs", name := "faultOfDoubt", desc := "(I)I" } : Jvm.MethodName)) ∈ WS := ws_4 39 rfl rfl
theorem wd_4_40 : (Jvm.Cond.code ({ cls := "TradeLogs", name := "faultOfDoubt", desc := "(I)I" } : Jvm.MethodName) prog_1_method_43_code (3 : Nat) (Option.some Jvm.ClassFile.FieldType.int)) ∈ WS := ws_4 40 rfl rfl
theorem wd_4_41 : (Jvm.Cond.methodLink "TradeLogs" (267 : Nat) ({ cls := "TradeLogs$State", name := "mentorOf", desc := "(I)I" } : Jvm.MethodName)) ∈ WS := ws_4 41 rfl rfl
theorem wd_4_42 : (Jvm.Cond.instanceMethod ({ cls := "TradeLogs$State", name := "mentorOf", desc := "(I)I" } : Jvm.MethodName)) ∈ WS := ws_4 42 rfl rfl
theorem wd_4_43 : (Jvm.Cond.selects "TradeLogs$State" ({ cls := "TradeLogs$State", name := "mentorOf", desc := "(I)I" } : Jvm.MethodName) ({ cls := "TradeLogs$State", name := "mentorOf", desc := "(I)I" } : Jvm.MethodName)) ∈ WS := ws_4 43 rfl rfl
theorem wd_4_44 : (Jvm.Cond.code ({ cls := "TradeLogs$State", name := "mentorOf", desc := "(I)I" } : Jvm.MethodName) prog_9_method_11_code (2 : Nat) (Option.some Jvm.ClassFile.FieldType.int)) ∈ WS := ws_4 44 rfl rfl
theorem wd_4_45 : (Jvm.Cond.methodLink "TradeLogs" (223 : Nat) ({ cls := "TradeLogs$State", name := "entryCount", desc := "(IZ)I" } : Jvm.MethodName)) ∈ WS := ws_4 45 rfl rfl
theorem wd_4_46 : (Jvm.Cond.instanceMethod ({ cls := "TradeLogs$State", name := "entryCount", desc := "(IZ)I" } : Jvm.MethodName)) ∈ WS := ws_4 46 rfl rfl
theorem wd_4_47 : (Jvm.Cond.selects "TradeLogs$State" ({ cls := "TradeLogs$State", name := "entryCount", desc := "(IZ)I" } : Jvm.MethodName) ({ cls := "TradeLogs$State", name := "entryCount", desc := "(IZ)I" } : Jvm.MethodName)) ∈ WS := ws_4 47 rfl rfl
theorem wd_4_48 : (Jvm.Cond.code ({ cls := "TradeLogs$State", name := "entryCount", desc := "(IZ)I" } : Jvm.MethodName) prog_9_method_12_code (4 : Nat) (Option.some Jvm.ClassFile.FieldType.int)) ∈ WS := ws_4 48 rfl rfl
theorem wd_4_49 : (Jvm.Cond.methodLink "TradeLogs" (80 : Nat) ({ cls := "TradeLogs$State", name := "doubtOldest", desc := "(I)I" } : Jvm.MethodName)) ∈ WS := ws_4 49 rfl rfl
theorem wd_4_50 : (Jvm.Cond.instanceMethod ({ cls := "TradeLogs$State", name := "doubtOldest", desc := "(I)I" } : Jvm.MethodName)) ∈ WS := ws_4 50 rfl rfl
theorem wd_4_51 : (Jvm.Cond.selects "TradeLogs$State" ({ cls := "TradeLogs$State", name := "doubtOldest", desc := "(I)I" } : Jvm.MethodName) ({ cls := "TradeLogs$State", name := "doubtOldest", desc := "(I)I" } : Jvm.MethodName)) ∈ WS := ws_4 51 rfl rfl
theorem wd_4_52 : (Jvm.Cond.code ({ cls := "TradeLogs$State", name := "doubtOldest", desc := "(I)I" } : Jvm.MethodName) prog_9_method_29_code (4 : Nat) (Option.some Jvm.ClassFile.FieldType.int)) ∈ WS := ws_4 52 rfl rfl
theorem wd_4_53 : (Jvm.Cond.methodLink "TradeLogs$State" (181 : Nat) ({ cls := "TradeLogs$Apprentice", name := "doubtAt", desc := "(I)V" } : Jvm.MethodName)) ∈ WS := ws_4 53 rfl rfl
theorem wd_4_54 : (Jvm.Cond.methodLink "TradeLogsLaw" (150 : Nat) ({ cls := "TradeLogsLaw", name := "settles", desc := "(LTradeLogs;IZ)I" } : Jvm.MethodName)) ∈ WS := ws_4 54 rfl rfl
theorem wd_4_55 : (Jvm.Cond.static ({ cls := "TradeLogsLaw", name := "settles", desc := "(LTradeLogs;IZ)I" } : Jvm.MethodName)) ∈ WS := ws_4 55 rfl rfl
theorem wd_4_57 : (Jvm.Cond.methodLink "TradeLogsLaw" (44 : Nat) ({ cls := "TradeLogs", name := "settle", desc := "(IZ)I" } : Jvm.MethodName)) ∈ WS := ws_4 57 rfl rfl
theorem wd_4_58 : (Jvm.Cond.instanceMethod ({ cls := "TradeLogs", name := "settle", desc := "(IZ)I" } : Jvm.MethodName)) ∈ WS := ws_4 58 rfl rfl
theorem wd_4_59 : (Jvm.Cond.selects "TradeLogs" ({ cls := "TradeLogs", name := "settle", desc := "(IZ)I" } : Jvm.MethodName) ({ cls := "TradeLogs", name := "settle", desc := "(IZ)I" } : Jvm.MethodName)) ∈ WS := ws_4 59 rfl rfl
theorem wd_4_60 : (Jvm.Cond.code ({ cls := "TradeLogs", name := "settle", desc := "(IZ)I" } : Jvm.MethodName) prog_1_method_9_code (3 : Nat) (Option.some Jvm.ClassFile.FieldType.int)) ∈ WS := ws_4 60 rfl rfl
theorem wd_4_61 : (Jvm.Cond.methodLink "TradeLogs" (83 : Nat) ({ cls := "TradeLogs", name := "faultOfSettle", desc := "(IZ)I" } : Jvm.MethodName)) ∈ WS := ws_4 61 rfl rfl
theorem wd_4_63 : (Jvm.Cond.instanceMethod ({ cls := "TradeLogs", name := "faultOfSettle", desc := "(IZ)I" } : Jvm.MethodName)) ∈ WS := ws_4 63 rfl rfl
theorem wd_4_64 : (Jvm.Cond.code ({ cls := "TradeLogs", name := "faultOfSettle", desc := "(IZ)I" } : Jvm.MethodName) prog_1_method_44_code (3 : Nat) (Option.some Jvm.ClassFile.FieldType.int)) ∈ WS := ws_4 64 rfl rfl
theorem wd_4_65 : (Jvm.Cond.methodLink "TradeLogs" (270 : Nat) ({ cls := "TradeLogs$State", name := "canSettle", desc := "(IZ)Z" } : Jvm.MethodName)) ∈ WS := ws_4 65 rfl rfl
theorem wd_4_66 : (Jvm.Cond.instanceMethod ({ cls := "TradeLogs$State", name := "canSettle", desc := "(IZ)Z" } : Jvm.MethodName)) ∈ WS := ws_4 66 rfl rfl
theorem wd_4_67 : (Jvm.Cond.selects "TradeLogs$State" ({ cls := "TradeLogs$State", name := "canSettle", desc := "(IZ)Z" } : Jvm.MethodName) ({ cls := "TradeLogs$State", name := "canSettle", desc := "(IZ)Z" } : Jvm.MethodName)) ∈ WS := ws_4 67 rfl rfl
theorem wd_4_68 : (Jvm.Cond.code ({ cls := "TradeLogs$State", name := "canSettle", desc := "(IZ)Z" } : Jvm.MethodName) prog_9_method_19_code (4 : Nat) (Option.some Jvm.ClassFile.FieldType.boolean)) ∈ WS := ws_4 68 rfl rfl
theorem wd_4_69 : (Jvm.Cond.methodLink "TradeLogs$State" (149 : Nat) ({ cls := "TradeLogs$Apprentice", name := "canAdd", desc := "(II)Z" } : Jvm.MethodName)) ∈ WS := ws_4 69 rfl rfl
theorem wd_4_70 : (Jvm.Cond.methodLink "TradeLogs" (87 : Nat) ({ cls := "TradeLogs$State", name := "settleOldest", desc := "(IZ)I" } : Jvm.MethodName)) ∈ WS := ws_4 70 rfl rfl
theorem wd_4_71 : (Jvm.Cond.instanceMethod ({ cls := "TradeLogs$State", name := "settleOldest", desc := "(IZ)I" } : Jvm.MethodName)) ∈ WS := ws_4 71 rfl rfl
theorem wd_4_72 : (Jvm.Cond.selects "TradeLogs$State" ({ cls := "TradeLogs$State", name := "settleOldest", desc := "(IZ)I" } : Jvm.MethodName) ({ cls := "TradeLogs$State", name := "settleOldest", desc := "(IZ)I" } : Jvm.MethodName)) ∈ WS := ws_4 72 rfl rfl
theorem wd_4_73 : (Jvm.Cond.code ({ cls := "TradeLogs$State", name := "settleOldest", desc := "(IZ)I" } : Jvm.MethodName) prog_9_method_30_code (5 : Nat) (Option.some Jvm.ClassFile.FieldType.int)) ∈ WS := ws_4 73 rfl rfl
theorem wd_4_74 : (Jvm.Cond.methodLink "TradeLogs$State" (184 : Nat) ({ cls := "TradeLogs$Apprentice", name := "addDone", desc := "(II)V" } : Jvm.MethodName)) ∈ WS := ws_4 74 rfl rfl
theorem wd_4_75 : (Jvm.Cond.methodLink "TradeLogs$State" (190 : Nat) ({ cls := "TradeLogs$EntryQueue", name := "removeAt", desc := "(I)V" } : Jvm.MethodName)) ∈ WS := ws_4 75 rfl rfl
theorem wd_4_76 : (Jvm.Cond.methodLink "TradeLogsLaw" (154 : Nat) ({ cls := "TradeLogsLaw", name := "credits", desc := "(LTradeLogs;III)I" } : Jvm.MethodName)) ∈ WS := ws_4 76 rfl rfl
theorem wd_4_77 : (Jvm.Cond.static ({ cls := "TradeLogsLaw", name := "credits", desc := "(LTradeLogs;III)I" } : Jvm.MethodName)) ∈ WS := ws_4 77 rfl rfl
theorem wd_4_79 : (Jvm.Cond.methodLink "TradeLogsLaw" (48 : Nat) ({ cls := "TradeLogs", name := "credit", desc := "(III)I" } : Jvm.MethodName)) ∈ WS := ws_4 79 rfl rfl
theorem wd_4_80 : (Jvm.Cond.instanceMethod ({ cls := "TradeLogs", name := "credit", desc := "(III)I" } : Jvm.MethodName)) ∈ WS := ws_4 80 rfl rfl
theorem wd_4_81 : (Jvm.Cond.selects "TradeLogs" ({ cls := "TradeLogs", name := "credit", desc := "(III)I" } : Jvm.MethodName) ({ cls := "TradeLogs", name := "credit", desc := "(III)I" } : Jvm.MethodName)) ∈ WS := ws_4 81 rfl rfl
theorem wd_4_82 : (Jvm.Cond.code ({ cls := "TradeLogs", name := "credit", desc := "(III)I" } : Jvm.MethodName) prog_1_method_10_code (4 : Nat) (Option.some Jvm.ClassFile.FieldType.int)) ∈ WS := ws_4 82 rfl rfl
theorem wd_4_83 : (Jvm.Cond.methodLink "TradeLogs" (90 : Nat) ({ cls := "TradeLogs", name := "faultOfCredit", desc := "(III)I" } : Jvm.MethodName)) ∈ WS := ws_4 83 rfl rfl
theorem wd_4_85 : (Jvm.Cond.instanceMethod ({ cls := "TradeLogs", name := "faultOfCredit", desc := "(III)I" } : Jvm.MethodName)) ∈ WS := ws_4 85 rfl rfl
theorem wd_4_86 : (Jvm.Cond.code ({ cls := "TradeLogs", name := "faultOfCredit", desc := "(III)I" } : Jvm.MethodName) prog_1_method_45_code (4 : Nat) (Option.some Jvm.ClassFile.FieldType.int)) ∈ WS := ws_4 86 rfl rfl
theorem wd_4_87 : (Jvm.Cond.methodLink "TradeLogs" (274 : Nat) ({ cls := "TradeLogs$State", name := "canCredit", desc := "(III)Z" } : Jvm.MethodName)) ∈ WS := ws_4 87 rfl rfl
theorem wd_4_88 : (Jvm.Cond.instanceMethod ({ cls := "TradeLogs$State", name := "canCredit", desc := "(III)Z" } : Jvm.MethodName)) ∈ WS := ws_4 88 rfl rfl
theorem wd_4_89 : (Jvm.Cond.selects "TradeLogs$State" ({ cls := "TradeLogs$State", name := "canCredit", desc := "(III)Z" } : Jvm.MethodName) ({ cls := "TradeLogs$State", name := "canCredit", desc := "(III)Z" } : Jvm.MethodName)) ∈ WS := ws_4 89 rfl rfl
theorem wd_4_90 : (Jvm.Cond.code ({ cls := "TradeLogs$State", name := "canCredit", desc := "(III)Z" } : Jvm.MethodName) prog_9_method_20_code (4 : Nat) (Option.some Jvm.ClassFile.FieldType.boolean)) ∈ WS := ws_4 90 rfl rfl
theorem wd_4_91 : (Jvm.Cond.methodLink "TradeLogs" (93 : Nat) ({ cls := "TradeLogs$State", name := "putCredit", desc := "(III)I" } : Jvm.MethodName)) ∈ WS := ws_4 91 rfl rfl
theorem wd_4_92 : (Jvm.Cond.instanceMethod ({ cls := "TradeLogs$State", name := "putCredit", desc := "(III)I" } : Jvm.MethodName)) ∈ WS := ws_4 92 rfl rfl
theorem wd_4_93 : (Jvm.Cond.selects "TradeLogs$State" ({ cls := "TradeLogs$State", name := "putCredit", desc := "(III)I" } : Jvm.MethodName) ({ cls := "TradeLogs$State", name := "putCredit", desc := "(III)I" } : Jvm.MethodName)) ∈ WS := ws_4 93 rfl rfl
theorem wd_4_94 : (Jvm.Cond.code ({ cls := "TradeLogs$State", name := "putCredit", desc := "(III)I" } : Jvm.MethodName) prog_9_method_31_code (4 : Nat) (Option.some Jvm.ClassFile.FieldType.int)) ∈ WS := ws_4 94 rfl rfl
theorem wd_4_95 : (Jvm.Cond.methodLink "TradeLogsLaw" (157 : Nat) ({ cls := "TradeLogsLaw", name := "moves", desc := "(LTradeLogs;II)I" } : Jvm.MethodName)) ∈ WS := ws_4 95 rfl rfl
theorem wd_4_96 : (Jvm.Cond.static ({ cls := "TradeLogsLaw", name := "moves", desc := "(LTradeLogs;II)I" } : Jvm.MethodName)) ∈ WS := ws_4 96 rfl rfl
theorem wd_4_98 : (Jvm.Cond.methodLink "TradeLogsLaw" (55 : Nat) ({ cls := "TradeLogs", name := "move", desc := "(II)I" } : Jvm.MethodName)) ∈ WS := ws_4 98 rfl rfl
theorem wd_4_99 : (Jvm.Cond.instanceMethod ({ cls := "TradeLogs", name := "move", desc := "(II)I" } : Jvm.MethodName)) ∈ WS := ws_4 99 rfl rfl
theorem wd_4_100 : (Jvm.Cond.selects "TradeLogs" ({ cls := "TradeLogs", name := "move", desc := "(II)I" } : Jvm.MethodName) ({ cls := "TradeLogs", name := "move", desc := "(II)I" } : Jvm.MethodName)) ∈ WS := ws_4 100 rfl rfl
theorem wd_4_101 : (Jvm.Cond.code ({ cls := "TradeLogs", name := "move", desc := "(II)I" } : Jvm.MethodName) prog_1_method_12_code (3 : Nat) (Option.some Jvm.ClassFile.FieldType.int)) ∈ WS := ws_4 101 rfl rfl
theorem wd_4_102 : (Jvm.Cond.methodLink "TradeLogs" (102 : Nat) ({ cls := "TradeLogs", name := "faultOfMove", desc := "(II)I" } : Jvm.MethodName)) ∈ WS := ws_4 102 rfl rfl
theorem wd_4_104 : (Jvm.Cond.instanceMethod ({ cls := "TradeLogs", name := "faultOfMove", desc := "(II)I" } : Jvm.MethodName)) ∈ WS := ws_4 104 rfl rfl
theorem wd_4_105 : (Jvm.Cond.code ({ cls := "TradeLogs", name := "faultOfMove", desc := "(II)I" } : Jvm.MethodName) prog_1_method_48_code (3 : Nat) (Option.some Jvm.ClassFile.FieldType.int)) ∈ WS := ws_4 105 rfl rfl
theorem wd_4_106 : (Jvm.Cond.methodLink "TradeLogs" (120 : Nat) ({ cls := "TradeLogs", name := "faultOfPair", desc := "(II)I" } : Jvm.MethodName)) ∈ WS := ws_4 106 rfl rfl
theorem wd_4_108 : (Jvm.Cond.instanceMethod ({ cls := "TradeLogs", name := "faultOfPair", desc := "(II)I" } : Jvm.MethodName)) ∈ WS := ws_4 108 rfl rfl
theorem wd_4_109 : (Jvm.Cond.code ({ cls := "TradeLogs", name := "faultOfPair", desc := "(II)I" } : Jvm.MethodName) prog_1_method_47_code (3 : Nat) (Option.some Jvm.ClassFile.FieldType.int)) ∈ WS := ws_4 109 rfl rfl
theorem wd_4_110 : (Jvm.Cond.methodLink "TradeLogs" (123 : Nat) ({ cls := "TradeLogs$State", name := "obstacle", desc := "(II)I" } : Jvm.MethodName)) ∈ WS := ws_4 110 rfl rfl
theorem wd_4_111 : (Jvm.Cond.instanceMethod ({ cls := "TradeLogs$State", name := "obstacle", desc := "(II)I" } : Jvm.MethodName)) ∈ WS := ws_4 111 rfl rfl
theorem wd_4_112 : (Jvm.Cond.selects "TradeLogs$State" ({ cls := "TradeLogs$State", name := "obstacle", desc := "(II)I" } : Jvm.MethodName) ({ cls := "TradeLogs$State", name := "obstacle", desc := "(II)I" } : Jvm.MethodName)) ∈ WS := ws_4 112 rfl rfl
theorem wd_4_113 : (Jvm.Cond.code ({ cls := "TradeLogs$State", name := "obstacle", desc := "(II)I" } : Jvm.MethodName) prog_9_method_21_code (4 : Nat) (Option.some Jvm.ClassFile.FieldType.int)) ∈ WS := ws_4 113 rfl rfl
theorem wd_4_114 : (Jvm.Cond.methodLink "TradeLogs$State" (152 : Nat) ({ cls := "TradeLogs$State", name := "teaches", desc := "(II)Z" } : Jvm.MethodName)) ∈ WS := ws_4 114 rfl rfl
theorem wd_4_115 : (Jvm.Cond.methodLink "TradeLogs$State" (155 : Nat) ({ cls := "TradeLogs$State", name := "isFull", desc := "(I)Z" } : Jvm.MethodName)) ∈ WS := ws_4 115 rfl rfl
theorem wd_4_116 : (Jvm.Cond.methodLink "TradeLogs" (105 : Nat) ({ cls := "TradeLogs$State", name := "moveTo", desc := "(II)I" } : Jvm.MethodName)) ∈ WS := ws_4 116 rfl rfl
theorem wd_4_117 : (Jvm.Cond.instanceMethod ({ cls := "TradeLogs$State", name := "moveTo", desc := "(II)I" } : Jvm.MethodName)) ∈ WS := ws_4 117 rfl rfl
theorem wd_4_118 : (Jvm.Cond.selects "TradeLogs$State" ({ cls := "TradeLogs$State", name := "moveTo", desc := "(II)I" } : Jvm.MethodName) ({ cls := "TradeLogs$State", name := "moveTo", desc := "(II)I" } : Jvm.MethodName)) ∈ WS := ws_4 118 rfl rfl
theorem wd_4_119 : (Jvm.Cond.code ({ cls := "TradeLogs$State", name := "moveTo", desc := "(II)I" } : Jvm.MethodName) prog_9_method_33_code (3 : Nat) (Option.some Jvm.ClassFile.FieldType.int)) ∈ WS := ws_4 119 rfl rfl
theorem wd_4_120 : (Jvm.Cond.methodLink "TradeLogs$State" (199 : Nat) ({ cls := "TradeLogs$Apprentice", name := "leadTo", desc := "(I)I" } : Jvm.MethodName)) ∈ WS := ws_4 120 rfl rfl
theorem wd_4_121 : (Jvm.Cond.instanceMethod ({ cls := "TradeLogs$Apprentice", name := "leadTo", desc := "(I)I" } : Jvm.MethodName)) ∈ WS := ws_4 121 rfl rfl
theorem wd_4_122 : (Jvm.Cond.selects "TradeLogs$Apprentice" ({ cls := "TradeLogs$Apprentice", name := "leadTo", desc := "(I)I" } : Jvm.MethodName) ({ cls := "TradeLogs$Apprentice", name := "leadTo", desc := "(I)I" } : Jvm.MethodName)) ∈ WS := ws_4 122 rfl rfl
theorem wd_4_123 : (Jvm.Cond.code ({ cls := "TradeLogs$Apprentice", name := "leadTo", desc := "(I)I" } : Jvm.MethodName) prog_3_method_13_code (5 : Nat) (Option.some Jvm.ClassFile.FieldType.int)) ∈ WS := ws_4 123 rfl rfl
theorem wd_4_124 : (Jvm.Cond.methodLink "TradeLogsLaw" (160 : Nat) ({ cls := "TradeLogsLaw", name := "leaves", desc := "(LTradeLogs;I)I" } : Jvm.MethodName)) ∈ WS := ws_4 124 rfl rfl
theorem wd_4_125 : (Jvm.Cond.static ({ cls := "TradeLogsLaw", name := "leaves", desc := "(LTradeLogs;I)I" } : Jvm.MethodName)) ∈ WS := ws_4 125 rfl rfl
theorem wd_4_127 : (Jvm.Cond.methodLink "TradeLogsLaw" (58 : Nat) ({ cls := "TradeLogs", name := "leave", desc := "(I)I" } : Jvm.MethodName)) ∈ WS := ws_4 127 rfl rfl
theorem wd_4_128 : (Jvm.Cond.instanceMethod ({ cls := "TradeLogs", name := "leave", desc := "(I)I" } : Jvm.MethodName)) ∈ WS := ws_4 128 rfl rfl
theorem wd_4_129 : (Jvm.Cond.selects "TradeLogs" ({ cls := "TradeLogs", name := "leave", desc := "(I)I" } : Jvm.MethodName) ({ cls := "TradeLogs", name := "leave", desc := "(I)I" } : Jvm.MethodName)) ∈ WS := ws_4 129 rfl rfl
theorem wd_4_130 : (Jvm.Cond.code ({ cls := "TradeLogs", name := "leave", desc := "(I)I" } : Jvm.MethodName) prog_1_method_13_code (2 : Nat) (Option.some Jvm.ClassFile.FieldType.int)) ∈ WS := ws_4 130 rfl rfl
theorem wd_4_131 : (Jvm.Cond.methodLink "TradeLogs" (108 : Nat) ({ cls := "TradeLogs", name := "faultOfLeave", desc := "(I)I" } : Jvm.MethodName)) ∈ WS := ws_4 131 rfl rfl
theorem wd_4_133 : (Jvm.Cond.instanceMethod ({ cls := "TradeLogs", name := "faultOfLeave", desc := "(I)I" } : Jvm.MethodName)) ∈ WS := ws_4 133 rfl rfl
theorem wd_4_134 : (Jvm.Cond.code ({ cls := "TradeLogs", name := "faultOfLeave", desc := "(I)I" } : Jvm.MethodName) prog_1_method_49_code (2 : Nat) (Option.some Jvm.ClassFile.FieldType.int)) ∈ WS := ws_4 134 rfl rfl
theorem wd_4_135 : (Jvm.Cond.methodLink "TradeLogs" (111 : Nat) ({ cls := "TradeLogs$State", name := "takeFromMentor", desc := "(I)I" } : Jvm.MethodName)) ∈ WS := ws_4 135 rfl rfl
theorem wd_4_136 : (Jvm.Cond.instanceMethod ({ cls := "TradeLogs$State", name := "takeFromMentor", desc := "(I)I" } : Jvm.MethodName)) ∈ WS := ws_4 136 rfl rfl
theorem wd_4_137 : (Jvm.Cond.selects "TradeLogs$State" ({ cls := "TradeLogs$State", name := "takeFromMentor", desc := "(I)I" } : Jvm.MethodName) ({ cls := "TradeLogs$State", name := "takeFromMentor", desc := "(I)I" } : Jvm.MethodName)) ∈ WS := ws_4 137 rfl rfl
theorem wd_4_138 : (Jvm.Cond.code ({ cls := "TradeLogs$State", name := "takeFromMentor", desc := "(I)I" } : Jvm.MethodName) prog_9_method_34_code (3 : Nat) (Option.some Jvm.ClassFile.FieldType.int)) ∈ WS := ws_4 138 rfl rfl
theorem wd_4_139 : (Jvm.Cond.methodLink "TradeLogsLaw" (163 : Nat) ({ cls := "TradeLogsLaw", name := "swaps", desc := "(LTradeLogs;II)I" } : Jvm.MethodName)) ∈ WS := ws_4 139 rfl rfl
theorem wd_4_140 : (Jvm.Cond.static ({ cls := "TradeLogsLaw", name := "swaps", desc := "(LTradeLogs;II)I" } : Jvm.MethodName)) ∈ WS := ws_4 140 rfl rfl
theorem wd_4_142 : (Jvm.Cond.methodLink "TradeLogsLaw" (61 : Nat) ({ cls := "TradeLogs", name := "exchange", desc := "(II)I" } : Jvm.MethodName)) ∈ WS := ws_4 142 rfl rfl
theorem wd_4_143 : (Jvm.Cond.instanceMethod ({ cls := "TradeLogs", name := "exchange", desc := "(II)I" } : Jvm.MethodName)) ∈ WS := ws_4 143 rfl rfl
theorem wd_4_144 : (Jvm.Cond.selects "TradeLogs" ({ cls := "TradeLogs", name := "exchange", desc := "(II)I" } : Jvm.MethodName) ({ cls := "TradeLogs", name := "exchange", desc := "(II)I" } : Jvm.MethodName)) ∈ WS := ws_4 144 rfl rfl
theorem wd_4_145 : (Jvm.Cond.code ({ cls := "TradeLogs", name := "exchange", desc := "(II)I" } : Jvm.MethodName) prog_1_method_14_code (3 : Nat) (Option.some Jvm.ClassFile.FieldType.int)) ∈ WS := ws_4 145 rfl rfl
theorem wd_4_146 : (Jvm.Cond.methodLink "TradeLogs" (114 : Nat) ({ cls := "TradeLogs", name := "faultOfExchange", desc := "(II)I" } : Jvm.MethodName)) ∈ WS := ws_4 146 rfl rfl
theorem wd_4_148 : (Jvm.Cond.instanceMethod ({ cls := "TradeLogs", name := "faultOfExchange", desc := "(II)I" } : Jvm.MethodName)) ∈ WS := ws_4 148 rfl rfl
theorem wd_4_149 : (Jvm.Cond.code ({ cls := "TradeLogs", name := "faultOfExchange", desc := "(II)I" } : Jvm.MethodName) prog_1_method_50_code (3 : Nat) (Option.some Jvm.ClassFile.FieldType.int)) ∈ WS := ws_4 149 rfl rfl
theorem wd_4_150 : (Jvm.Cond.methodLink "TradeLogs" (162 : Nat) ({ cls := "TradeLogs$State", name := "canExchange", desc := "(II)Z" } : Jvm.MethodName)) ∈ WS := ws_4 150 rfl rfl
theorem wd_4_151 : (Jvm.Cond.instanceMethod ({ cls := "TradeLogs$State", name := "canExchange", desc := "(II)Z" } : Jvm.MethodName)) ∈ WS := ws_4 151 rfl rfl
theorem wd_4_152 : (Jvm.Cond.selects "TradeLogs$State" ({ cls := "TradeLogs$State", name := "canExchange", desc := "(II)Z" } : Jvm.MethodName) ({ cls := "TradeLogs$State", name := "canExchange", desc := "(II)Z" } : Jvm.MethodName)) ∈ WS := ws_4 152 rfl rfl
theorem wd_4_153 : (Jvm.Cond.code ({ cls := "TradeLogs$State", name := "canExchange", desc := "(II)Z" } : Jvm.MethodName) prog_9_method_22_code (5 : Nat) (Option.some Jvm.ClassFile.FieldType.boolean)) ∈ WS := ws_4 153 rfl rfl
theorem wd_4_154 : (Jvm.Cond.methodLink "TradeLogs" (117 : Nat) ({ cls := "TradeLogs$State", name := "exchangeBoth", desc := "(II)I" } : Jvm.MethodName)) ∈ WS := ws_4 154 rfl rfl
theorem wd_4_155 : (Jvm.Cond.instanceMethod ({ cls := "TradeLogs$State", name := "exchangeBoth", desc := "(II)I" } : Jvm.MethodName)) ∈ WS := ws_4 155 rfl rfl
theorem wd_4_156 : (Jvm.Cond.selects "TradeLogs$State" ({ cls := "TradeLogs$State", name := "exchangeBoth", desc := "(II)I" } : Jvm.MethodName) ({ cls := "TradeLogs$State", name := "exchangeBoth", desc := "(II)I" } : Jvm.MethodName)) ∈ WS := ws_4 156 rfl rfl
theorem wd_4_157 : (Jvm.Cond.code ({ cls := "TradeLogs$State", name := "exchangeBoth", desc := "(II)I" } : Jvm.MethodName) prog_9_method_35_code (5 : Nat) (Option.some Jvm.ClassFile.FieldType.int)) ∈ WS := ws_4 157 rfl rfl
theorem wd_4_158 : (Jvm.Cond.methodLink "TradeLogsLaw" (166 : Nat) ({ cls := "TradeLogsLaw", name := "why", desc := "(LTradeLogs;II)I" } : Jvm.MethodName)) ∈ WS := ws_4 158 rfl rfl
theorem wd_4_159 : (Jvm.Cond.static ({ cls := "TradeLogsLaw", name := "why", desc := "(LTradeLogs;II)I" } : Jvm.MethodName)) ∈ WS := ws_4 159 rfl rfl
theorem wd_4_161 : (Jvm.Cond.methodLink "TradeLogsLaw" (64 : Nat) ({ cls := "TradeLogs", name := "reason", desc := "(II)I" } : Jvm.MethodName)) ∈ WS := ws_4 161 rfl rfl
theorem wd_4_162 : (Jvm.Cond.instanceMethod ({ cls := "TradeLogs", name := "reason", desc := "(II)I" } : Jvm.MethodName)) ∈ WS := ws_4 162 rfl rfl
theorem wd_4_163 : (Jvm.Cond.selects "TradeLogs" ({ cls := "TradeLogs", name := "reason", desc := "(II)I" } : Jvm.MethodName) ({ cls := "TradeLogs", name := "reason", desc := "(II)I" } : Jvm.MethodName)) ∈ WS := ws_4 163 rfl rfl
theorem wd_4_164 : (Jvm.Cond.code ({ cls := "TradeLogs", name := "reason", desc := "(II)I" } : Jvm.MethodName) prog_1_method_15_code (3 : Nat) (Option.some Jvm.ClassFile.FieldType.int)) ∈ WS := ws_4 164 rfl rfl
theorem wd_4_165 : (Jvm.Cond.methodLink "TradeLogsLaw" (169 : Nat) ({ cls := "TradeLogsLaw", name := "best", desc := "(LTradeLogs;I)I" } : Jvm.MethodName)) ∈ WS := ws_4 165 rfl rfl
theorem wd_4_166 : (Jvm.Cond.static ({ cls := "TradeLogsLaw", name := "best", desc := "(LTradeLogs;I)I" } : Jvm.MethodName)) ∈ WS := ws_4 166 rfl rfl
theorem wd_4_168 : (Jvm.Cond.methodLink "TradeLogsLaw" (86 : Nat) ({ cls := "TradeLogs", name := "bestMentor", desc := "(I)I" } : Jvm.MethodName)) ∈ WS := ws_4 168 rfl rfl
theorem wd_4_169 : (Jvm.Cond.instanceMethod ({ cls := "TradeLogs", name := "bestMentor", desc := "(I)I" } : Jvm.MethodName)) ∈ WS := ws_4 169 rfl rfl
theorem wd_4_170 : (Jvm.Cond.selects "TradeLogs" ({ cls := "TradeLogs", name := "bestMentor", desc := "(I)I" } : Jvm.MethodName) ({ cls := "TradeLogs", name := "bestMentor", desc := "(I)I" } : Jvm.MethodName)) ∈ WS := ws_4 170 rfl rfl
theorem wd_4_171 : (Jvm.Cond.code ({ cls := "TradeLogs", name := "bestMentor", desc := "(I)I" } : Jvm.MethodName) prog_1_method_22_code (2 : Nat) (Option.some Jvm.ClassFile.FieldType.int)) ∈ WS := ws_4 171 rfl rfl
theorem wd_4_172 : (Jvm.Cond.methodLink "TradeLogs" (159 : Nat) ({ cls := "TradeLogs$State", name := "leastBusyMentor", desc := "(I)I" } : Jvm.MethodName)) ∈ WS := ws_4 172 rfl rfl
theorem wd_4_173 : (Jvm.Cond.instanceMethod ({ cls := "TradeLogs$State", name := "leastBusyMentor", desc := "(I)I" } : Jvm.MethodName)) ∈ WS := ws_4 173 rfl rfl
theorem wd_4_174 : (Jvm.Cond.selects "TradeLogs$State" ({ cls := "TradeLogs$State", name := "leastBusyMentor", desc := "(I)I" } : Jvm.MethodName) ({ cls := "TradeLogs$State", name := "leastBusyMentor", desc := "(I)I" } : Jvm.MethodName)) ∈ WS := ws_4 174 rfl rfl
theorem wd_4_175 : (Jvm.Cond.code ({ cls := "TradeLogs$State", name := "leastBusyMentor", desc := "(I)I" } : Jvm.MethodName) prog_9_method_44_code (4 : Nat) (Option.some Jvm.ClassFile.FieldType.int)) ∈ WS := ws_4 175 rfl rfl
theorem wd_4_176 : (Jvm.Cond.methodLink "TradeLogs$State" (225 : Nat) ({ cls := "TradeLogs$State", name := "obstacle", desc := "(II)I" } : Jvm.MethodName)) ∈ WS := ws_4 176 rfl rfl
theorem wd_4_177 : (Jvm.Cond.methodLink "TradeLogs$State" (228 : Nat) ({ cls := "TradeLogs$State", name := "isLessBusy", desc := "(II)Z" } : Jvm.MethodName)) ∈ WS := ws_4 177 rfl rfl
theorem wd_4_179 : (Jvm.Cond.instanceMethod ({ cls := "TradeLogs$State", name := "isLessBusy", desc := "(II)Z" } : Jvm.MethodName)) ∈ WS := ws_4 179 rfl rfl
theorem wd_4_180 : (Jvm.Cond.code ({ cls := "TradeLogs$State", name := "isLessBusy", desc := "(II)Z" } : Jvm.MethodName) prog_9_method_45_code (3 : Nat) (Option.some Jvm.ClassFile.FieldType.boolean)) ∈ WS := ws_4 180 rfl rfl
theorem wd_4_181 : (Jvm.Cond.methodLink "TradeLogsLaw" (172 : Nat) ({ cls := "TradeLogsLaw", name := "doubted", desc := "(LTradeLogs;II)I" } : Jvm.MethodName)) ∈ WS := ws_4 181 rfl rfl
theorem wd_4_182 : (Jvm.Cond.static ({ cls := "TradeLogsLaw", name := "doubted", desc := "(LTradeLogs;II)I" } : Jvm.MethodName)) ∈ WS := ws_4 182 rfl rfl
theorem wd_4_184 : (Jvm.Cond.methodLink "TradeLogsLaw" (89 : Nat) ({ cls := "TradeLogs", name := "doubtsBy", desc := "(II)I" } : Jvm.MethodName)) ∈ WS := ws_4 184 rfl rfl
theorem wd_4_185 : (Jvm.Cond.instanceMethod ({ cls := "TradeLogs", name := "doubtsBy", desc := "(II)I" } : Jvm.MethodName)) ∈ WS := ws_4 185 rfl rfl
theorem wd_4_186 : (Jvm.Cond.selects "TradeLogs" ({ cls := "TradeLogs", name := "doubtsBy", desc := "(II)I" } : Jvm.MethodName) ({ cls := "TradeLogs", name := "doubtsBy", desc := "(II)I" } : Jvm.MethodName)) ∈ WS := ws_4 186 rfl rfl
theorem wd_4_187 : (Jvm.Cond.code ({ cls := "TradeLogs", name := "doubtsBy", desc := "(II)I" } : Jvm.MethodName) prog_1_method_23_code (3 : Nat) (Option.some Jvm.ClassFile.FieldType.int)) ∈ WS := ws_4 187 rfl rfl
theorem wd_4_188 : (Jvm.Cond.methodLink "TradeLogs" (166 : Nat) ({ cls := "TradeLogs$State", name := "doubtsOfExchange", desc := "(II)I" } : Jvm.MethodName)) ∈ WS := ws_4 188 rfl rfl
theorem wd_4_189 : (Jvm.Cond.instanceMethod ({ cls := "TradeLogs$State", name := "doubtsOfExchange", desc := "(II)I" } : Jvm.MethodName)) ∈ WS := ws_4 189 rfl rfl
theorem wd_4_190 : (Jvm.Cond.selects "TradeLogs$State" ({ cls := "TradeLogs$State", name := "doubtsOfExchange", desc := "(II)I" } : Jvm.MethodName) ({ cls := "TradeLogs$State", name := "doubtsOfExchange", desc := "(II)I" } : Jvm.MethodName)) ∈ WS := ws_4 190 rfl rfl
theorem wd_4_191 : (Jvm.Cond.code ({ cls := "TradeLogs$State", name := "doubtsOfExchange", desc := "(II)I" } : Jvm.MethodName) prog_9_method_46_code (3 : Nat) (Option.some Jvm.ClassFile.FieldType.int)) ∈ WS := ws_4 191 rfl rfl
theorem wd_4_192 : (Jvm.Cond.methodLink "TradeLogs$State" (231 : Nat) ({ cls := "TradeLogs$Apprentice", name := "doubtsWith", desc := "(I)I" } : Jvm.MethodName)) ∈ WS := ws_4 192 rfl rfl
theorem wd_4_193 : (Jvm.Cond.instanceMethod ({ cls := "TradeLogs$Apprentice", name := "doubtsWith", desc := "(I)I" } : Jvm.MethodName)) ∈ WS := ws_4 193 rfl rfl
theorem wd_4_194 : (Jvm.Cond.selects "TradeLogs$Apprentice" ({ cls := "TradeLogs$Apprentice", name := "doubtsWith", desc := "(I)I" } : Jvm.MethodName) ({ cls := "TradeLogs$Apprentice", name := "doubtsWith", desc := "(I)I" } : Jvm.MethodName)) ∈ WS := ws_4 194 rfl rfl
theorem wd_4_195 : (Jvm.Cond.code ({ cls := "TradeLogs$Apprentice", name := "doubtsWith", desc := "(I)I" } : Jvm.MethodName) prog_3_method_12_code (2 : Nat) (Option.some Jvm.ClassFile.FieldType.int)) ∈ WS := ws_4 195 rfl rfl
theorem wd_4_196 : (Jvm.Cond.methodLink "TradeLogs$Apprentice" (100 : Nat) ({ cls := "TradeLogs$EntryQueue", name := "countWith", desc := "(I)I" } : Jvm.MethodName)) ∈ WS := ws_4 196 rfl rfl
theorem wd_4_197 : (Jvm.Cond.methodLink "TradeLogsLaw" (175 : Nat) ({ cls := "TradeLogsLaw", name := "types", desc := "(LTradeLogs;I)I" } : Jvm.MethodName)) ∈ WS := ws_4 197 rfl rfl
theorem wd_4_198 : (Jvm.Cond.static ({ cls := "TradeLogsLaw", name := "types", desc := "(LTradeLogs;I)I" } : Jvm.MethodName)) ∈ WS := ws_4 198 rfl rfl
theorem wd_4_200 : (Jvm.Cond.methodLink "TradeLogsLaw" (95 : Nat) ({ cls := "TradeLogs", name := "type", desc := "(I)I" } : Jvm.MethodName)) ∈ WS := ws_4 200 rfl rfl
theorem wd_4_201 : (Jvm.Cond.instanceMethod ({ cls := "TradeLogs", name := "type", desc := "(I)I" } : Jvm.MethodName)) ∈ WS := ws_4 201 rfl rfl
theorem wd_4_202 : (Jvm.Cond.selects "TradeLogs" ({ cls := "TradeLogs", name := "type", desc := "(I)I" } : Jvm.MethodName) ({ cls := "TradeLogs", name := "type", desc := "(I)I" } : Jvm.MethodName)) ∈ WS := ws_4 202 rfl rfl
theorem wd_4_203 : (Jvm.Cond.code ({ cls := "TradeLogs", name := "type", desc := "(I)I" } : Jvm.MethodName) prog_1_method_25_code (2 : Nat) (Option.some Jvm.ClassFile.FieldType.int)) ∈ WS := ws_4 203 rfl rfl
theorem wd_4_204 : (Jvm.Cond.methodLink "TradeLogs" (176 : Nat) ({ cls := "TradeLogs$CommandText", name := "append", desc := "(I)I" } : Jvm.MethodName)) ∈ WS := ws_4 204 rfl rfl
theorem wd_4_205 : (Jvm.Cond.instanceMethod ({ cls := "TradeLogs$CommandText", name := "append", desc := "(I)I" } : Jvm.MethodName)) ∈ WS := ws_4 205 rfl rfl
theorem wd_4_206 : (Jvm.Cond.selects "TradeLogs$CommandText" ({ cls := "TradeLogs$CommandText", name := "append", desc := "(I)I" } : Jvm.MethodName) ({ cls := "TradeLogs$CommandText", name := "append", desc := "(I)I" } : Jvm.MethodName)) ∈ WS := ws_4 206 rfl rfl
theorem wd_4_207 : (Jvm.Cond.code ({ cls := "TradeLogs$CommandText", name := "append", desc := "(I)I" } : Jvm.MethodName) prog_5_method_2_code (2 : Nat) (Option.some Jvm.ClassFile.FieldType.int)) ∈ WS := ws_4 207 rfl rfl
theorem wd_4_208 : (Jvm.Cond.methodLink "TradeLogsLaw" (211 : Nat) ({ cls := "TradeLogsLaw", name := "fits", desc := "(LTradeLogs;)Z" } : Jvm.MethodName)) ∈ WS := ws_4 208 rfl rfl
theorem wd_4_209 : (Jvm.Cond.static ({ cls := "TradeLogsLaw", name := "fits", desc := "(LTradeLogs;)Z" } : Jvm.MethodName)) ∈ WS := ws_4 209 rfl rfl
theorem wd_4_210 : (Jvm.Cond.code ({ cls := "TradeLogsLaw", name := "fits", desc := "(LTradeLogs;)Z" } : Jvm.MethodName) method_32_code (10 : Nat) (Option.some Jvm.ClassFile.FieldType.boolean)) ∈ WS := ws_4 210 rfl rfl
theorem wd_4_211 : (Jvm.Cond.methodLink "TradeLogsLaw" (178 : Nat) ({ cls := "TradeLogsLaw", name := "isFit", desc := "(LTradeLogs;I)Z" } : Jvm.MethodName)) ∈ WS := ws_4 211 rfl rfl
theorem wd_4_212 : (Jvm.Cond.static ({ cls := "TradeLogsLaw", name := "isFit", desc := "(LTradeLogs;I)Z" } : Jvm.MethodName)) ∈ WS := ws_4 212 rfl rfl
theorem wd_4_213 : (Jvm.Cond.code ({ cls := "TradeLogsLaw", name := "isFit", desc := "(LTradeLogs;I)Z" } : Jvm.MethodName) method_31_code (14 : Nat) (Option.some Jvm.ClassFile.FieldType.boolean)) ∈ WS := ws_4 213 rfl rfl
theorem wd_4_214 : (Jvm.Cond.methodLink "TradeLogsLaw" (222 : Nat) ({ cls := "TradeLogsLaw", name := "isForetold", desc := "(LTradeLogs;II)Z" } : Jvm.MethodName)) ∈ WS := ws_4 214 rfl rfl
theorem wd_4_215 : (Jvm.Cond.static ({ cls := "TradeLogsLaw", name := "isForetold", desc := "(LTradeLogs;II)Z" } : Jvm.MethodName)) ∈ WS := ws_4 215 rfl rfl
theorem wd_4_216 : (Jvm.Cond.code ({ cls := "TradeLogsLaw", name := "isForetold", desc := "(LTradeLogs;II)Z" } : Jvm.MethodName) method_35_code (9 : Nat) (Option.some Jvm.ClassFile.FieldType.boolean)) ∈ WS := ws_4 216 rfl rfl
theorem wd_4_217 : (Jvm.Cond.methodLink "TradeLogsLaw" (189 : Nat) ({ cls := "TradeLogsLaw", name := "full", desc := "(LTradeLogs;II)I" } : Jvm.MethodName)) ∈ WS := ws_4 217 rfl rfl
theorem wd_4_218 : (Jvm.Cond.static ({ cls := "TradeLogsLaw", name := "full", desc := "(LTradeLogs;II)I" } : Jvm.MethodName)) ∈ WS := ws_4 218 rfl rfl
theorem wd_4_220 : (Jvm.Cond.methodLink "TradeLogsLaw" (83 : Nat) ({ cls := "TradeLogs", name := "completeOn", desc := "(II)I" } : Jvm.MethodName)) ∈ WS := ws_4 220 rfl rfl
theorem wd_4_221 : (Jvm.Cond.instanceMethod ({ cls := "TradeLogs", name := "completeOn", desc := "(II)I" } : Jvm.MethodName)) ∈ WS := ws_4 221 rfl rfl
theorem wd_4_222 : (Jvm.Cond.selects "TradeLogs" ({ cls := "TradeLogs", name := "completeOn", desc := "(II)I" } : Jvm.MethodName) ({ cls := "TradeLogs", name := "completeOn", desc := "(II)I" } : Jvm.MethodName)) ∈ WS := ws_4 222 rfl rfl
theorem wd_4_223 : (Jvm.Cond.code ({ cls := "TradeLogs", name := "completeOn", desc := "(II)I" } : Jvm.MethodName) prog_1_method_21_code (3 : Nat) (Option.some Jvm.ClassFile.FieldType.int)) ∈ WS := ws_4 223 rfl rfl
theorem wd_4_224 : (Jvm.Cond.methodLink "TradeLogs" (156 : Nat) ({ cls := "TradeLogs$State", name := "completionDay", desc := "(II)I" } : Jvm.MethodName)) ∈ WS := ws_4 224 rfl rfl
theorem wd_4_225 : (Jvm.Cond.instanceMethod ({ cls := "TradeLogs$State", name := "completionDay", desc := "(II)I" } : Jvm.MethodName)) ∈ WS := ws_4 225 rfl rfl
theorem wd_4_226 : (Jvm.Cond.selects "TradeLogs$State" ({ cls := "TradeLogs$State", name := "completionDay", desc := "(II)I" } : Jvm.MethodName) ({ cls := "TradeLogs$State", name := "completionDay", desc := "(II)I" } : Jvm.MethodName)) ∈ WS := ws_4 226 rfl rfl
theorem wd_4_227 : (Jvm.Cond.code ({ cls := "TradeLogs$State", name := "completionDay", desc := "(II)I" } : Jvm.MethodName) prog_9_method_43_code (6 : Nat) (Option.some Jvm.ClassFile.FieldType.int)) ∈ WS := ws_4 227 rfl rfl
theorem wd_4_228 : (Jvm.Cond.methodLink "TradeLogsLaw" (225 : Nat) ({ cls := "TradeLogsLaw", name := "comesTrue", desc := "(LTradeLogs;III)Z" } : Jvm.MethodName)) ∈ WS := ws_4 228 rfl rfl
theorem wd_4_229 : (Jvm.Cond.static ({ cls := "TradeLogsLaw", name := "comesTrue", desc := "(LTradeLogs;III)Z" } : Jvm.MethodName)) ∈ WS := ws_4 229 rfl rfl
theorem wd_4_230 : (Jvm.Cond.code ({ cls := "TradeLogsLaw", name := "comesTrue", desc := "(LTradeLogs;III)Z" } : Jvm.MethodName) method_36_code (13 : Nat) (Option.some Jvm.ClassFile.FieldType.boolean)) ∈ WS := ws_4 230 rfl rfl
theorem wd_4_231 : (Jvm.Cond.methodLink "TradeLogsLaw" (218 : Nat) ({ cls := "TradeLogsLaw", name := "acts", desc := "(LTradeLogs;II)Z" } : Jvm.MethodName)) ∈ WS := ws_4 231 rfl rfl
theorem wd_4_232 : (Jvm.Cond.static ({ cls := "TradeLogsLaw", name := "acts", desc := "(LTradeLogs;II)Z" } : Jvm.MethodName)) ∈ WS := ws_4 232 rfl rfl
theorem wd_4_233 : (Jvm.Cond.code ({ cls := "TradeLogsLaw", name := "acts", desc := "(LTradeLogs;II)Z" } : Jvm.MethodName) method_37_code (12 : Nat) (Option.some Jvm.ClassFile.FieldType.boolean)) ∈ WS := ws_4 233 rfl rfl
theorem wd_4_234 : (Jvm.Cond.methodLink "TradeLogsLaw" (196 : Nat) ({ cls := "TradeLogsLaw", name := "hours", desc := "(LTradeLogs;)J" } : Jvm.MethodName)) ∈ WS := ws_4 234 rfl rfl
theorem wd_4_235 : (Jvm.Cond.static ({ cls := "TradeLogsLaw", name := "hours", desc := "(LTradeLogs;)J" } : Jvm.MethodName)) ∈ WS := ws_4 235 rfl rfl
theorem wd_4_236 : (Jvm.Cond.code ({ cls := "TradeLogsLaw", name := "hours", desc := "(LTradeLogs;)J" } : Jvm.MethodName) method_34_code (4 : Nat) (Option.some Jvm.ClassFile.FieldType.long)) ∈ WS := ws_4 236 rfl rfl
theorem wd_4_237 : (Jvm.Cond.methodLink "TradeLogsLaw" (182 : Nat) ({ cls := "TradeLogsLaw", name := "hoursOf", desc := "(LTradeLogs;I)J" } : Jvm.MethodName)) ∈ WS := ws_4 237 rfl rfl
theorem wd_4_238 : (Jvm.Cond.static ({ cls := "TradeLogsLaw", name := "hoursOf", desc := "(LTradeLogs;I)J" } : Jvm.MethodName)) ∈ WS := ws_4 238 rfl rfl
theorem wd_4_239 : (Jvm.Cond.code ({ cls := "TradeLogsLaw", name := "hoursOf", desc := "(LTradeLogs;I)J" } : Jvm.MethodName) method_33_code (5 : Nat) (Option.some Jvm.ClassFile.FieldType.long)) ∈ WS := ws_4 239 rfl rfl
theorem wd_5_0 : (Jvm.Cond.methodLink "TradeLogsLaw" (214 : Nat) ({ cls := "TradeLogsLaw", name := "begins", desc := "(LTradeLogs;[I)Z" } : Jvm.MethodName)) ∈ WS := ws_5 0 rfl rfl
theorem wd_5_1 : (Jvm.Cond.static ({ cls := "TradeLogsLaw", name := "begins", desc := "(LTradeLogs;[I)Z" } : Jvm.MethodName)) ∈ WS := ws_5 1 rfl rfl
theorem wd_5_2 : (Jvm.Cond.code ({ cls := "TradeLogsLaw", name := "begins", desc := "(LTradeLogs;[I)Z" } : Jvm.MethodName) method_38_code (6 : Nat) (Option.some Jvm.ClassFile.FieldType.boolean)) ∈ WS := ws_5 2 rfl rfl
theorem wp_0 : Cond.selects "TradeLogs" ({ cls := "TradeLogs", name := "faultOfTrade", desc := "(III)I" } : MethodName) ({ cls := "TradeLogs", name := "faultOfTrade", desc := "(III)I" } : MethodName) ∈ WS := ws_s (y := ({ cls := "TradeLogs", name := "faultOfTrade", desc := "(III)I" } : MethodName)) 0 rfl rfl
theorem wp_1 : Cond.selects "java/lang/Throwable" ({ cls := "java/lang/Throwable", name := "fillInStackTrace", desc := "(I)Ljava/lang/Throwable;" } : MethodName) ({ cls := "java/lang/Throwable", name := "fillInStackTrace", desc := "(I)Ljava/lang/Throwable;" } : MethodName) ∈ WS := ws_s (y := ({ cls := "java/lang/Throwable", name := "fillInStackTrace", desc := "(I)Ljava/lang/Throwable;" } : MethodName)) 1 rfl rfl
theorem wp_2 : Cond.selects "TradeLogs" ({ cls := "TradeLogs", name := "faultOfDays", desc := "(I)I" } : MethodName) ({ cls := "TradeLogs", name := "faultOfDays", desc := "(I)I" } : MethodName) ∈ WS := ws_s (y := ({ cls := "TradeLogs", name := "faultOfDays", desc := "(I)I" } : MethodName)) 2 rfl rfl
theorem wp_3 : Cond.selects "TradeLogs" ({ cls := "TradeLogs", name := "valueOfWhole", desc := "(I)I" } : MethodName) ({ cls := "TradeLogs", name := "valueOfWhole", desc := "(I)I" } : MethodName) ∈ WS := ws_s (y := ({ cls := "TradeLogs", name := "valueOfWhole", desc := "(I)I" } : MethodName)) 3 rfl rfl
theorem wp_4 : Cond.selects "TradeLogs$State" ({ cls := "TradeLogs$State", name := "sumOfApprentices", desc := "(I)I" } : MethodName) ({ cls := "TradeLogs$State", name := "sumOfApprentices", desc := "(I)I" } : MethodName) ∈ WS := ws_s (y := ({ cls := "TradeLogs$State", name := "sumOfApprentices", desc := "(I)I" } : MethodName)) 4 rfl rfl
theorem wp_5 : Cond.selects "TradeLogs$State" ({ cls := "TradeLogs$State", name := "isComplete", desc := "(LTradeLogs$Apprentice;)Z" } : MethodName) ({ cls := "TradeLogs$State", name := "isComplete", desc := "(LTradeLogs$Apprentice;)Z" } : MethodName) ∈ WS := ws_s (y := ({ cls := "TradeLogs$State", name := "isComplete", desc := "(LTradeLogs$Apprentice;)Z" } : MethodName)) 5 rfl rfl
theorem wp_6 : Cond.selects "TradeLogs$State" ({ cls := "TradeLogs$State", name := "missingIn", desc := "(LTradeLogs$Apprentice;I)I" } : MethodName) ({ cls := "TradeLogs$State", name := "missingIn", desc := "(LTradeLogs$Apprentice;I)I" } : MethodName) ∈ WS := ws_s (y := ({ cls := "TradeLogs$State", name := "missingIn", desc := "(LTradeLogs$Apprentice;I)I" } : MethodName)) 6 rfl rfl
theorem wp_7 : Cond.selects "TradeLogs$State" ({ cls := "TradeLogs$State", name := "needOf", desc := "(LTradeLogs$Apprentice;I)I" } : MethodName) ({ cls := "TradeLogs$State", name := "needOf", desc := "(LTradeLogs$Apprentice;I)I" } : MethodName) ∈ WS := ws_s (y := ({ cls := "TradeLogs$State", name := "needOf", desc := "(LTradeLogs$Apprentice;I)I" } : MethodName)) 7 rfl rfl
theorem wp_8 : Cond.selects "TradeLogs$State" ({ cls := "TradeLogs$State", name := "mentorAt", desc := "(I)LTradeLogs$Mentor;" } : MethodName) ({ cls := "TradeLogs$State", name := "mentorAt", desc := "(I)LTradeLogs$Mentor;" } : MethodName) ∈ WS := ws_s (y := ({ cls := "TradeLogs$State", name := "mentorAt", desc := "(I)LTradeLogs$Mentor;" } : MethodName)) 8 rfl rfl
theorem wp_9 : Cond.selects "TradeLogs$State" ({ cls := "TradeLogs$State", name := "pendingWith", desc := "(I)I" } : MethodName) ({ cls := "TradeLogs$State", name := "pendingWith", desc := "(I)I" } : MethodName) ∈ WS := ws_s (y := ({ cls := "TradeLogs$State", name := "pendingWith", desc := "(I)I" } : MethodName)) 9 rfl rfl
theorem wp_10 : Cond.selects "TradeLogs$State" ({ cls := "TradeLogs$State", name := "apprenticeAt", desc := "(I)LTradeLogs$Apprentice;" } : MethodName) ({ cls := "TradeLogs$State", name := "apprenticeAt", desc := "(I)LTradeLogs$Apprentice;" } : MethodName) ∈ WS := ws_s (y := ({ cls := "TradeLogs$State", name := "apprenticeAt", desc := "(I)LTradeLogs$Apprentice;" } : MethodName)) 10 rfl rfl
theorem wp_11 : Cond.selects "TradeLogs" ({ cls := "TradeLogs", name := "faultOfMentor", desc := "(II)I" } : MethodName) ({ cls := "TradeLogs", name := "faultOfMentor", desc := "(II)I" } : MethodName) ∈ WS := ws_s (y := ({ cls := "TradeLogs", name := "faultOfMentor", desc := "(II)I" } : MethodName)) 11 rfl rfl
theorem wp_12 : Cond.selects "TradeLogs" ({ cls := "TradeLogs", name := "faultOfApprentice", desc := "(II)I" } : MethodName) ({ cls := "TradeLogs", name := "faultOfApprentice", desc := "(II)I" } : MethodName) ∈ WS := ws_s (y := ({ cls := "TradeLogs", name := "faultOfApprentice", desc := "(II)I" } : MethodName)) 12 rfl rfl
theorem wp_13 : Cond.selects "TradeLogs" ({ cls := "TradeLogs", name := "faultOfRelease", desc := "(II)I" } : MethodName) ({ cls := "TradeLogs", name := "faultOfRelease", desc := "(II)I" } : MethodName) ∈ WS := ws_s (y := ({ cls := "TradeLogs", name := "faultOfRelease", desc := "(II)I" } : MethodName)) 13 rfl rfl
theorem wp_14 : Cond.selects "TradeLogs" ({ cls := "TradeLogs", name := "faultOfLog", desc := "(III)I" } : MethodName) ({ cls := "TradeLogs", name := "faultOfLog", desc := "(III)I" } : MethodName) ∈ WS := ws_s (y := ({ cls := "TradeLogs", name := "faultOfLog", desc := "(III)I" } : MethodName)) 14 rfl rfl
theorem wp_15 : Cond.selects "TradeLogs" ({ cls := "TradeLogs", name := "faultOfConfirm", desc := "(II)I" } : MethodName) ({ cls := "TradeLogs", name := "faultOfConfirm", desc := "(II)I" } : MethodName) ∈ WS := ws_s (y := ({ cls := "TradeLogs", name := "faultOfConfirm", desc := "(II)I" } : MethodName)) 15 rfl rfl
theorem wp_16 : Cond.selects "TradeLogs" ({ cls := "TradeLogs", name := "faultOfDoubt", desc := "(I)I" } : MethodName) ({ cls := "TradeLogs", name := "faultOfDoubt", desc := "(I)I" } : MethodName) ∈ WS := ws_s (y := ({ cls := "TradeLogs", name := "faultOfDoubt", desc := "(I)I" } : MethodName)) 16 rfl rfl
theorem wp_17 : Cond.selects "TradeLogs" ({ cls := "TradeLogs", name := "faultOfSettle", desc := "(IZ)I" } : MethodName) ({ cls := "TradeLogs", name := "faultOfSettle", desc := "(IZ)I" } : MethodName) ∈ WS := ws_s (y := ({ cls := "TradeLogs", name := "faultOfSettle", desc := "(IZ)I" } : MethodName)) 17 rfl rfl
theorem wp_18 : Cond.selects "TradeLogs" ({ cls := "TradeLogs", name := "faultOfCredit", desc := "(III)I" } : MethodName) ({ cls := "TradeLogs", name := "faultOfCredit", desc := "(III)I" } : MethodName) ∈ WS := ws_s (y := ({ cls := "TradeLogs", name := "faultOfCredit", desc := "(III)I" } : MethodName)) 18 rfl rfl
theorem wp_19 : Cond.selects "TradeLogs" ({ cls := "TradeLogs", name := "faultOfMove", desc := "(II)I" } : MethodName) ({ cls := "TradeLogs", name := "faultOfMove", desc := "(II)I" } : MethodName) ∈ WS := ws_s (y := ({ cls := "TradeLogs", name := "faultOfMove", desc := "(II)I" } : MethodName)) 19 rfl rfl
theorem wp_20 : Cond.selects "TradeLogs" ({ cls := "TradeLogs", name := "faultOfPair", desc := "(II)I" } : MethodName) ({ cls := "TradeLogs", name := "faultOfPair", desc := "(II)I" } : MethodName) ∈ WS := ws_s (y := ({ cls := "TradeLogs", name := "faultOfPair", desc := "(II)I" } : MethodName)) 20 rfl rfl
theorem wp_21 : Cond.selects "TradeLogs" ({ cls := "TradeLogs", name := "faultOfLeave", desc := "(I)I" } : MethodName) ({ cls := "TradeLogs", name := "faultOfLeave", desc := "(I)I" } : MethodName) ∈ WS := ws_s (y := ({ cls := "TradeLogs", name := "faultOfLeave", desc := "(I)I" } : MethodName)) 21 rfl rfl
theorem wp_22 : Cond.selects "TradeLogs" ({ cls := "TradeLogs", name := "faultOfExchange", desc := "(II)I" } : MethodName) ({ cls := "TradeLogs", name := "faultOfExchange", desc := "(II)I" } : MethodName) ∈ WS := ws_s (y := ({ cls := "TradeLogs", name := "faultOfExchange", desc := "(II)I" } : MethodName)) 22 rfl rfl
theorem wp_23 : Cond.selects "TradeLogs$State" ({ cls := "TradeLogs$State", name := "isLessBusy", desc := "(II)Z" } : MethodName) ({ cls := "TradeLogs$State", name := "isLessBusy", desc := "(II)Z" } : MethodName) ∈ WS := ws_s (y := ({ cls := "TradeLogs$State", name := "isLessBusy", desc := "(II)Z" } : MethodName)) 23 rfl rfl
