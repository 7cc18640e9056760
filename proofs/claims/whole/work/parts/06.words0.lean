theorem tw_0 : (Jvm.Cond.selects "SameLetters$Text" ({ cls := "SameLetters$Text", name := "isIn", desc := "(ICC)Z" } : Jvm.MethodName) ({ cls := "SameLetters$Text", name := "isIn", desc := "(ICC)Z" } : Jvm.MethodName)) ∈ tb := tbI (i := 0) (by decide +kernel) rfl
theorem tw_1 : (Jvm.Cond.selects "SameLetters$Text" ({ cls := "SameLetters$Text", name := "takeLetters", desc := "()V" } : Jvm.MethodName) ({ cls := "SameLetters$Text", name := "takeLetters", desc := "()V" } : Jvm.MethodName)) ∈ tb := tbI (i := 1) (by decide +kernel) rfl
theorem tw_2 : (Jvm.Cond.selects "SameLetters$Text" ({ cls := "SameLetters$Text", name := "isName", desc := "(Ljava/lang/String;)Z" } : Jvm.MethodName) ({ cls := "SameLetters$Text", name := "isName", desc := "(Ljava/lang/String;)Z" } : Jvm.MethodName)) ∈ tb := tbI (i := 2) (by decide +kernel) rfl
theorem tw_3 : (Jvm.Cond.selects "SameLetters$Text" ({ cls := "SameLetters$Text", name := "takeNumber", desc := "()V" } : Jvm.MethodName) ({ cls := "SameLetters$Text", name := "takeNumber", desc := "()V" } : Jvm.MethodName)) ∈ tb := tbI (i := 3) (by decide +kernel) rfl
theorem tw_4 : (Jvm.Cond.selects "SameLetters$Tongue" ({ cls := "SameLetters$Tongue", name := "readWord", desc := "(LSameLetters$Text;)Z" } : Jvm.MethodName) ({ cls := "SameLetters$Tongue", name := "readWord", desc := "(LSameLetters$Text;)Z" } : Jvm.MethodName)) ∈ tb := tbI (i := 4) (by decide +kernel) rfl
theorem tw_5 : (Jvm.Cond.selects "SameLetters$Tongue" ({ cls := "SameLetters$Tongue", name := "readShape", desc := "(LSameLetters$Text;)Z" } : Jvm.MethodName) ({ cls := "SameLetters$Tongue", name := "readShape", desc := "(LSameLetters$Text;)Z" } : Jvm.MethodName)) ∈ tb := tbI (i := 5) (by decide +kernel) rfl
theorem tw_6 : (Jvm.Cond.selects "SameLetters$Sayings" ({ cls := "SameLetters$Sayings", name := "fillRow", desc := "(ILSameLetters$Tongue;)V" } : Jvm.MethodName) ({ cls := "SameLetters$Sayings", name := "fillRow", desc := "(ILSameLetters$Tongue;)V" } : Jvm.MethodName)) ∈ tb := tbI (i := 6) (by decide +kernel) rfl
theorem tw_7 : (Jvm.Cond.selects "SameLetters$Sayings" ({ cls := "SameLetters$Sayings", name := "putIntoGroup", desc := "(I)V" } : Jvm.MethodName) ({ cls := "SameLetters$Sayings", name := "putIntoGroup", desc := "(I)V" } : Jvm.MethodName)) ∈ tb := tbI (i := 7) (by decide +kernel) rfl
theorem tw_8 : (Jvm.Cond.selects "SameLetters" ({ cls := "SameLetters", name := "isWord", desc := "(I)Z" } : Jvm.MethodName) ({ cls := "SameLetters", name := "isWord", desc := "(I)Z" } : Jvm.MethodName)) ∈ tb := tbI (i := 8) (by decide +kernel) rfl
theorem tw_9 : (Jvm.Cond.selects "SameLetters" ({ cls := "SameLetters", name := "isShape", desc := "(I)Z" } : Jvm.MethodName) ({ cls := "SameLetters", name := "isShape", desc := "(I)Z" } : Jvm.MethodName)) ∈ tb := tbI (i := 9) (by decide +kernel) rfl
theorem tw_10 : (Jvm.Cond.selects "SameLetters$Sayings" ({ cls := "SameLetters$Sayings", name := "isNear", desc := "(III)Z" } : Jvm.MethodName) ({ cls := "SameLetters$Sayings", name := "isNear", desc := "(III)Z" } : Jvm.MethodName)) ∈ tb := tbI (i := 10) (by decide +kernel) rfl
theorem tw_11 : (Jvm.Cond.selects "SameLetters$Sayings" ({ cls := "SameLetters$Sayings", name := "difference", desc := "(II)I" } : Jvm.MethodName) ({ cls := "SameLetters$Sayings", name := "difference", desc := "(II)I" } : Jvm.MethodName)) ∈ tb := tbI (i := 11) (by decide +kernel) rfl
theorem tw_12 : (Jvm.Cond.selects "SameLetters" ({ cls := "SameLetters", name := "rateWord", desc := "(I)I" } : Jvm.MethodName) ({ cls := "SameLetters", name := "rateWord", desc := "(I)I" } : Jvm.MethodName)) ∈ tb := tbI (i := 12) (by decide +kernel) rfl
theorem tw_13 : (Jvm.Cond.selects "SameLetters" ({ cls := "SameLetters", name := "rateVow", desc := "(I)I" } : Jvm.MethodName) ({ cls := "SameLetters", name := "rateVow", desc := "(I)I" } : Jvm.MethodName)) ∈ tb := tbI (i := 13) (by decide +kernel) rfl
theorem tw_14 : (Jvm.Cond.selects "SameLetters" ({ cls := "SameLetters", name := "rateBill", desc := "(I)I" } : Jvm.MethodName) ({ cls := "SameLetters", name := "rateBill", desc := "(I)I" } : Jvm.MethodName)) ∈ tb := tbI (i := 14) (by decide +kernel) rfl
theorem tw_15 : (Jvm.Cond.selects "SameLetters" ({ cls := "SameLetters", name := "rateVerse", desc := "(I)I" } : Jvm.MethodName) ({ cls := "SameLetters", name := "rateVerse", desc := "(I)I" } : Jvm.MethodName)) ∈ tb := tbI (i := 15) (by decide +kernel) rfl
theorem tw_16 : (Jvm.Cond.selects "SameLetters" ({ cls := "SameLetters", name := "rateInsult", desc := "(I)I" } : Jvm.MethodName) ({ cls := "SameLetters", name := "rateInsult", desc := "(I)I" } : Jvm.MethodName)) ∈ tb := tbI (i := 16) (by decide +kernel) rfl
theorem tw_17 : (Jvm.Cond.selects "SameLetters" ({ cls := "SameLetters", name := "rateThreat", desc := "(I)I" } : Jvm.MethodName) ({ cls := "SameLetters", name := "rateThreat", desc := "(I)I" } : Jvm.MethodName)) ∈ tb := tbI (i := 17) (by decide +kernel) rfl
theorem tw_18 : (Jvm.Cond.selects "SameLettersModel" ({ cls := "SameLettersModel", name := "lists", desc := "()V" } : Jvm.MethodName) ({ cls := "SameLettersModel", name := "lists", desc := "()V" } : Jvm.MethodName)) ∈ tb := tbI (i := 18) (by decide +kernel) rfl
theorem tw_19 : (Jvm.Cond.selects "SameLettersModel" ({ cls := "SameLettersModel", name := "isSaid", desc := "(I)Z" } : Jvm.MethodName) ({ cls := "SameLettersModel", name := "isSaid", desc := "(I)Z" } : Jvm.MethodName)) ∈ tb := tbI (i := 19) (by decide +kernel) rfl
theorem tw_20 : (Jvm.Cond.selects "SameLettersModel" ({ cls := "SameLettersModel", name := "isWord", desc := "(I)Z" } : Jvm.MethodName) ({ cls := "SameLettersModel", name := "isWord", desc := "(I)Z" } : Jvm.MethodName)) ∈ tb := tbI (i := 20) (by decide +kernel) rfl
theorem tw_21 : (Jvm.Cond.selects "SameLettersModel" ({ cls := "SameLettersModel", name := "isOf", desc := "(II)Z" } : Jvm.MethodName) ({ cls := "SameLettersModel", name := "isOf", desc := "(II)Z" } : Jvm.MethodName)) ∈ tb := tbI (i := 21) (by decide +kernel) rfl
theorem tw_22 : (Jvm.Cond.selects "SameLettersModel" ({ cls := "SameLettersModel", name := "adds", desc := "(I)V" } : Jvm.MethodName) ({ cls := "SameLettersModel", name := "adds", desc := "(I)V" } : Jvm.MethodName)) ∈ tb := tbI (i := 22) (by decide +kernel) rfl
theorem tw_23 : (Jvm.Cond.selects "SameLettersModel" ({ cls := "SameLettersModel", name := "reads", desc := "()Z" } : Jvm.MethodName) ({ cls := "SameLettersModel", name := "reads", desc := "()Z" } : Jvm.MethodName)) ∈ tb := tbI (i := 23) (by decide +kernel) rfl
theorem tw_24 : (Jvm.Cond.selects "SameLettersModel" ({ cls := "SameLettersModel", name := "token", desc := "()V" } : Jvm.MethodName) ({ cls := "SameLettersModel", name := "token", desc := "()V" } : Jvm.MethodName)) ∈ tb := tbI (i := 24) (by decide +kernel) rfl
theorem tw_25 : (Jvm.Cond.selects "SameLettersModel" ({ cls := "SameLettersModel", name := "byteAt", desc := "(I)I" } : Jvm.MethodName) ({ cls := "SameLettersModel", name := "byteAt", desc := "(I)I" } : Jvm.MethodName)) ∈ tb := tbI (i := 25) (by decide +kernel) rfl
theorem tw_26 : (Jvm.Cond.selects "SameLettersModel" ({ cls := "SameLettersModel", name := "verb", desc := "()I" } : Jvm.MethodName) ({ cls := "SameLettersModel", name := "verb", desc := "()I" } : Jvm.MethodName)) ∈ tb := tbI (i := 26) (by decide +kernel) rfl
theorem tw_27 : (Jvm.Cond.selects "SameLettersModel" ({ cls := "SameLettersModel", name := "readsWord", desc := "()Z" } : Jvm.MethodName) ({ cls := "SameLettersModel", name := "readsWord", desc := "()Z" } : Jvm.MethodName)) ∈ tb := tbI (i := 27) (by decide +kernel) rfl
theorem tw_28 : (Jvm.Cond.selects "SameLettersModel" ({ cls := "SameLettersModel", name := "readsSigns", desc := "(I)Z" } : Jvm.MethodName) ({ cls := "SameLettersModel", name := "readsSigns", desc := "(I)Z" } : Jvm.MethodName)) ∈ tb := tbI (i := 28) (by decide +kernel) rfl
theorem tw_29 : (Jvm.Cond.selects "SameLettersModel" ({ cls := "SameLettersModel", name := "readsNumber", desc := "(II)Z" } : Jvm.MethodName) ({ cls := "SameLettersModel", name := "readsNumber", desc := "(II)Z" } : Jvm.MethodName)) ∈ tb := tbI (i := 29) (by decide +kernel) rfl
theorem tw_30 : (Jvm.Cond.selects "SameLettersModel" ({ cls := "SameLettersModel", name := "figure", desc := "(I)I" } : Jvm.MethodName) ({ cls := "SameLettersModel", name := "figure", desc := "(I)I" } : Jvm.MethodName)) ∈ tb := tbI (i := 30) (by decide +kernel) rfl
theorem tw_31 : (Jvm.Cond.selects "SameLettersModel" ({ cls := "SameLettersModel", name := "readsShape", desc := "()Z" } : Jvm.MethodName) ({ cls := "SameLettersModel", name := "readsShape", desc := "()Z" } : Jvm.MethodName)) ∈ tb := tbI (i := 31) (by decide +kernel) rfl
theorem tw_32 : (Jvm.Cond.selects "SameLettersModel" ({ cls := "SameLettersModel", name := "isShape", desc := "(I)Z" } : Jvm.MethodName) ({ cls := "SameLettersModel", name := "isShape", desc := "(I)Z" } : Jvm.MethodName)) ∈ tb := tbI (i := 32) (by decide +kernel) rfl
theorem tw_33 : (Jvm.Cond.selects "SameLettersModel" ({ cls := "SameLettersModel", name := "placeOf", desc := "(I)I" } : Jvm.MethodName) ({ cls := "SameLettersModel", name := "placeOf", desc := "(I)I" } : Jvm.MethodName)) ∈ tb := tbI (i := 33) (by decide +kernel) rfl
theorem tw_34 : (Jvm.Cond.selects "SameLettersModel" ({ cls := "SameLettersModel", name := "isAnswer", desc := "(III)Z" } : Jvm.MethodName) ({ cls := "SameLettersModel", name := "isAnswer", desc := "(III)Z" } : Jvm.MethodName)) ∈ tb := tbI (i := 34) (by decide +kernel) rfl
theorem tw_35 : (Jvm.Cond.selects "SameLettersModel" ({ cls := "SameLettersModel", name := "bestOf", desc := "(II)I" } : Jvm.MethodName) ({ cls := "SameLettersModel", name := "bestOf", desc := "(II)I" } : Jvm.MethodName)) ∈ tb := tbI (i := 35) (by decide +kernel) rfl
theorem tw_36 : (Jvm.Cond.selects "SameLettersModel" ({ cls := "SameLettersModel", name := "lays", desc := "(I)I" } : Jvm.MethodName) ({ cls := "SameLettersModel", name := "lays", desc := "(I)I" } : Jvm.MethodName)) ∈ tb := tbI (i := 36) (by decide +kernel) rfl
theorem tw_37 : (Jvm.Cond.selects "SameLettersModel" ({ cls := "SameLettersModel", name := "writtenIn", desc := "(I)I" } : Jvm.MethodName) ({ cls := "SameLettersModel", name := "writtenIn", desc := "(I)I" } : Jvm.MethodName)) ∈ tb := tbI (i := 37) (by decide +kernel) rfl
theorem tw_38 : (Jvm.Cond.selects "SameLettersModel" ({ cls := "SameLettersModel", name := "written", desc := "(I)I" } : Jvm.MethodName) ({ cls := "SameLettersModel", name := "written", desc := "(I)I" } : Jvm.MethodName)) ∈ tb := tbI (i := 38) (by decide +kernel) rfl
theorem tw_39 : (Jvm.Cond.initialized "SameLettersLaw") ∈ tb := tbI (i := 39) (by decide +kernel) rfl
theorem tw_40 : (Jvm.Cond.initialized "SameLetters") ∈ tb := tbI (i := 40) (by decide +kernel) rfl
theorem tw_41 : (Jvm.Cond.initialized "SameLetters$Text") ∈ tb := tbI (i := 41) (by decide +kernel) rfl
theorem tw_42 : (Jvm.Cond.initialized "SameLetters$Sayings") ∈ tb := tbI (i := 42) (by decide +kernel) rfl
theorem tw_43 : (Jvm.Cond.initialized "SameLetters$Post") ∈ tb := tbI (i := 43) (by decide +kernel) rfl
theorem tw_44 : (Jvm.Cond.initialized "SameLetters$Tongue") ∈ tb := tbI (i := 44) (by decide +kernel) rfl
theorem tw_45 : (Jvm.Cond.initialized "SameLetters$Word") ∈ tb := tbI (i := 45) (by decide +kernel) rfl
theorem tw_46 : (Jvm.Cond.initialized "SameLetters$Shape") ∈ tb := tbI (i := 46) (by decide +kernel) rfl
theorem tw_47 : (Jvm.Cond.initialized "SameLettersModel") ∈ tb := tbI (i := 47) (by decide +kernel) rfl
theorem tw_48 : (Jvm.Cond.initialized "java/lang/String") ∈ tb := tbI (i := 48) (by decide +kernel) rfl
theorem tw_49 : (Jvm.Cond.initialized "java/lang/StringLatin1") ∈ tb := tbI (i := 49) (by decide +kernel) rfl
theorem tw_50 : (Jvm.Cond.initialized "jdk/internal/util/Preconditions") ∈ tb := tbI (i := 50) (by decide +kernel) rfl
theorem tw_51 : (Jvm.Cond.initialized "java/lang/StringUTF16") ∈ tb := tbI (i := 51) (by decide +kernel) rfl
theorem tw_52 : (Jvm.Cond.initialized "java/lang/Math") ∈ tb := tbI (i := 52) (by decide +kernel) rfl
theorem tw_53 : (Jvm.Cond.initialized "java/lang/Integer") ∈ tb := tbI (i := 53) (by decide +kernel) rfl
theorem tw_54 : (Jvm.Cond.classLink "SameLettersLaw" (7 : Nat) "SameLetters") ∈ tb := tbI (i := 54) (by decide +kernel) rfl
theorem tw_55 : (Jvm.Cond.instantiable "SameLetters" (7 : Nat)) ∈ tb := tbI (i := 55) (by decide +kernel) rfl
theorem tw_56 : (Jvm.Cond.methodLink "SameLettersLaw" (9 : Nat) ({ cls := "SameLetters", name := "<init>", desc := "()V" } : Jvm.MethodName)) ∈ tb := tbI (i := 56) (by decide +kernel) rfl
theorem tw_57 : (Jvm.Cond.instanceMethod ({ cls := "SameLetters", name := "<init>", desc := "()V" } : Jvm.MethodName)) ∈ tb := tbI (i := 57) (by decide +kernel) rfl
theorem tw_58 : (Jvm.Cond.code ({ cls := "SameLetters", name := "<init>", desc := "()V" } : Jvm.MethodName) prog_1_method_1_code (2 : Nat) (Option.none : Option Jvm.ClassFile.FieldType)) ∈ tb := tbI (i := 58) (by decide +kernel) rfl
theorem tw_59 : (Jvm.Cond.methodLink "SameLetters" (3 : Nat) ({ cls := "java/lang/Object", name := "<init>", desc := "()V" } : Jvm.MethodName)) ∈ tb := tbI (i := 59) (by decide +kernel) rfl
theorem tw_60 : (Jvm.Cond.instanceMethod ({ cls := "java/lang/Object", name := "<init>", desc := "()V" } : Jvm.MethodName)) ∈ tb := tbI (i := 60) (by decide +kernel) rfl
theorem tw_61 : (Jvm.Cond.code ({ cls := "java/lang/Object", name := "<init>", desc := "()V" } : Jvm.MethodName) object_method_1_code (1 : Nat) (Option.none : Option Jvm.ClassFile.FieldType)) ∈ tb := tbI (i := 61) (by decide +kernel) rfl
theorem tw_62 : (Jvm.Cond.classLink "SameLetters" (9 : Nat) "SameLetters$Text") ∈ tb := tbI (i := 62) (by decide +kernel) rfl
theorem tw_63 : (Jvm.Cond.instantiable "SameLetters$Text" (6 : Nat)) ∈ tb := tbI (i := 63) (by decide +kernel) rfl
theorem tw_65 : (Jvm.Cond.instanceMethod ({ cls := "SameLetters$Text", name := "<init>", desc := "()V" } : Jvm.MethodName)) ∈ tb := tbI (i := 65) (by decide +kernel) rfl
theorem tw_66 : (Jvm.Cond.code ({ cls := "SameLetters$Text", name := "<init>", desc := "()V" } : Jvm.MethodName) prog_5_method_1_code (1 : Nat) (Option.none : Option Jvm.ClassFile.FieldType)) ∈ tb := tbI (i := 66) (by decide +kernel) rfl
theorem tw_67 : (Jvm.Cond.methodLink "SameLetters$Text" (3 : Nat) ({ cls := "java/lang/Object", name := "<init>", desc := "()V" } : Jvm.MethodName)) ∈ tb := tbI (i := 67) (by decide +kernel) rfl
theorem tw_68 : (Jvm.Cond.fieldLink "SameLetters$Text" (9 : Nat) "SameLetters$Text" "bytes" "[I") ∈ tb := tbI (i := 68) (by decide +kernel) rfl
theorem tw_69 : (Jvm.Cond.fieldLink "SameLetters$Tongue" (96 : Nat) "SameLetters$Text" "bytes" "[I") ∈ tb := tbI (i := 69) (by decide +kernel) rfl
theorem tw_70 : (Jvm.Cond.fieldLink "SameLetters$Text" (15 : Nat) "SameLetters$Text" "length" "I") ∈ tb := tbI (i := 70) (by decide +kernel) rfl
theorem tw_71 : (Jvm.Cond.fieldLink "SameLetters" (48 : Nat) "SameLetters$Text" "length" "I") ∈ tb := tbI (i := 71) (by decide +kernel) rfl
theorem tw_72 : (Jvm.Cond.fieldLink "SameLetters$Text" (22 : Nat) "SameLetters$Text" "start" "I") ∈ tb := tbI (i := 72) (by decide +kernel) rfl
theorem tw_73 : (Jvm.Cond.fieldLink "SameLetters" (60 : Nat) "SameLetters$Text" "start" "I") ∈ tb := tbI (i := 73) (by decide +kernel) rfl
theorem tw_74 : (Jvm.Cond.fieldLink "SameLetters$Tongue" (83 : Nat) "SameLetters$Text" "start" "I") ∈ tb := tbI (i := 74) (by decide +kernel) rfl
theorem tw_75 : (Jvm.Cond.fieldLink "SameLetters$Text" (19 : Nat) "SameLetters$Text" "behind" "I") ∈ tb := tbI (i := 75) (by decide +kernel) rfl
theorem tw_76 : (Jvm.Cond.fieldLink "SameLetters$Tongue" (80 : Nat) "SameLetters$Text" "behind" "I") ∈ tb := tbI (i := 76) (by decide +kernel) rfl
theorem tw_77 : (Jvm.Cond.fieldLink "SameLetters$Tongue" (40 : Nat) "SameLetters$Text" "sort" "I") ∈ tb := tbI (i := 77) (by decide +kernel) rfl
theorem tw_78 : (Jvm.Cond.fieldLink "SameLetters$Text" (25 : Nat) "SameLetters$Text" "sort" "I") ∈ tb := tbI (i := 78) (by decide +kernel) rfl
theorem tw_79 : (Jvm.Cond.fieldLink "SameLetters$Tongue" (58 : Nat) "SameLetters$Text" "number" "I") ∈ tb := tbI (i := 79) (by decide +kernel) rfl
theorem tw_80 : (Jvm.Cond.fieldLink "SameLetters$Text" (55 : Nat) "SameLetters$Text" "number" "I") ∈ tb := tbI (i := 80) (by decide +kernel) rfl
theorem tw_94 : (Jvm.Cond.arrayClass Jvm.ClassFile.FieldType.int) ∈ tb := tbI (i := 94) (by decide +kernel) rfl
theorem tw_95 : (Jvm.Cond.classLink "SameLetters" (16 : Nat) "SameLetters$Sayings") ∈ tb := tbI (i := 95) (by decide +kernel) rfl
theorem tw_96 : (Jvm.Cond.instantiable "SameLetters$Sayings" (14 : Nat)) ∈ tb := tbI (i := 96) (by decide +kernel) rfl
theorem tw_98 : (Jvm.Cond.instanceMethod ({ cls := "SameLetters$Sayings", name := "<init>", desc := "()V" } : Jvm.MethodName)) ∈ tb := tbI (i := 98) (by decide +kernel) rfl
theorem tw_99 : (Jvm.Cond.code ({ cls := "SameLetters$Sayings", name := "<init>", desc := "()V" } : Jvm.MethodName) prog_3_method_1_code (1 : Nat) (Option.none : Option Jvm.ClassFile.FieldType)) ∈ tb := tbI (i := 99) (by decide +kernel) rfl
theorem tw_100 : (Jvm.Cond.methodLink "SameLetters$Sayings" (3 : Nat) ({ cls := "java/lang/Object", name := "<init>", desc := "()V" } : Jvm.MethodName)) ∈ tb := tbI (i := 100) (by decide +kernel) rfl
theorem tw_101 : (Jvm.Cond.fieldLink "SameLetters$Sayings" (9 : Nat) "SameLetters$Sayings" "isLetter" "[Z") ∈ tb := tbI (i := 101) (by decide +kernel) rfl
theorem tw_102 : (Jvm.Cond.fieldLink "SameLetters$Sayings" (15 : Nat) "SameLetters$Sayings" "kindRow" "[I") ∈ tb := tbI (i := 102) (by decide +kernel) rfl
theorem tw_103 : (Jvm.Cond.fieldLink "SameLetters$Sayings" (19 : Nat) "SameLetters$Sayings" "own" "[I") ∈ tb := tbI (i := 103) (by decide +kernel) rfl
theorem tw_104 : (Jvm.Cond.fieldLink "SameLetters" (120 : Nat) "SameLetters$Sayings" "own" "[I") ∈ tb := tbI (i := 104) (by decide +kernel) rfl
theorem tw_105 : (Jvm.Cond.fieldLink "SameLetters$Sayings" (22 : Nat) "SameLetters$Sayings" "other" "[I") ∈ tb := tbI (i := 105) (by decide +kernel) rfl
theorem tw_106 : (Jvm.Cond.fieldLink "SameLetters" (122 : Nat) "SameLetters$Sayings" "other" "[I") ∈ tb := tbI (i := 106) (by decide +kernel) rfl
theorem tw_107 : (Jvm.Cond.fieldLink "SameLetters$Sayings" (25 : Nat) "SameLetters$Sayings" "length" "[I") ∈ tb := tbI (i := 107) (by decide +kernel) rfl
theorem tw_108 : (Jvm.Cond.fieldLink "SameLetters" (124 : Nat) "SameLetters$Sayings" "length" "[I") ∈ tb := tbI (i := 108) (by decide +kernel) rfl
theorem tw_109 : (Jvm.Cond.fieldLink "SameLetters$Sayings" (28 : Nat) "SameLetters$Sayings" "counts" "[J") ∈ tb := tbI (i := 109) (by decide +kernel) rfl
theorem tw_110 : (Jvm.Cond.fieldLink "SameLetters$Sayings" (32 : Nat) "SameLetters$Sayings" "set" "[I") ∈ tb := tbI (i := 110) (by decide +kernel) rfl
theorem tw_111 : (Jvm.Cond.fieldLink "SameLetters$Sayings" (35 : Nat) "SameLetters$Sayings" "bestAnswer" "[I") ∈ tb := tbI (i := 111) (by decide +kernel) rfl
theorem tw_112 : (Jvm.Cond.fieldLink "SameLetters" (166 : Nat) "SameLetters$Sayings" "bestAnswer" "[I") ∈ tb := tbI (i := 112) (by decide +kernel) rfl
theorem tw_113 : (Jvm.Cond.fieldLink "SameLetters$Sayings" (38 : Nat) "SameLetters$Sayings" "lettersOfSet" "[I") ∈ tb := tbI (i := 113) (by decide +kernel) rfl
theorem tw_114 : (Jvm.Cond.fieldLink "SameLetters$Sayings" (50 : Nat) "SameLetters$Sayings" "howMany" "I") ∈ tb := tbI (i := 114) (by decide +kernel) rfl
theorem tw_115 : (Jvm.Cond.fieldLink "SameLetters" (141 : Nat) "SameLetters$Sayings" "howMany" "I") ∈ tb := tbI (i := 115) (by decide +kernel) rfl
theorem tw_116 : (Jvm.Cond.fieldLink "SameLetters$Sayings" (41 : Nat) "SameLetters$Sayings" "bestOfGroup" "[I") ∈ tb := tbI (i := 116) (by decide +kernel) rfl
theorem tw_117 : (Jvm.Cond.fieldLink "SameLetters$Sayings" (44 : Nat) "SameLetters$Sayings" "nextOfGroup" "[I") ∈ tb := tbI (i := 117) (by decide +kernel) rfl
theorem tw_118 : (Jvm.Cond.fieldLink "SameLetters$Sayings" (47 : Nat) "SameLetters$Sayings" "groupOf" "[I") ∈ tb := tbI (i := 118) (by decide +kernel) rfl
theorem tw_119 : (Jvm.Cond.fieldLink "SameLetters$Sayings" (54 : Nat) "SameLetters$Sayings" "groups" "I") ∈ tb := tbI (i := 119) (by decide +kernel) rfl
theorem tw_149 : (Jvm.Cond.arrayClass Jvm.ClassFile.FieldType.boolean) ∈ tb := tbI (i := 149) (by decide +kernel) rfl
theorem tw_150 : (Jvm.Cond.arrayClass Jvm.ClassFile.FieldType.long) ∈ tb := tbI (i := 150) (by decide +kernel) rfl
theorem tw_151 : (Jvm.Cond.classLink "SameLetters" (23 : Nat) "SameLetters$Post") ∈ tb := tbI (i := 151) (by decide +kernel) rfl
theorem tw_152 : (Jvm.Cond.instantiable "SameLetters$Post" (3 : Nat)) ∈ tb := tbI (i := 152) (by decide +kernel) rfl
theorem tw_154 : (Jvm.Cond.instanceMethod ({ cls := "SameLetters$Post", name := "<init>", desc := "()V" } : Jvm.MethodName)) ∈ tb := tbI (i := 154) (by decide +kernel) rfl
theorem tw_155 : (Jvm.Cond.code ({ cls := "SameLetters$Post", name := "<init>", desc := "()V" } : Jvm.MethodName) prog_2_method_1_code (1 : Nat) (Option.none : Option Jvm.ClassFile.FieldType)) ∈ tb := tbI (i := 155) (by decide +kernel) rfl
theorem tw_156 : (Jvm.Cond.methodLink "SameLetters$Post" (3 : Nat) ({ cls := "java/lang/Object", name := "<init>", desc := "()V" } : Jvm.MethodName)) ∈ tb := tbI (i := 156) (by decide +kernel) rfl
theorem tw_157 : (Jvm.Cond.fieldLink "SameLetters$Post" (9 : Nat) "SameLetters$Post" "rows" "[I") ∈ tb := tbI (i := 157) (by decide +kernel) rfl
theorem tw_158 : (Jvm.Cond.fieldLink "SameLetters" (130 : Nat) "SameLetters$Post" "rows" "[I") ∈ tb := tbI (i := 158) (by decide +kernel) rfl
theorem tw_159 : (Jvm.Cond.fieldLink "SameLetters$Post" (15 : Nat) "SameLetters$Post" "many" "I") ∈ tb := tbI (i := 159) (by decide +kernel) rfl
theorem tw_160 : (Jvm.Cond.fieldLink "SameLetters" (67 : Nat) "SameLetters$Post" "many" "I") ∈ tb := tbI (i := 160) (by decide +kernel) rfl
theorem tw_161 : (Jvm.Cond.fieldLink "SameLetters" (70 : Nat) "SameLetters$Post" "kept" "Z") ∈ tb := tbI (i := 161) (by decide +kernel) rfl
theorem tw_170 : (Jvm.Cond.classLink "SameLetters" (34 : Nat) "SameLetters$Tongue") ∈ tb := tbI (i := 170) (by decide +kernel) rfl
theorem tw_171 : (Jvm.Cond.instantiable "SameLetters$Tongue" (4 : Nat)) ∈ tb := tbI (i := 171) (by decide +kernel) rfl
theorem tw_172 : (Jvm.Cond.methodLink "SameLetters" (36 : Nat) ({ cls := "SameLetters$Tongue", name := "<init>", desc := "()V" } : Jvm.MethodName)) ∈ tb := tbI (i := 172) (by decide +kernel) rfl
theorem tw_173 : (Jvm.Cond.instanceMethod ({ cls := "SameLetters$Tongue", name := "<init>", desc := "()V" } : Jvm.MethodName)) ∈ tb := tbI (i := 173) (by decide +kernel) rfl
theorem tw_174 : (Jvm.Cond.code ({ cls := "SameLetters$Tongue", name := "<init>", desc := "()V" } : Jvm.MethodName) prog_6_method_1_code (2 : Nat) (Option.none : Option Jvm.ClassFile.FieldType)) ∈ tb := tbI (i := 174) (by decide +kernel) rfl
theorem tw_175 : (Jvm.Cond.methodLink "SameLetters$Tongue" (3 : Nat) ({ cls := "java/lang/Object", name := "<init>", desc := "()V" } : Jvm.MethodName)) ∈ tb := tbI (i := 175) (by decide +kernel) rfl
theorem tw_176 : (Jvm.Cond.classLink "SameLetters$Tongue" (9 : Nat) "SameLetters$Word") ∈ tb := tbI (i := 176) (by decide +kernel) rfl
theorem tw_178 : (Jvm.Cond.classLink "SameLetters$Tongue" (17 : Nat) "SameLetters$Shape") ∈ tb := tbI (i := 178) (by decide +kernel) rfl
theorem tw_180 : (Jvm.Cond.instantiable "SameLetters$Word" (5 : Nat)) ∈ tb := tbI (i := 180) (by decide +kernel) rfl
theorem tw_182 : (Jvm.Cond.instanceMethod ({ cls := "SameLetters$Word", name := "<init>", desc := "()V" } : Jvm.MethodName)) ∈ tb := tbI (i := 182) (by decide +kernel) rfl
theorem tw_183 : (Jvm.Cond.code ({ cls := "SameLetters$Word", name := "<init>", desc := "()V" } : Jvm.MethodName) prog_7_method_1_code (1 : Nat) (Option.none : Option Jvm.ClassFile.FieldType)) ∈ tb := tbI (i := 183) (by decide +kernel) rfl
theorem tw_184 : (Jvm.Cond.methodLink "SameLetters$Word" (3 : Nat) ({ cls := "java/lang/Object", name := "<init>", desc := "()V" } : Jvm.MethodName)) ∈ tb := tbI (i := 184) (by decide +kernel) rfl
theorem tw_185 : (Jvm.Cond.fieldLink "SameLetters$Word" (9 : Nat) "SameLetters$Word" "signs" "[I") ∈ tb := tbI (i := 185) (by decide +kernel) rfl
theorem tw_186 : (Jvm.Cond.fieldLink "SameLetters$Sayings" (91 : Nat) "SameLetters$Word" "signs" "[I") ∈ tb := tbI (i := 186) (by decide +kernel) rfl
theorem tw_187 : (Jvm.Cond.fieldLink "SameLetters$Tongue" (93 : Nat) "SameLetters$Word" "signs" "[I") ∈ tb := tbI (i := 187) (by decide +kernel) rfl
theorem tw_188 : (Jvm.Cond.fieldLink "SameLetters" (100 : Nat) "SameLetters$Word" "signs" "[I") ∈ tb := tbI (i := 188) (by decide +kernel) rfl
theorem tw_189 : (Jvm.Cond.fieldLink "SameLetters$Sayings" (89 : Nat) "SameLetters$Word" "length" "I") ∈ tb := tbI (i := 189) (by decide +kernel) rfl
theorem tw_190 : (Jvm.Cond.fieldLink "SameLetters$Tongue" (92 : Nat) "SameLetters$Word" "length" "I") ∈ tb := tbI (i := 190) (by decide +kernel) rfl
theorem tw_191 : (Jvm.Cond.fieldLink "SameLetters" (88 : Nat) "SameLetters$Word" "length" "I") ∈ tb := tbI (i := 191) (by decide +kernel) rfl
theorem tw_192 : (Jvm.Cond.fieldLink "SameLetters$Tongue" (61 : Nat) "SameLetters$Word" "kind" "I") ∈ tb := tbI (i := 192) (by decide +kernel) rfl
theorem tw_193 : (Jvm.Cond.fieldLink "SameLetters$Sayings" (74 : Nat) "SameLetters$Word" "kind" "I") ∈ tb := tbI (i := 193) (by decide +kernel) rfl
theorem tw_194 : (Jvm.Cond.fieldLink "SameLetters" (91 : Nat) "SameLetters$Word" "kind" "I") ∈ tb := tbI (i := 194) (by decide +kernel) rfl
theorem tw_195 : (Jvm.Cond.fieldLink "SameLetters$Tongue" (64 : Nat) "SameLetters$Word" "own" "I") ∈ tb := tbI (i := 195) (by decide +kernel) rfl
theorem tw_196 : (Jvm.Cond.fieldLink "SameLetters$Sayings" (85 : Nat) "SameLetters$Word" "own" "I") ∈ tb := tbI (i := 196) (by decide +kernel) rfl
theorem tw_197 : (Jvm.Cond.fieldLink "SameLetters" (94 : Nat) "SameLetters$Word" "own" "I") ∈ tb := tbI (i := 197) (by decide +kernel) rfl
theorem tw_198 : (Jvm.Cond.fieldLink "SameLetters$Tongue" (67 : Nat) "SameLetters$Word" "other" "I") ∈ tb := tbI (i := 198) (by decide +kernel) rfl
theorem tw_199 : (Jvm.Cond.fieldLink "SameLetters$Sayings" (87 : Nat) "SameLetters$Word" "other" "I") ∈ tb := tbI (i := 199) (by decide +kernel) rfl
theorem tw_200 : (Jvm.Cond.fieldLink "SameLetters" (97 : Nat) "SameLetters$Word" "other" "I") ∈ tb := tbI (i := 200) (by decide +kernel) rfl
theorem tw_212 : (Jvm.Cond.instantiable "SameLetters$Shape" (2 : Nat)) ∈ tb := tbI (i := 212) (by decide +kernel) rfl
theorem tw_214 : (Jvm.Cond.instanceMethod ({ cls := "SameLetters$Shape", name := "<init>", desc := "()V" } : Jvm.MethodName)) ∈ tb := tbI (i := 214) (by decide +kernel) rfl
theorem tw_215 : (Jvm.Cond.code ({ cls := "SameLetters$Shape", name := "<init>", desc := "()V" } : Jvm.MethodName) prog_4_method_1_code (1 : Nat) (Option.none : Option Jvm.ClassFile.FieldType)) ∈ tb := tbI (i := 215) (by decide +kernel) rfl
theorem tw_216 : (Jvm.Cond.methodLink "SameLetters$Shape" (3 : Nat) ({ cls := "java/lang/Object", name := "<init>", desc := "()V" } : Jvm.MethodName)) ∈ tb := tbI (i := 216) (by decide +kernel) rfl
theorem tw_217 : (Jvm.Cond.fieldLink "SameLetters$Shape" (9 : Nat) "SameLetters$Shape" "kinds" "[I") ∈ tb := tbI (i := 217) (by decide +kernel) rfl
theorem tw_218 : (Jvm.Cond.fieldLink "SameLetters$Tongue" (73 : Nat) "SameLetters$Shape" "kinds" "[I") ∈ tb := tbI (i := 218) (by decide +kernel) rfl
theorem tw_219 : (Jvm.Cond.fieldLink "SameLetters" (114 : Nat) "SameLetters$Shape" "kinds" "[I") ∈ tb := tbI (i := 219) (by decide +kernel) rfl
theorem tw_220 : (Jvm.Cond.fieldLink "SameLetters$Shape" (15 : Nat) "SameLetters$Shape" "length" "I") ∈ tb := tbI (i := 220) (by decide +kernel) rfl
theorem tw_221 : (Jvm.Cond.fieldLink "SameLetters$Tongue" (77 : Nat) "SameLetters$Shape" "length" "I") ∈ tb := tbI (i := 221) (by decide +kernel) rfl
theorem tw_222 : (Jvm.Cond.fieldLink "SameLetters" (111 : Nat) "SameLetters$Shape" "length" "I") ∈ tb := tbI (i := 222) (by decide +kernel) rfl
theorem tw_228 : (Jvm.Cond.fieldLink "SameLetters$Tongue" (11 : Nat) "SameLetters$Tongue" "words" "[LSameLetters$Word;") ∈ tb := tbI (i := 228) (by decide +kernel) rfl
theorem tw_229 : (Jvm.Cond.fieldLink "SameLetters$Sayings" (70 : Nat) "SameLetters$Tongue" "words" "[LSameLetters$Word;") ∈ tb := tbI (i := 229) (by decide +kernel) rfl
theorem tw_230 : (Jvm.Cond.fieldLink "SameLetters" (84 : Nat) "SameLetters$Tongue" "words" "[LSameLetters$Word;") ∈ tb := tbI (i := 230) (by decide +kernel) rfl
theorem tw_231 : (Jvm.Cond.fieldLink "SameLetters$Tongue" (19 : Nat) "SameLetters$Tongue" "shapes" "[LSameLetters$Shape;") ∈ tb := tbI (i := 231) (by decide +kernel) rfl
theorem tw_232 : (Jvm.Cond.fieldLink "SameLetters$Sayings" (97 : Nat) "SameLetters$Tongue" "shapes" "[LSameLetters$Shape;") ∈ tb := tbI (i := 232) (by decide +kernel) rfl
theorem tw_233 : (Jvm.Cond.fieldLink "SameLetters" (107 : Nat) "SameLetters$Tongue" "shapes" "[LSameLetters$Shape;") ∈ tb := tbI (i := 233) (by decide +kernel) rfl
theorem tw_234 : (Jvm.Cond.fieldLink "SameLetters$Tongue" (25 : Nat) "SameLetters$Tongue" "wordCount" "I") ∈ tb := tbI (i := 234) (by decide +kernel) rfl
theorem tw_235 : (Jvm.Cond.fieldLink "SameLetters$Sayings" (65 : Nat) "SameLetters$Tongue" "wordCount" "I") ∈ tb := tbI (i := 235) (by decide +kernel) rfl
theorem tw_236 : (Jvm.Cond.fieldLink "SameLetters" (74 : Nat) "SameLetters$Tongue" "wordCount" "I") ∈ tb := tbI (i := 236) (by decide +kernel) rfl
theorem tw_237 : (Jvm.Cond.fieldLink "SameLetters$Tongue" (29 : Nat) "SameLetters$Tongue" "shapeCount" "I") ∈ tb := tbI (i := 237) (by decide +kernel) rfl
theorem tw_238 : (Jvm.Cond.fieldLink "SameLetters$Sayings" (94 : Nat) "SameLetters$Tongue" "shapeCount" "I") ∈ tb := tbI (i := 238) (by decide +kernel) rfl
theorem tw_239 : (Jvm.Cond.fieldLink "SameLetters" (77 : Nat) "SameLetters$Tongue" "shapeCount" "I") ∈ tb := tbI (i := 239) (by decide +kernel) rfl
theorem tw_249 : (Jvm.Cond.fieldLink "SameLetters" (12 : Nat) "SameLetters" "text" "LSameLetters$Text;") ∈ tb := tbI (i := 249) (by decide +kernel) rfl
theorem tw_250 : (Jvm.Cond.fieldLink "SameLetters" (19 : Nat) "SameLetters" "sayings" "LSameLetters$Sayings;") ∈ tb := tbI (i := 250) (by decide +kernel) rfl
theorem tw_251 : (Jvm.Cond.fieldLink "SameLetters" (26 : Nat) "SameLetters" "post" "LSameLetters$Post;") ∈ tb := tbI (i := 251) (by decide +kernel) rfl
theorem tw_252 : (Jvm.Cond.fieldLink "SameLetters" (30 : Nat) "SameLetters" "images" "[LSameLetters$Post;") ∈ tb := tbI (i := 252) (by decide +kernel) rfl
theorem tw_253 : (Jvm.Cond.fieldLink "SameLetters" (37 : Nat) "SameLetters" "spoken" "LSameLetters$Tongue;") ∈ tb := tbI (i := 253) (by decide +kernel) rfl
theorem tw_254 : (Jvm.Cond.fieldLink "SameLetters" (41 : Nat) "SameLetters" "draft" "LSameLetters$Tongue;") ∈ tb := tbI (i := 254) (by decide +kernel) rfl
theorem tw_255 : (Jvm.Cond.fieldLink "SameLetters" (44 : Nat) "SameLetters" "traced" "J") ∈ tb := tbI (i := 255) (by decide +kernel) rfl
theorem tw_271 : (Jvm.Cond.methodLink "SameLettersLaw" (15 : Nat) ({ cls := "SameLetters", name := "type", desc := "(JI)I" } : Jvm.MethodName)) ∈ tb := tbI (i := 271) (by decide +kernel) rfl
theorem tw_272 : (Jvm.Cond.instanceMethod ({ cls := "SameLetters", name := "type", desc := "(JI)I" } : Jvm.MethodName)) ∈ tb := tbI (i := 272) (by decide +kernel) rfl
theorem tw_273 : (Jvm.Cond.selects "SameLetters" ({ cls := "SameLetters", name := "type", desc := "(JI)I" } : Jvm.MethodName) ({ cls := "SameLetters", name := "type", desc := "(JI)I" } : Jvm.MethodName)) ∈ tb := tbI (i := 273) (by decide +kernel) rfl
theorem tw_274 : (Jvm.Cond.code ({ cls := "SameLetters", name := "type", desc := "(JI)I" } : Jvm.MethodName) prog_1_method_2_code (5 : Nat) (Option.some Jvm.ClassFile.FieldType.int)) ∈ tb := tbI (i := 274) (by decide +kernel) rfl
theorem tw_275 : (Jvm.Cond.methodLink "SameLetters" (52 : Nat) ({ cls := "SameLetters$Text", name := "add", desc := "(I)V" } : Jvm.MethodName)) ∈ tb := tbI (i := 275) (by decide +kernel) rfl
theorem tw_276 : (Jvm.Cond.instanceMethod ({ cls := "SameLetters$Text", name := "add", desc := "(I)V" } : Jvm.MethodName)) ∈ tb := tbI (i := 276) (by decide +kernel) rfl
theorem tw_277 : (Jvm.Cond.selects "SameLetters$Text" ({ cls := "SameLetters$Text", name := "add", desc := "(I)V" } : Jvm.MethodName) ({ cls := "SameLetters$Text", name := "add", desc := "(I)V" } : Jvm.MethodName)) ∈ tb := tbI (i := 277) (by decide +kernel) rfl
theorem tw_278 : (Jvm.Cond.code ({ cls := "SameLetters$Text", name := "add", desc := "(I)V" } : Jvm.MethodName) prog_5_method_2_code (2 : Nat) (Option.none : Option Jvm.ClassFile.FieldType)) ∈ tb := tbI (i := 278) (by decide +kernel) rfl
theorem tw_279 : (Jvm.Cond.methodLink "SameLettersLaw" (20 : Nat) ({ cls := "SameLetters", name := "clear", desc := "()I" } : Jvm.MethodName)) ∈ tb := tbI (i := 279) (by decide +kernel) rfl
theorem tw_280 : (Jvm.Cond.instanceMethod ({ cls := "SameLetters", name := "clear", desc := "()I" } : Jvm.MethodName)) ∈ tb := tbI (i := 280) (by decide +kernel) rfl
theorem tw_281 : (Jvm.Cond.selects "SameLetters" ({ cls := "SameLetters", name := "clear", desc := "()I" } : Jvm.MethodName) ({ cls := "SameLetters", name := "clear", desc := "()I" } : Jvm.MethodName)) ∈ tb := tbI (i := 281) (by decide +kernel) rfl
theorem tw_282 : (Jvm.Cond.code ({ cls := "SameLetters", name := "clear", desc := "()I" } : Jvm.MethodName) prog_1_method_3_code (2 : Nat) (Option.some Jvm.ClassFile.FieldType.int)) ∈ tb := tbI (i := 282) (by decide +kernel) rfl
theorem tw_283 : (Jvm.Cond.methodLink "SameLettersLaw" (25 : Nat) ({ cls := "SameLetters", name := "tongue", desc := "()I" } : Jvm.MethodName)) ∈ tb := tbI (i := 283) (by decide +kernel) rfl
theorem tw_284 : (Jvm.Cond.instanceMethod ({ cls := "SameLetters", name := "tongue", desc := "()I" } : Jvm.MethodName)) ∈ tb := tbI (i := 284) (by decide +kernel) rfl
theorem tw_285 : (Jvm.Cond.selects "SameLetters" ({ cls := "SameLetters", name := "tongue", desc := "()I" } : Jvm.MethodName) ({ cls := "SameLetters", name := "tongue", desc := "()I" } : Jvm.MethodName)) ∈ tb := tbI (i := 285) (by decide +kernel) rfl
theorem tw_286 : (Jvm.Cond.code ({ cls := "SameLetters", name := "tongue", desc := "()I" } : Jvm.MethodName) prog_1_method_4_code (3 : Nat) (Option.some Jvm.ClassFile.FieldType.int)) ∈ tb := tbI (i := 286) (by decide +kernel) rfl
theorem tw_287 : (Jvm.Cond.methodLink "SameLetters" (56 : Nat) ({ cls := "SameLetters$Tongue", name := "readAll", desc := "(LSameLetters$Text;)Z" } : Jvm.MethodName)) ∈ tb := tbI (i := 287) (by decide +kernel) rfl
theorem tw_288 : (Jvm.Cond.instanceMethod ({ cls := "SameLetters$Tongue", name := "readAll", desc := "(LSameLetters$Text;)Z" } : Jvm.MethodName)) ∈ tb := tbI (i := 288) (by decide +kernel) rfl
theorem tw_289 : (Jvm.Cond.selects "SameLetters$Tongue" ({ cls := "SameLetters$Tongue", name := "readAll", desc := "(LSameLetters$Text;)Z" } : Jvm.MethodName) ({ cls := "SameLetters$Tongue", name := "readAll", desc := "(LSameLetters$Text;)Z" } : Jvm.MethodName)) ∈ tb := tbI (i := 289) (by decide +kernel) rfl
theorem tw_290 : (Jvm.Cond.code ({ cls := "SameLetters$Tongue", name := "readAll", desc := "(LSameLetters$Text;)Z" } : Jvm.MethodName) prog_6_method_2_code (4 : Nat) (Option.some Jvm.ClassFile.FieldType.boolean)) ∈ tb := tbI (i := 290) (by decide +kernel) rfl
theorem tw_291 : (Jvm.Cond.methodLink "SameLetters$Tongue" (32 : Nat) ({ cls := "SameLetters$Text", name := "rewind", desc := "()V" } : Jvm.MethodName)) ∈ tb := tbI (i := 291) (by decide +kernel) rfl
theorem tw_292 : (Jvm.Cond.instanceMethod ({ cls := "SameLetters$Text", name := "rewind", desc := "()V" } : Jvm.MethodName)) ∈ tb := tbI (i := 292) (by decide +kernel) rfl
theorem tw_293 : (Jvm.Cond.selects "SameLetters$Text" ({ cls := "SameLetters$Text", name := "rewind", desc := "()V" } : Jvm.MethodName) ({ cls := "SameLetters$Text", name := "rewind", desc := "()V" } : Jvm.MethodName)) ∈ tb := tbI (i := 293) (by decide +kernel) rfl
theorem tw_294 : (Jvm.Cond.code ({ cls := "SameLetters$Text", name := "rewind", desc := "()V" } : Jvm.MethodName) prog_5_method_3_code (1 : Nat) (Option.none : Option Jvm.ClassFile.FieldType)) ∈ tb := tbI (i := 294) (by decide +kernel) rfl
theorem tw_295 : (Jvm.Cond.methodLink "SameLetters$Tongue" (37 : Nat) ({ cls := "SameLetters$Text", name := "advance", desc := "()V" } : Jvm.MethodName)) ∈ tb := tbI (i := 295) (by decide +kernel) rfl
theorem tw_296 : (Jvm.Cond.instanceMethod ({ cls := "SameLetters$Text", name := "advance", desc := "()V" } : Jvm.MethodName)) ∈ tb := tbI (i := 296) (by decide +kernel) rfl
theorem tw_297 : (Jvm.Cond.selects "SameLetters$Text" ({ cls := "SameLetters$Text", name := "advance", desc := "()V" } : Jvm.MethodName) ({ cls := "SameLetters$Text", name := "advance", desc := "()V" } : Jvm.MethodName)) ∈ tb := tbI (i := 297) (by decide +kernel) rfl
theorem tw_298 : (Jvm.Cond.code ({ cls := "SameLetters$Text", name := "advance", desc := "()V" } : Jvm.MethodName) prog_5_method_4_code (1 : Nat) (Option.none : Option Jvm.ClassFile.FieldType)) ∈ tb := tbI (i := 298) (by decide +kernel) rfl
theorem tw_299 : (Jvm.Cond.methodLink "SameLetters$Text" (28 : Nat) ({ cls := "SameLetters$Text", name := "isIn", desc := "(ICC)Z" } : Jvm.MethodName)) ∈ tb := tbI (i := 299) (by decide +kernel) rfl
theorem tw_301 : (Jvm.Cond.instanceMethod ({ cls := "SameLetters$Text", name := "isIn", desc := "(ICC)Z" } : Jvm.MethodName)) ∈ tb := tbI (i := 301) (by decide +kernel) rfl
theorem tw_302 : (Jvm.Cond.code ({ cls := "SameLetters$Text", name := "isIn", desc := "(ICC)Z" } : Jvm.MethodName) prog_5_method_5_code (4 : Nat) (Option.some Jvm.ClassFile.FieldType.boolean)) ∈ tb := tbI (i := 302) (by decide +kernel) rfl
theorem tw_303 : (Jvm.Cond.methodLink "SameLetters$Text" (32 : Nat) ({ cls := "SameLetters$Text", name := "takeLetters", desc := "()V" } : Jvm.MethodName)) ∈ tb := tbI (i := 303) (by decide +kernel) rfl
theorem tw_305 : (Jvm.Cond.instanceMethod ({ cls := "SameLetters$Text", name := "takeLetters", desc := "()V" } : Jvm.MethodName)) ∈ tb := tbI (i := 305) (by decide +kernel) rfl
theorem tw_306 : (Jvm.Cond.code ({ cls := "SameLetters$Text", name := "takeLetters", desc := "()V" } : Jvm.MethodName) prog_5_method_6_code (2 : Nat) (Option.none : Option Jvm.ClassFile.FieldType)) ∈ tb := tbI (i := 306) (by decide +kernel) rfl
theorem tw_308 : (Jvm.Cond.methodLink "SameLetters$Text" (40 : Nat) ({ cls := "SameLetters$Text", name := "isName", desc := "(Ljava/lang/String;)Z" } : Jvm.MethodName)) ∈ tb := tbI (i := 308) (by decide +kernel) rfl
theorem tw_310 : (Jvm.Cond.instanceMethod ({ cls := "SameLetters$Text", name := "isName", desc := "(Ljava/lang/String;)Z" } : Jvm.MethodName)) ∈ tb := tbI (i := 310) (by decide +kernel) rfl
theorem tw_311 : (Jvm.Cond.code ({ cls := "SameLetters$Text", name := "isName", desc := "(Ljava/lang/String;)Z" } : Jvm.MethodName) prog_5_method_7_code (3 : Nat) (Option.some Jvm.ClassFile.FieldType.boolean)) ∈ tb := tbI (i := 311) (by decide +kernel) rfl
theorem tw_312 : (Jvm.Cond.methodLink "SameLetters$Text" (46 : Nat) ({ cls := "java/lang/String", name := "length", desc := "()I" } : Jvm.MethodName)) ∈ tb := tbI (i := 312) (by decide +kernel) rfl
theorem tw_313 : (Jvm.Cond.instanceMethod ({ cls := "java/lang/String", name := "length", desc := "()I" } : Jvm.MethodName)) ∈ tb := tbI (i := 313) (by decide +kernel) rfl
theorem tw_314 : (Jvm.Cond.selects "java/lang/String" ({ cls := "java/lang/String", name := "length", desc := "()I" } : Jvm.MethodName) ({ cls := "java/lang/String", name := "length", desc := "()I" } : Jvm.MethodName)) ∈ tb := tbI (i := 314) (by decide +kernel) rfl
theorem tw_315 : (Jvm.Cond.code ({ cls := "java/lang/String", name := "length", desc := "()I" } : Jvm.MethodName) prog_12_method_54_code (1 : Nat) (Option.some Jvm.ClassFile.FieldType.int)) ∈ tb := tbI (i := 315) (by decide +kernel) rfl
theorem tw_316 : (Jvm.Cond.methodLink "java/lang/String" (335 : Nat) ({ cls := "java/lang/String", name := "coder", desc := "()B" } : Jvm.MethodName)) ∈ tb := tbI (i := 316) (by decide +kernel) rfl
theorem tw_317 : (Jvm.Cond.instanceMethod ({ cls := "java/lang/String", name := "coder", desc := "()B" } : Jvm.MethodName)) ∈ tb := tbI (i := 317) (by decide +kernel) rfl
theorem tw_318 : (Jvm.Cond.selects "java/lang/String" ({ cls := "java/lang/String", name := "coder", desc := "()B" } : Jvm.MethodName) ({ cls := "java/lang/String", name := "coder", desc := "()B" } : Jvm.MethodName)) ∈ tb := tbI (i := 318) (by decide +kernel) rfl
theorem tw_319 : (Jvm.Cond.code ({ cls := "java/lang/String", name := "coder", desc := "()B" } : Jvm.MethodName) prog_12_method_152_code (1 : Nat) (Option.some Jvm.ClassFile.FieldType.byte)) ∈ tb := tbI (i := 319) (by decide +kernel) rfl
theorem tw_320 : (Jvm.Cond.fieldLink "java/lang/String" (38 : Nat) "java/lang/String" "COMPACT_STRINGS" "Z") ∈ tb := tbI (i := 320) (by decide +kernel) rfl
theorem tw_322 : (Jvm.Cond.methodLink "SameLetters$Text" (51 : Nat) ({ cls := "java/lang/String", name := "charAt", desc := "(I)C" } : Jvm.MethodName)) ∈ tb := tbI (i := 322) (by decide +kernel) rfl
theorem tw_323 : (Jvm.Cond.instanceMethod ({ cls := "java/lang/String", name := "charAt", desc := "(I)C" } : Jvm.MethodName)) ∈ tb := tbI (i := 323) (by decide +kernel) rfl
theorem tw_324 : (Jvm.Cond.selects "java/lang/String" ({ cls := "java/lang/String", name := "charAt", desc := "(I)C" } : Jvm.MethodName) ({ cls := "java/lang/String", name := "charAt", desc := "(I)C" } : Jvm.MethodName)) ∈ tb := tbI (i := 324) (by decide +kernel) rfl
theorem tw_325 : (Jvm.Cond.code ({ cls := "java/lang/String", name := "charAt", desc := "(I)C" } : Jvm.MethodName) prog_12_method_56_code (2 : Nat) (Option.some Jvm.ClassFile.FieldType.char)) ∈ tb := tbI (i := 325) (by decide +kernel) rfl
theorem tw_326 : (Jvm.Cond.methodLink "java/lang/String" (492 : Nat) ({ cls := "java/lang/String", name := "isLatin1", desc := "()Z" } : Jvm.MethodName)) ∈ tb := tbI (i := 326) (by decide +kernel) rfl
theorem tw_327 : (Jvm.Cond.instanceMethod ({ cls := "java/lang/String", name := "isLatin1", desc := "()Z" } : Jvm.MethodName)) ∈ tb := tbI (i := 327) (by decide +kernel) rfl
theorem tw_328 : (Jvm.Cond.selects "java/lang/String" ({ cls := "java/lang/String", name := "isLatin1", desc := "()Z" } : Jvm.MethodName) ({ cls := "java/lang/String", name := "isLatin1", desc := "()Z" } : Jvm.MethodName)) ∈ tb := tbI (i := 328) (by decide +kernel) rfl
theorem tw_329 : (Jvm.Cond.code ({ cls := "java/lang/String", name := "isLatin1", desc := "()Z" } : Jvm.MethodName) prog_12_method_154_code (1 : Nat) (Option.some Jvm.ClassFile.FieldType.boolean)) ∈ tb := tbI (i := 329) (by decide +kernel) rfl
theorem tw_330 : (Jvm.Cond.methodLink "java/lang/String" (495 : Nat) ({ cls := "java/lang/StringLatin1", name := "charAt", desc := "([BI)C" } : Jvm.MethodName)) ∈ tb := tbI (i := 330) (by decide +kernel) rfl
theorem tw_331 : (Jvm.Cond.static ({ cls := "java/lang/StringLatin1", name := "charAt", desc := "([BI)C" } : Jvm.MethodName)) ∈ tb := tbI (i := 331) (by decide +kernel) rfl
theorem tw_332 : (Jvm.Cond.code ({ cls := "java/lang/StringLatin1", name := "charAt", desc := "([BI)C" } : Jvm.MethodName) prog_13_method_2_code (2 : Nat) (Option.some Jvm.ClassFile.FieldType.char)) ∈ tb := tbI (i := 332) (by decide +kernel) rfl
theorem tw_333 : (Jvm.Cond.methodLink "java/lang/StringLatin1" (9 : Nat) ({ cls := "java/lang/String", name := "checkIndex", desc := "(II)V" } : Jvm.MethodName)) ∈ tb := tbI (i := 333) (by decide +kernel) rfl
theorem tw_334 : (Jvm.Cond.static ({ cls := "java/lang/String", name := "checkIndex", desc := "(II)V" } : Jvm.MethodName)) ∈ tb := tbI (i := 334) (by decide +kernel) rfl
theorem tw_335 : (Jvm.Cond.code ({ cls := "java/lang/String", name := "checkIndex", desc := "(II)V" } : Jvm.MethodName) prog_12_method_155_code (2 : Nat) (Option.none : Option Jvm.ClassFile.FieldType)) ∈ tb := tbI (i := 335) (by decide +kernel) rfl
theorem tw_336 : (Jvm.Cond.fieldLink "java/lang/String" (1053 : Nat) "jdk/internal/util/Preconditions" "SIOOBE_FORMATTER" "Ljava/util/function/BiFunction;") ∈ tb := tbI (i := 336) (by decide +kernel) rfl
theorem tw_338 : (Jvm.Cond.methodLink "java/lang/String" (1059 : Nat) ({ cls := "jdk/internal/util/Preconditions", name := "checkIndex", desc := "(IILjava/util/function/BiFunction;)I" } : Jvm.MethodName)) ∈ tb := tbI (i := 338) (by decide +kernel) rfl
theorem tw_339 : (Jvm.Cond.static ({ cls := "jdk/internal/util/Preconditions", name := "checkIndex", desc := "(IILjava/util/function/BiFunction;)I" } : Jvm.MethodName)) ∈ tb := tbI (i := 339) (by decide +kernel) rfl
theorem tw_340 : (Jvm.Cond.code ({ cls := "jdk/internal/util/Preconditions", name := "checkIndex", desc := "(IILjava/util/function/BiFunction;)I" } : Jvm.MethodName) prog_15_method_11_code (3 : Nat) (Option.some Jvm.ClassFile.FieldType.int)) ∈ tb := tbI (i := 340) (by decide +kernel) rfl
theorem tw_341 : (Jvm.Cond.methodLink "java/lang/String" (498 : Nat) ({ cls := "java/lang/StringUTF16", name := "charAt", desc := "([BI)C" } : Jvm.MethodName)) ∈ tb := tbI (i := 341) (by decide +kernel) rfl
theorem tw_342 : (Jvm.Cond.static ({ cls := "java/lang/StringUTF16", name := "charAt", desc := "([BI)C" } : Jvm.MethodName)) ∈ tb := tbI (i := 342) (by decide +kernel) rfl
theorem tw_343 : (Jvm.Cond.code ({ cls := "java/lang/StringUTF16", name := "charAt", desc := "([BI)C" } : Jvm.MethodName) prog_14_method_83_code (2 : Nat) (Option.some Jvm.ClassFile.FieldType.char)) ∈ tb := tbI (i := 343) (by decide +kernel) rfl
theorem tw_344 : (Jvm.Cond.methodLink "java/lang/StringUTF16" (67 : Nat) ({ cls := "java/lang/StringUTF16", name := "checkIndex", desc := "(I[B)V" } : Jvm.MethodName)) ∈ tb := tbI (i := 344) (by decide +kernel) rfl
theorem tw_345 : (Jvm.Cond.static ({ cls := "java/lang/StringUTF16", name := "checkIndex", desc := "(I[B)V" } : Jvm.MethodName)) ∈ tb := tbI (i := 345) (by decide +kernel) rfl
theorem tw_346 : (Jvm.Cond.code ({ cls := "java/lang/StringUTF16", name := "checkIndex", desc := "(I[B)V" } : Jvm.MethodName) prog_14_method_91_code (2 : Nat) (Option.none : Option Jvm.ClassFile.FieldType)) ∈ tb := tbI (i := 346) (by decide +kernel) rfl
theorem tw_347 : (Jvm.Cond.methodLink "java/lang/StringUTF16" (48 : Nat) ({ cls := "java/lang/StringUTF16", name := "length", desc := "([B)I" } : Jvm.MethodName)) ∈ tb := tbI (i := 347) (by decide +kernel) rfl
theorem tw_348 : (Jvm.Cond.static ({ cls := "java/lang/StringUTF16", name := "length", desc := "([B)I" } : Jvm.MethodName)) ∈ tb := tbI (i := 348) (by decide +kernel) rfl
theorem tw_349 : (Jvm.Cond.code ({ cls := "java/lang/StringUTF16", name := "length", desc := "([B)I" } : Jvm.MethodName) prog_14_method_6_code (1 : Nat) (Option.some Jvm.ClassFile.FieldType.int)) ∈ tb := tbI (i := 349) (by decide +kernel) rfl
theorem tw_350 : (Jvm.Cond.methodLink "java/lang/StringUTF16" (414 : Nat) ({ cls := "java/lang/String", name := "checkIndex", desc := "(II)V" } : Jvm.MethodName)) ∈ tb := tbI (i := 350) (by decide +kernel) rfl
theorem tw_351 : (Jvm.Cond.methodLink "java/lang/StringUTF16" (71 : Nat) ({ cls := "java/lang/StringUTF16", name := "getChar", desc := "([BI)C" } : Jvm.MethodName)) ∈ tb := tbI (i := 351) (by decide +kernel) rfl
theorem tw_352 : (Jvm.Cond.static ({ cls := "java/lang/StringUTF16", name := "getChar", desc := "([BI)C" } : Jvm.MethodName)) ∈ tb := tbI (i := 352) (by decide +kernel) rfl
theorem tw_353 : (Jvm.Cond.code ({ cls := "java/lang/StringUTF16", name := "getChar", desc := "([BI)C" } : Jvm.MethodName) prog_14_method_5_code (2 : Nat) (Option.some Jvm.ClassFile.FieldType.char)) ∈ tb := tbI (i := 353) (by decide +kernel) rfl
theorem tw_354 : (Jvm.Cond.fieldLink "java/lang/StringUTF16" (44 : Nat) "java/lang/StringUTF16" "$assertionsDisabled" "Z") ∈ tb := tbI (i := 354) (by decide +kernel) rfl
theorem tw_356 : (Jvm.Cond.fieldLink "java/lang/StringUTF16" (59 : Nat) "java/lang/StringUTF16" "HI_BYTE_SHIFT" "I") ∈ tb := tbI (i := 356) (by decide +kernel) rfl
theorem tw_358 : (Jvm.Cond.fieldLink "java/lang/StringUTF16" (63 : Nat) "java/lang/StringUTF16" "LO_BYTE_SHIFT" "I") ∈ tb := tbI (i := 358) (by decide +kernel) rfl
theorem tw_361 : (Jvm.Cond.methodLink "SameLetters$Text" (35 : Nat) ({ cls := "SameLetters$Text", name := "takeNumber", desc := "()V" } : Jvm.MethodName)) ∈ tb := tbI (i := 361) (by decide +kernel) rfl
theorem tw_363 : (Jvm.Cond.instanceMethod ({ cls := "SameLetters$Text", name := "takeNumber", desc := "()V" } : Jvm.MethodName)) ∈ tb := tbI (i := 363) (by decide +kernel) rfl
theorem tw_364 : (Jvm.Cond.code ({ cls := "SameLetters$Text", name := "takeNumber", desc := "()V" } : Jvm.MethodName) prog_5_method_8_code (2 : Nat) (Option.none : Option Jvm.ClassFile.FieldType)) ∈ tb := tbI (i := 364) (by decide +kernel) rfl
theorem tw_365 : (Jvm.Cond.methodLink "SameLetters$Text" (58 : Nat) ({ cls := "java/lang/Math", name := "min", desc := "(II)I" } : Jvm.MethodName)) ∈ tb := tbI (i := 365) (by decide +kernel) rfl
theorem tw_366 : (Jvm.Cond.static ({ cls := "java/lang/Math", name := "min", desc := "(II)I" } : Jvm.MethodName)) ∈ tb := tbI (i := 366) (by decide +kernel) rfl
theorem tw_367 : (Jvm.Cond.code ({ cls := "java/lang/Math", name := "min", desc := "(II)I" } : Jvm.MethodName) prog_11_method_69_code (2 : Nat) (Option.some Jvm.ClassFile.FieldType.int)) ∈ tb := tbI (i := 367) (by decide +kernel) rfl
theorem tw_368 : (Jvm.Cond.methodLink "SameLetters$Tongue" (43 : Nat) ({ cls := "SameLetters$Tongue", name := "readWord", desc := "(LSameLetters$Text;)Z" } : Jvm.MethodName)) ∈ tb := tbI (i := 368) (by decide +kernel) rfl
theorem tw_370 : (Jvm.Cond.instanceMethod ({ cls := "SameLetters$Tongue", name := "readWord", desc := "(LSameLetters$Text;)Z" } : Jvm.MethodName)) ∈ tb := tbI (i := 370) (by decide +kernel) rfl
theorem tw_371 : (Jvm.Cond.code ({ cls := "SameLetters$Tongue", name := "readWord", desc := "(LSameLetters$Text;)Z" } : Jvm.MethodName) prog_6_method_3_code (3 : Nat) (Option.some Jvm.ClassFile.FieldType.boolean)) ∈ tb := tbI (i := 371) (by decide +kernel) rfl
theorem tw_372 : (Jvm.Cond.methodLink "SameLetters$Tongue" (50 : Nat) ({ cls := "SameLetters$Tongue", name := "readSigns", desc := "(LSameLetters$Text;LSameLetters$Word;)Z" } : Jvm.MethodName)) ∈ tb := tbI (i := 372) (by decide +kernel) rfl
theorem tw_373 : (Jvm.Cond.static ({ cls := "SameLetters$Tongue", name := "readSigns", desc := "(LSameLetters$Text;LSameLetters$Word;)Z" } : Jvm.MethodName)) ∈ tb := tbI (i := 373) (by decide +kernel) rfl
theorem tw_374 : (Jvm.Cond.code ({ cls := "SameLetters$Tongue", name := "readSigns", desc := "(LSameLetters$Text;LSameLetters$Word;)Z" } : Jvm.MethodName) prog_6_method_5_code (3 : Nat) (Option.some Jvm.ClassFile.FieldType.boolean)) ∈ tb := tbI (i := 374) (by decide +kernel) rfl
theorem tw_375 : (Jvm.Cond.methodLink "SameLetters$Tongue" (86 : Nat) ({ cls := "java/lang/Math", name := "min", desc := "(II)I" } : Jvm.MethodName)) ∈ tb := tbI (i := 375) (by decide +kernel) rfl
theorem tw_376 : (Jvm.Cond.methodLink "SameLetters$Tongue" (54 : Nat) ({ cls := "SameLetters$Tongue", name := "readNumber", desc := "(LSameLetters$Text;I)Z" } : Jvm.MethodName)) ∈ tb := tbI (i := 376) (by decide +kernel) rfl
theorem tw_377 : (Jvm.Cond.static ({ cls := "SameLetters$Tongue", name := "readNumber", desc := "(LSameLetters$Text;I)Z" } : Jvm.MethodName)) ∈ tb := tbI (i := 377) (by decide +kernel) rfl
theorem tw_378 : (Jvm.Cond.code ({ cls := "SameLetters$Tongue", name := "readNumber", desc := "(LSameLetters$Text;I)Z" } : Jvm.MethodName) prog_6_method_6_code (2 : Nat) (Option.some Jvm.ClassFile.FieldType.boolean)) ∈ tb := tbI (i := 378) (by decide +kernel) rfl
theorem tw_379 : (Jvm.Cond.methodLink "SameLetters$Tongue" (70 : Nat) ({ cls := "SameLetters$Tongue", name := "readEnd", desc := "(LSameLetters$Text;)Z" } : Jvm.MethodName)) ∈ tb := tbI (i := 379) (by decide +kernel) rfl
theorem tw_380 : (Jvm.Cond.static ({ cls := "SameLetters$Tongue", name := "readEnd", desc := "(LSameLetters$Text;)Z" } : Jvm.MethodName)) ∈ tb := tbI (i := 380) (by decide +kernel) rfl
theorem tw_381 : (Jvm.Cond.code ({ cls := "SameLetters$Tongue", name := "readEnd", desc := "(LSameLetters$Text;)Z" } : Jvm.MethodName) prog_6_method_7_code (1 : Nat) (Option.some Jvm.ClassFile.FieldType.boolean)) ∈ tb := tbI (i := 381) (by decide +kernel) rfl
theorem tw_382 : (Jvm.Cond.methodLink "SameLetters$Tongue" (47 : Nat) ({ cls := "SameLetters$Tongue", name := "readShape", desc := "(LSameLetters$Text;)Z" } : Jvm.MethodName)) ∈ tb := tbI (i := 382) (by decide +kernel) rfl
theorem tw_384 : (Jvm.Cond.instanceMethod ({ cls := "SameLetters$Tongue", name := "readShape", desc := "(LSameLetters$Text;)Z" } : Jvm.MethodName)) ∈ tb := tbI (i := 384) (by decide +kernel) rfl
theorem tw_385 : (Jvm.Cond.code ({ cls := "SameLetters$Tongue", name := "readShape", desc := "(LSameLetters$Text;)Z" } : Jvm.MethodName) prog_6_method_4_code (4 : Nat) (Option.some Jvm.ClassFile.FieldType.boolean)) ∈ tb := tbI (i := 385) (by decide +kernel) rfl
theorem tw_386 : (Jvm.Cond.methodLink "SameLetters" (63 : Nat) ({ cls := "SameLetters$Sayings", name := "fill", desc := "(LSameLetters$Tongue;)V" } : Jvm.MethodName)) ∈ tb := tbI (i := 386) (by decide +kernel) rfl
theorem tw_387 : (Jvm.Cond.instanceMethod ({ cls := "SameLetters$Sayings", name := "fill", desc := "(LSameLetters$Tongue;)V" } : Jvm.MethodName)) ∈ tb := tbI (i := 387) (by decide +kernel) rfl
theorem tw_388 : (Jvm.Cond.selects "SameLetters$Sayings" ({ cls := "SameLetters$Sayings", name := "fill", desc := "(LSameLetters$Tongue;)V" } : Jvm.MethodName) ({ cls := "SameLetters$Sayings", name := "fill", desc := "(LSameLetters$Tongue;)V" } : Jvm.MethodName)) ∈ tb := tbI (i := 388) (by decide +kernel) rfl
theorem tw_389 : (Jvm.Cond.code ({ cls := "SameLetters$Sayings", name := "fill", desc := "(LSameLetters$Tongue;)V" } : Jvm.MethodName) prog_3_method_2_code (4 : Nat) (Option.none : Option Jvm.ClassFile.FieldType)) ∈ tb := tbI (i := 389) (by decide +kernel) rfl
theorem tw_390 : (Jvm.Cond.methodLink "SameLetters$Sayings" (57 : Nat) ({ cls := "SameLetters$Sayings", name := "fillRow", desc := "(ILSameLetters$Tongue;)V" } : Jvm.MethodName)) ∈ tb := tbI (i := 390) (by decide +kernel) rfl
theorem tw_392 : (Jvm.Cond.instanceMethod ({ cls := "SameLetters$Sayings", name := "fillRow", desc := "(ILSameLetters$Tongue;)V" } : Jvm.MethodName)) ∈ tb := tbI (i := 392) (by decide +kernel) rfl
theorem tw_393 : (Jvm.Cond.code ({ cls := "SameLetters$Sayings", name := "fillRow", desc := "(ILSameLetters$Tongue;)V" } : Jvm.MethodName) prog_3_method_3_code (8 : Nat) (Option.none : Option Jvm.ClassFile.FieldType)) ∈ tb := tbI (i := 393) (by decide +kernel) rfl
theorem tw_394 : (Jvm.Cond.methodLink "SameLetters$Sayings" (79 : Nat) ({ cls := "SameLetters$Shape", name := "lengthened", desc := "(II)I" } : Jvm.MethodName)) ∈ tb := tbI (i := 394) (by decide +kernel) rfl
theorem tw_395 : (Jvm.Cond.static ({ cls := "SameLetters$Shape", name := "lengthened", desc := "(II)I" } : Jvm.MethodName)) ∈ tb := tbI (i := 395) (by decide +kernel) rfl
theorem tw_396 : (Jvm.Cond.code ({ cls := "SameLetters$Shape", name := "lengthened", desc := "(II)I" } : Jvm.MethodName) prog_4_method_3_code (2 : Nat) (Option.some Jvm.ClassFile.FieldType.int)) ∈ tb := tbI (i := 396) (by decide +kernel) rfl
theorem tw_397 : (Jvm.Cond.methodLink "SameLetters$Sayings" (101 : Nat) ({ cls := "SameLetters$Shape", name := "row", desc := "()I" } : Jvm.MethodName)) ∈ tb := tbI (i := 397) (by decide +kernel) rfl
theorem tw_398 : (Jvm.Cond.instanceMethod ({ cls := "SameLetters$Shape", name := "row", desc := "()I" } : Jvm.MethodName)) ∈ tb := tbI (i := 398) (by decide +kernel) rfl
theorem tw_399 : (Jvm.Cond.selects "SameLetters$Shape" ({ cls := "SameLetters$Shape", name := "row", desc := "()I" } : Jvm.MethodName) ({ cls := "SameLetters$Shape", name := "row", desc := "()I" } : Jvm.MethodName)) ∈ tb := tbI (i := 399) (by decide +kernel) rfl
theorem tw_400 : (Jvm.Cond.code ({ cls := "SameLetters$Shape", name := "row", desc := "()I" } : Jvm.MethodName) prog_4_method_2_code (3 : Nat) (Option.some Jvm.ClassFile.FieldType.int)) ∈ tb := tbI (i := 400) (by decide +kernel) rfl
theorem tw_401 : (Jvm.Cond.methodLink "SameLetters$Shape" (19 : Nat) ({ cls := "SameLetters$Shape", name := "lengthened", desc := "(II)I" } : Jvm.MethodName)) ∈ tb := tbI (i := 401) (by decide +kernel) rfl
theorem tw_402 : (Jvm.Cond.methodLink "SameLetters$Sayings" (61 : Nat) ({ cls := "SameLetters$Sayings", name := "putIntoGroup", desc := "(I)V" } : Jvm.MethodName)) ∈ tb := tbI (i := 402) (by decide +kernel) rfl
theorem tw_404 : (Jvm.Cond.instanceMethod ({ cls := "SameLetters$Sayings", name := "putIntoGroup", desc := "(I)V" } : Jvm.MethodName)) ∈ tb := tbI (i := 404) (by decide +kernel) rfl
theorem tw_405 : (Jvm.Cond.code ({ cls := "SameLetters$Sayings", name := "putIntoGroup", desc := "(I)V" } : Jvm.MethodName) prog_3_method_4_code (3 : Nat) (Option.none : Option Jvm.ClassFile.FieldType)) ∈ tb := tbI (i := 405) (by decide +kernel) rfl
theorem tw_406 : (Jvm.Cond.arrayClass Jvm.ClassFile.FieldType.byte) ∈ tb := tbI (i := 406) (by decide +kernel) rfl
theorem tw_407 : (Jvm.Cond.methodLink "SameLettersLaw" (29 : Nat) ({ cls := "SameLetters", name := "word", desc := "(II)I" } : Jvm.MethodName)) ∈ tb := tbI (i := 407) (by decide +kernel) rfl
theorem tw_408 : (Jvm.Cond.instanceMethod ({ cls := "SameLetters", name := "word", desc := "(II)I" } : Jvm.MethodName)) ∈ tb := tbI (i := 408) (by decide +kernel) rfl
theorem tw_409 : (Jvm.Cond.selects "SameLetters" ({ cls := "SameLetters", name := "word", desc := "(II)I" } : Jvm.MethodName) ({ cls := "SameLetters", name := "word", desc := "(II)I" } : Jvm.MethodName)) ∈ tb := tbI (i := 409) (by decide +kernel) rfl
theorem tw_410 : (Jvm.Cond.code ({ cls := "SameLetters", name := "word", desc := "(II)I" } : Jvm.MethodName) prog_1_method_5_code (4 : Nat) (Option.some Jvm.ClassFile.FieldType.int)) ∈ tb := tbI (i := 410) (by decide +kernel) rfl
theorem tw_411 : (Jvm.Cond.methodLink "SameLetters" (80 : Nat) ({ cls := "SameLetters", name := "isWord", desc := "(I)Z" } : Jvm.MethodName)) ∈ tb := tbI (i := 411) (by decide +kernel) rfl
theorem tw_413 : (Jvm.Cond.instanceMethod ({ cls := "SameLetters", name := "isWord", desc := "(I)Z" } : Jvm.MethodName)) ∈ tb := tbI (i := 413) (by decide +kernel) rfl
theorem tw_414 : (Jvm.Cond.code ({ cls := "SameLetters", name := "isWord", desc := "(I)Z" } : Jvm.MethodName) prog_1_method_28_code (2 : Nat) (Option.some Jvm.ClassFile.FieldType.boolean)) ∈ tb := tbI (i := 414) (by decide +kernel) rfl
theorem tw_415 : (Jvm.Cond.methodLink "SameLettersLaw" (34 : Nat) ({ cls := "SameLetters", name := "spell", desc := "(II)I" } : Jvm.MethodName)) ∈ tb := tbI (i := 415) (by decide +kernel) rfl
theorem tw_416 : (Jvm.Cond.instanceMethod ({ cls := "SameLetters", name := "spell", desc := "(II)I" } : Jvm.MethodName)) ∈ tb := tbI (i := 416) (by decide +kernel) rfl
theorem tw_417 : (Jvm.Cond.selects "SameLetters" ({ cls := "SameLetters", name := "spell", desc := "(II)I" } : Jvm.MethodName) ({ cls := "SameLetters", name := "spell", desc := "(II)I" } : Jvm.MethodName)) ∈ tb := tbI (i := 417) (by decide +kernel) rfl
theorem tw_418 : (Jvm.Cond.code ({ cls := "SameLetters", name := "spell", desc := "(II)I" } : Jvm.MethodName) prog_1_method_6_code (4 : Nat) (Option.some Jvm.ClassFile.FieldType.int)) ∈ tb := tbI (i := 418) (by decide +kernel) rfl
theorem tw_419 : (Jvm.Cond.methodLink "SameLettersLaw" (38 : Nat) ({ cls := "SameLetters", name := "shape", desc := "(II)I" } : Jvm.MethodName)) ∈ tb := tbI (i := 419) (by decide +kernel) rfl
theorem tw_420 : (Jvm.Cond.instanceMethod ({ cls := "SameLetters", name := "shape", desc := "(II)I" } : Jvm.MethodName)) ∈ tb := tbI (i := 420) (by decide +kernel) rfl
theorem tw_421 : (Jvm.Cond.selects "SameLetters" ({ cls := "SameLetters", name := "shape", desc := "(II)I" } : Jvm.MethodName) ({ cls := "SameLetters", name := "shape", desc := "(II)I" } : Jvm.MethodName)) ∈ tb := tbI (i := 421) (by decide +kernel) rfl
theorem tw_422 : (Jvm.Cond.code ({ cls := "SameLetters", name := "shape", desc := "(II)I" } : Jvm.MethodName) prog_1_method_7_code (4 : Nat) (Option.some Jvm.ClassFile.FieldType.int)) ∈ tb := tbI (i := 422) (by decide +kernel) rfl
theorem tw_423 : (Jvm.Cond.methodLink "SameLetters" (104 : Nat) ({ cls := "SameLetters", name := "isShape", desc := "(I)Z" } : Jvm.MethodName)) ∈ tb := tbI (i := 423) (by decide +kernel) rfl
theorem tw_425 : (Jvm.Cond.instanceMethod ({ cls := "SameLetters", name := "isShape", desc := "(I)Z" } : Jvm.MethodName)) ∈ tb := tbI (i := 425) (by decide +kernel) rfl
theorem tw_426 : (Jvm.Cond.code ({ cls := "SameLetters", name := "isShape", desc := "(I)Z" } : Jvm.MethodName) prog_1_method_29_code (2 : Nat) (Option.some Jvm.ClassFile.FieldType.boolean)) ∈ tb := tbI (i := 426) (by decide +kernel) rfl
theorem tw_427 : (Jvm.Cond.methodLink "SameLettersLaw" (42 : Nat) ({ cls := "SameLetters", name := "letter", desc := "(II)I" } : Jvm.MethodName)) ∈ tb := tbI (i := 427) (by decide +kernel) rfl
theorem tw_428 : (Jvm.Cond.instanceMethod ({ cls := "SameLetters", name := "letter", desc := "(II)I" } : Jvm.MethodName)) ∈ tb := tbI (i := 428) (by decide +kernel) rfl
theorem tw_429 : (Jvm.Cond.selects "SameLetters" ({ cls := "SameLetters", name := "letter", desc := "(II)I" } : Jvm.MethodName) ({ cls := "SameLetters", name := "letter", desc := "(II)I" } : Jvm.MethodName)) ∈ tb := tbI (i := 429) (by decide +kernel) rfl
theorem tw_430 : (Jvm.Cond.code ({ cls := "SameLetters", name := "letter", desc := "(II)I" } : Jvm.MethodName) prog_1_method_8_code (3 : Nat) (Option.some Jvm.ClassFile.FieldType.int)) ∈ tb := tbI (i := 430) (by decide +kernel) rfl
theorem tw_431 : (Jvm.Cond.methodLink "SameLetters" (117 : Nat) ({ cls := "SameLetters$Sayings", name := "canBeSaid", desc := "(I)Z" } : Jvm.MethodName)) ∈ tb := tbI (i := 431) (by decide +kernel) rfl
theorem tw_432 : (Jvm.Cond.instanceMethod ({ cls := "SameLetters$Sayings", name := "canBeSaid", desc := "(I)Z" } : Jvm.MethodName)) ∈ tb := tbI (i := 432) (by decide +kernel) rfl
theorem tw_433 : (Jvm.Cond.selects "SameLetters$Sayings" ({ cls := "SameLetters$Sayings", name := "canBeSaid", desc := "(I)Z" } : Jvm.MethodName) ({ cls := "SameLetters$Sayings", name := "canBeSaid", desc := "(I)Z" } : Jvm.MethodName)) ∈ tb := tbI (i := 433) (by decide +kernel) rfl
theorem tw_434 : (Jvm.Cond.code ({ cls := "SameLetters$Sayings", name := "canBeSaid", desc := "(I)Z" } : Jvm.MethodName) prog_3_method_5_code (2 : Nat) (Option.some Jvm.ClassFile.FieldType.boolean)) ∈ tb := tbI (i := 434) (by decide +kernel) rfl
theorem tw_435 : (Jvm.Cond.methodLink "SameLettersLaw" (46 : Nat) ({ cls := "SameLetters", name := "has", desc := "(II)I" } : Jvm.MethodName)) ∈ tb := tbI (i := 435) (by decide +kernel) rfl
theorem tw_436 : (Jvm.Cond.instanceMethod ({ cls := "SameLetters", name := "has", desc := "(II)I" } : Jvm.MethodName)) ∈ tb := tbI (i := 436) (by decide +kernel) rfl
theorem tw_437 : (Jvm.Cond.selects "SameLetters" ({ cls := "SameLetters", name := "has", desc := "(II)I" } : Jvm.MethodName) ({ cls := "SameLetters", name := "has", desc := "(II)I" } : Jvm.MethodName)) ∈ tb := tbI (i := 437) (by decide +kernel) rfl
theorem tw_438 : (Jvm.Cond.code ({ cls := "SameLetters", name := "has", desc := "(II)I" } : Jvm.MethodName) prog_1_method_9_code (3 : Nat) (Option.some Jvm.ClassFile.FieldType.int)) ∈ tb := tbI (i := 438) (by decide +kernel) rfl
theorem tw_439 : (Jvm.Cond.methodLink "SameLetters" (126 : Nat) ({ cls := "SameLetters$Sayings", name := "countOf", desc := "(II)I" } : Jvm.MethodName)) ∈ tb := tbI (i := 439) (by decide +kernel) rfl
theorem tw_440 : (Jvm.Cond.instanceMethod ({ cls := "SameLetters$Sayings", name := "countOf", desc := "(II)I" } : Jvm.MethodName)) ∈ tb := tbI (i := 440) (by decide +kernel) rfl
theorem tw_441 : (Jvm.Cond.selects "SameLetters$Sayings" ({ cls := "SameLetters$Sayings", name := "countOf", desc := "(II)I" } : Jvm.MethodName) ({ cls := "SameLetters$Sayings", name := "countOf", desc := "(II)I" } : Jvm.MethodName)) ∈ tb := tbI (i := 441) (by decide +kernel) rfl
theorem tw_442 : (Jvm.Cond.code ({ cls := "SameLetters$Sayings", name := "countOf", desc := "(II)I" } : Jvm.MethodName) prog_3_method_6_code (3 : Nat) (Option.some Jvm.ClassFile.FieldType.int)) ∈ tb := tbI (i := 442) (by decide +kernel) rfl
theorem tw_443 : (Jvm.Cond.methodLink "SameLettersLaw" (50 : Nat) ({ cls := "SameLetters", name := "write", desc := "(I)I" } : Jvm.MethodName)) ∈ tb := tbI (i := 443) (by decide +kernel) rfl
theorem tw_444 : (Jvm.Cond.instanceMethod ({ cls := "SameLetters", name := "write", desc := "(I)I" } : Jvm.MethodName)) ∈ tb := tbI (i := 444) (by decide +kernel) rfl
theorem tw_445 : (Jvm.Cond.selects "SameLetters" ({ cls := "SameLetters", name := "write", desc := "(I)I" } : Jvm.MethodName) ({ cls := "SameLetters", name := "write", desc := "(I)I" } : Jvm.MethodName)) ∈ tb := tbI (i := 445) (by decide +kernel) rfl
theorem tw_446 : (Jvm.Cond.code ({ cls := "SameLetters", name := "write", desc := "(I)I" } : Jvm.MethodName) prog_1_method_10_code (2 : Nat) (Option.some Jvm.ClassFile.FieldType.int)) ∈ tb := tbI (i := 446) (by decide +kernel) rfl
theorem tw_447 : (Jvm.Cond.methodLink "SameLetters" (133 : Nat) ({ cls := "SameLetters$Sayings", name := "isAnswer", desc := "(II)Z" } : Jvm.MethodName)) ∈ tb := tbI (i := 447) (by decide +kernel) rfl
theorem tw_448 : (Jvm.Cond.instanceMethod ({ cls := "SameLetters$Sayings", name := "isAnswer", desc := "(II)Z" } : Jvm.MethodName)) ∈ tb := tbI (i := 448) (by decide +kernel) rfl
theorem tw_449 : (Jvm.Cond.selects "SameLetters$Sayings" ({ cls := "SameLetters$Sayings", name := "isAnswer", desc := "(II)Z" } : Jvm.MethodName) ({ cls := "SameLetters$Sayings", name := "isAnswer", desc := "(II)Z" } : Jvm.MethodName)) ∈ tb := tbI (i := 449) (by decide +kernel) rfl
theorem tw_450 : (Jvm.Cond.code ({ cls := "SameLetters$Sayings", name := "isAnswer", desc := "(II)Z" } : Jvm.MethodName) prog_3_method_7_code (3 : Nat) (Option.some Jvm.ClassFile.FieldType.boolean)) ∈ tb := tbI (i := 450) (by decide +kernel) rfl
theorem tw_451 : (Jvm.Cond.methodLink "SameLettersLaw" (55 : Nat) ({ cls := "SameLetters", name := "undo", desc := "()I" } : Jvm.MethodName)) ∈ tb := tbI (i := 451) (by decide +kernel) rfl
theorem tw_452 : (Jvm.Cond.instanceMethod ({ cls := "SameLetters", name := "undo", desc := "()I" } : Jvm.MethodName)) ∈ tb := tbI (i := 452) (by decide +kernel) rfl
theorem tw_453 : (Jvm.Cond.selects "SameLetters" ({ cls := "SameLetters", name := "undo", desc := "()I" } : Jvm.MethodName) ({ cls := "SameLetters", name := "undo", desc := "()I" } : Jvm.MethodName)) ∈ tb := tbI (i := 453) (by decide +kernel) rfl
theorem tw_454 : (Jvm.Cond.code ({ cls := "SameLetters", name := "undo", desc := "()I" } : Jvm.MethodName) prog_1_method_11_code (1 : Nat) (Option.some Jvm.ClassFile.FieldType.int)) ∈ tb := tbI (i := 454) (by decide +kernel) rfl
theorem tw_455 : (Jvm.Cond.methodLink "SameLettersLaw" (59 : Nat) ({ cls := "SameLetters", name := "wrote", desc := "(I)I" } : Jvm.MethodName)) ∈ tb := tbI (i := 455) (by decide +kernel) rfl
theorem tw_456 : (Jvm.Cond.instanceMethod ({ cls := "SameLetters", name := "wrote", desc := "(I)I" } : Jvm.MethodName)) ∈ tb := tbI (i := 456) (by decide +kernel) rfl
theorem tw_457 : (Jvm.Cond.selects "SameLetters" ({ cls := "SameLetters", name := "wrote", desc := "(I)I" } : Jvm.MethodName) ({ cls := "SameLetters", name := "wrote", desc := "(I)I" } : Jvm.MethodName)) ∈ tb := tbI (i := 457) (by decide +kernel) rfl
theorem tw_458 : (Jvm.Cond.code ({ cls := "SameLetters", name := "wrote", desc := "(I)I" } : Jvm.MethodName) prog_1_method_12_code (2 : Nat) (Option.some Jvm.ClassFile.FieldType.int)) ∈ tb := tbI (i := 458) (by decide +kernel) rfl
