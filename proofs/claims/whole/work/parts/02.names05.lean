def wsL_law0_r11 : List Cond := [Cond.methodLink RJ2 224 Lib.Math.max.name, Cond.methodLink RJ2 183 Lib.Math.min.name, Cond.constant RJ2 227 (65536), Cond.methodLink RJ2 228 yJ2_indexOfChar_4cfef, Cond.static yJ2_indexOfChar_4cfef, Cond.code yJ2_indexOfChar_4cfef cJ2_indexOfChar_4cfef 4 (some .int), Cond.methodLink RJ2 96 yJ2_checkBoundsBeginEnd_d044e, Cond.static yJ2_checkBoundsBeginEnd_d044e, Cond.code yJ2_checkBoundsBeginEnd_d044e cJ2_checkBoundsBeginEnd_d044e 3 none, Cond.methodLink RJ2 48 yJ2_length_9d52b, Cond.static yJ2_length_9d52b, Cond.code yJ2_length_9d52b cJ2_length_9d52b 1 (some .int), Cond.methodLink RJ2 241 yJ0_checkBoundsBeginEnd_23922, Cond.static yJ0_checkBoundsBeginEnd_23922, Cond.code yJ0_checkBoundsBeginEnd_23922 cJ0_checkBoundsBeginEnd_23922 3 none, Cond.fieldLink RJ0 1053 "jdk/internal/util/Preconditions" "SIOOBE_FORMATTER" "Ljava/util/function/BiFunction;", Cond.methodLink RJ0 1062 yJ3_checkFromToIndex_8c36e, Cond.static yJ3_checkFromToIndex_8c36e, Cond.initialized RJ3, Cond.code yJ3_checkFromToIndex_8c36e cJ3_checkFromToIndex_8c36e 4 (some .int), Cond.methodLink RJ2 244 yJ2_indexOfCharUnsafe_4cfef, Cond.static yJ2_indexOfCharUnsafe_4cfef, Cond.code yJ2_indexOfCharUnsafe_4cfef cJ2_indexOfCharUnsafe_4cfef 5 (some .int), Cond.methodLink RJ2 71 yJ2_getChar_3b067]
def wsL_law0_r12 : List Cond := [Cond.static yJ2_getChar_3b067, Cond.code yJ2_getChar_3b067 cJ2_getChar_3b067 2 (some .char), Cond.fieldLink RJ2 44 "java/lang/StringUTF16" "$assertionsDisabled" "Z", Cond.fieldLink RJ2 59 "java/lang/StringUTF16" "HI_BYTE_SHIFT" "I", Cond.fieldLink RJ2 63 "java/lang/StringUTF16" "LO_BYTE_SHIFT" "I", Cond.methodLink RJ2 232 yJ2_indexOfSupplementary_4cfef, Cond.static yJ2_indexOfSupplementary_4cfef, Cond.code yJ2_indexOfSupplementary_4cfef cJ2_indexOfSupplementary_4cfef 7 (some .int), Cond.methodLink RJ2 164 yJ11_isValidCodePoint_9a6ad, Cond.static yJ11_isValidCodePoint_9a6ad, Cond.initialized RJ11, Cond.code yJ11_isValidCodePoint_9a6ad cJ11_isValidCodePoint_9a6ad 2 (some .boolean), Cond.methodLink RJ2 157 yJ11_highSurrogate_5068e, Cond.static yJ11_highSurrogate_5068e, Cond.code yJ11_highSurrogate_5068e cJ11_highSurrogate_5068e 1 (some .char), Cond.constant RJ11 110 (55232), Cond.methodLink RJ2 161 yJ11_lowSurrogate_5068e, Cond.static yJ11_lowSurrogate_5068e, Cond.code yJ11_lowSurrogate_5068e cJ11_lowSurrogate_5068e 1 (some .char), Cond.constant RJ11 76 (56320), Cond.methodLink RX11 87 yX11_demandArgument, Cond.static yX11_demandArgument, Cond.code yX11_demandArgument cX11_demandArgument 1 none, Cond.classLink RX11 451 "java/lang/IllegalArgumentException"]
def wsL_law0_r13 : List Cond := [Cond.initialized "java/lang/IllegalArgumentException", Cond.methodLink RX11 91 yX11_isWithin, Cond.static yX11_isWithin, Cond.code yX11_isWithin cX11_isWithin 3 (some .boolean), Cond.methodLink RX11 95 yJx4a65c_size_8abf5, Cond.instanceMethod yJx4a65c_size_8abf5, Cond.selects RJx4a65c yJx4a65c_size_8abf5 yJx4a65c_size_8abf5, Cond.code yJx4a65c_size_8abf5 cJx4a65c_size_8abf5 1 (some .int), Cond.fieldLink RJx4a65c 48 "java/util/ArrayList" "size" "I", Cond.methodLink RX11 99 yX11_demandRoom, Cond.static yX11_demandRoom, Cond.code yX11_demandRoom cX11_demandRoom 1 none, Cond.classLink RX11 477 "java/lang/IllegalStateException", Cond.initialized "java/lang/IllegalStateException", Cond.methodLink RX11 127 yJx4a65c_add_9ea2d, Cond.instanceMethod yJx4a65c_add_9ea2d, Cond.selects RJx4a65c yJx4a65c_add_9ea2d yJx4a65c_add_9ea2d, Cond.code yJx4a65c_add_9ea2d cJx4a65c_add_9ea2d 2 (some .boolean), Cond.fieldLink RJx4a65c 63 "java/util/ArrayList" "modCount" "I", Cond.sameField "java/util/ArrayList" "java/util/AbstractList" "modCount" "I", Cond.methodLink RJx4a65c 131 yJx4a65c_add_72be8, Cond.instanceMethod yJx4a65c_add_72be8, Cond.selects RJx4a65c yJx4a65c_add_72be8 yJx4a65c_add_72be8, Cond.code yJx4a65c_add_72be8 cJx4a65c_add_72be8 4 none]
def wsL_law0_r14 : List Cond := [Cond.methodLink RJx4a65c 129 yJx4a65c_grow_d5877, Cond.instanceMethod yJx4a65c_grow_d5877, Cond.selects RJx4a65c yJx4a65c_grow_d5877 yJx4a65c_grow_d5877, Cond.code yJx4a65c_grow_d5877 cJx4a65c_grow_d5877 1 (some (.array (.object "java/lang/Object"))), Cond.methodLink RJx4a65c 69 yJx4a65c_grow_92f84, Cond.instanceMethod yJx4a65c_grow_92f84, Cond.selects RJx4a65c yJx4a65c_grow_92f84 yJx4a65c_grow_92f84, Cond.code yJx4a65c_grow_92f84 cJx4a65c_grow_92f84 4 (some (.array (.object "java/lang/Object"))), Cond.methodLink RJx4a65c 79 Lib.Math.max.name, Cond.classLink RJx4a65c 7 "java/lang/Object", Cond.methodLink RJx4a65c 73 yJ8_newLength_cabcc, Cond.static yJ8_newLength_cabcc, Cond.initialized RJ8, Cond.code yJ8_newLength_cabcc cJ8_newLength_cabcc 4 (some .int), Cond.methodLink RJ8 194 Lib.Math.max.name, Cond.constant RJ8 200 (2147483639), Cond.methodLink RJ8 201 yJ8_hugeLength_7cf53, Cond.static yJ8_hugeLength_7cf53, Cond.code yJ8_hugeLength_7cf53 cJ8_hugeLength_7cf53 3 (some .int), Cond.methodLink RJx4a65c 66 yJ7_copyOf_1904c, Cond.static yJ7_copyOf_1904c, Cond.initialized RJ7, Cond.code yJ7_copyOf_1904c cJ7_copyOf_1904c 2 (some (.array (.object "java/lang/Object"))), Cond.methodLink RJ7 86 ⟨"java/lang/Object", "getClass", "()Ljava/lang/Class;"⟩]
def wsL_law0_r15 : List Cond := [Cond.selects "[Ljava/lang/Object;" ⟨"java/lang/Object", "getClass", "()Ljava/lang/Class;"⟩ ⟨"java/lang/Object", "getClass", "()Ljava/lang/Class;"⟩, Cond.instanceMethod ⟨"java/lang/Object", "getClass", "()Ljava/lang/Class;"⟩, Cond.native ⟨"java/lang/Object", "getClass", "()Ljava/lang/Class;"⟩, Cond.methodLink RJ7 300 yJ7_copyOf_6403c, Cond.static yJ7_copyOf_6403c, Cond.code yJ7_copyOf_6403c cJ7_copyOf_6403c 4 (some (.array (.object "java/lang/Object"))), Cond.classLink RJ7 110 "[Ljava/lang/Object;", Cond.classLink RJ7 2 "java/lang/Object", Cond.methodLink RJ7 304 Lib.Math.min.name, Cond.methodLink RJ7 150 arraycopyName, Cond.native arraycopyName, Cond.static arraycopyName, Cond.initialized "java/lang/System", Cond.methodLink RL 169 yX18_stuff, Cond.instanceMethod yX18_stuff, Cond.selects RX18 yX18_stuff yX18_stuff, Cond.code yX18_stuff cX18_stuff 11 (some .int), Cond.fieldLink RX18 67 "UnderpaintModel" "code" "I", Cond.classLink RX18 91 RX17, Cond.instantiable RX17 10, Cond.initialized RX17, Cond.methodLink RX18 82 yJ0_indexOf_0f7a4, Cond.methodLink RX18 70 yX18_in, Cond.static yX18_in]
def wsL_law0_r16 : List Cond := [Cond.code yX18_in cX18_in 3 (some .boolean), Cond.methodLink RX18 88 yX18_fails, Cond.instanceMethod yX18_fails, Cond.selects RX18 yX18_fails yX18_fails, Cond.code yX18_fails cX18_fails 2 (some .int), Cond.methodLink RX18 74 ⟨"java/util/List", "size", "()I"⟩, Cond.selects RJx4a65c ⟨"java/util/List", "size", "()I"⟩ yJx4a65c_size_8abf5, Cond.methodLink RX18 93 yX17_init, Cond.instanceMethod yX17_init, Cond.code yX17_init cX17_init 11 none, Cond.methodLink RX17 1 objectInit, Cond.fieldLink RX17 7 "UnderpaintModel$Stuff" "number" "I", Cond.fieldLink RX17 13 "UnderpaintModel$Stuff" "kind" "C", Cond.fieldLink RX17 17 "UnderpaintModel$Stuff" "tone" "I", Cond.fieldLink RX17 20 "UnderpaintModel$Stuff" "cover" "I", Cond.fieldLink RX17 23 "UnderpaintModel$Stuff" "weight" "I", Cond.fieldLink RX17 26 "UnderpaintModel$Stuff" "lamp" "I", Cond.fieldLink RX17 29 "UnderpaintModel$Stuff" "hold" "I", Cond.fieldLink RX17 32 "UnderpaintModel$Stuff" "fading" "I", Cond.fieldLink RX17 35 "UnderpaintModel$Stuff" "year" "I", Cond.fieldLink RX17 38 "UnderpaintModel$Stuff" "isThrough" "Z", Cond.methodLink RX18 96 ⟨"java/util/List", "add", "(Ljava/lang/Object;)Z"⟩, Cond.selects RJx4a65c ⟨"java/util/List", "add", "(Ljava/lang/Object;)Z"⟩ yJx4a65c_add_9ea2d, Cond.methodLink RL 170 yX18_thrown]
def wsL_law0_r17 : List Cond := [Cond.instanceMethod yX18_thrown, Cond.selects RX18 yX18_thrown yX18_thrown, Cond.code yX18_thrown cX18_thrown 1 (some .int), Cond.methodLink RL 173 yL_clash, Cond.static yL_clash, Cond.codeWith yL_clash cL_clash 5 (some .int) [(0, 17, 20, 21), (0, 17, 24, 23)], Cond.classLink RL 21 "java/lang/IndexOutOfBoundsException", Cond.classLink RL 23 "java/lang/UnsupportedOperationException", Cond.methodLink RL 17 yX11_clash, Cond.instanceMethod yX11_clash, Cond.selects RX11 yX11_clash yX11_clash, Cond.code yX11_clash cX11_clash 5 (some .boolean), Cond.classLink RX11 50 "Underpaint$Stuff", Cond.methodLink RX11 134 yX11_demandIndex, Cond.static yX11_demandIndex, Cond.code yX11_demandIndex cX11_demandIndex 2 none, Cond.classLink RX11 462 "java/lang/IndexOutOfBoundsException", Cond.initialized "java/lang/IndexOutOfBoundsException", Cond.methodLink RX11 138 yJx4a65c_isEmpty_aae02, Cond.instanceMethod yJx4a65c_isEmpty_aae02, Cond.selects RJx4a65c yJx4a65c_isEmpty_aae02 yJx4a65c_isEmpty_aae02, Cond.code yJx4a65c_isEmpty_aae02 cJx4a65c_isEmpty_aae02 1 (some .boolean), Cond.methodLink RX11 142 yX11_demandPossible, Cond.static yX11_demandPossible]
def wsL_law0_r18 : List Cond := [Cond.code yX11_demandPossible cX11_demandPossible 1 none, Cond.classLink RX11 472 "java/lang/UnsupportedOperationException", Cond.initialized "java/lang/UnsupportedOperationException", Cond.methodLink RX11 145 yJx4a65c_get_915e3, Cond.instanceMethod yJx4a65c_get_915e3, Cond.selects RJx4a65c yJx4a65c_get_915e3 yJx4a65c_get_915e3, Cond.code yJx4a65c_get_915e3 cJx4a65c_get_915e3 2 (some (.object "java/lang/Object")), Cond.methodLink RJx4a65c 118 yJ15_checkIndex_7cf53, Cond.static yJ15_checkIndex_7cf53, Cond.initialized RJ15, Cond.code yJ15_checkIndex_7cf53 cJ15_checkIndex_7cf53 2 (some .int), Cond.methodLink RJ15 105 yJ3_checkIndex_8e157, Cond.static yJ3_checkIndex_8e157, Cond.code yJ3_checkIndex_8e157 cJ3_checkIndex_8e157 3 (some .int), Cond.methodLink RJx4a65c 123 yJx4a65c_elementData_915e3, Cond.instanceMethod yJx4a65c_elementData_915e3, Cond.selects RJx4a65c yJx4a65c_elementData_915e3 yJx4a65c_elementData_915e3, Cond.code yJx4a65c_elementData_915e3 cJx4a65c_elementData_915e3 2 (some (.object "java/lang/Object")), Cond.methodLink RX11 149 yX9_clashesWith, Cond.instanceMethod yX9_clashesWith, Cond.selects RX9 yX9_clashesWith yX9_clashesWith, Cond.code yX9_clashesWith cX9_clashesWith 2 (some .boolean), Cond.fieldLink RX9 19 "Underpaint$Stuff" "foes" "I", Cond.methodLink RX11 153 yX9_setClash]
def wsL_law0_r19 : List Cond := [Cond.instanceMethod yX9_setClash, Cond.selects RX9 yX9_setClash yX9_setClash, Cond.code yX9_setClash cX9_setClash 2 none, Cond.methodLink RL 176 yX18_clash, Cond.instanceMethod yX18_clash, Cond.selects RX18 yX18_clash yX18_clash, Cond.code yX18_clash cX18_clash 4 (some .boolean), Cond.methodLink RX18 100 yX18_isStuff, Cond.instanceMethod yX18_isStuff, Cond.selects RX18 yX18_isStuff yX18_isStuff, Cond.code yX18_isStuff cX18_isStuff 2 (some .boolean), Cond.methodLink RX18 104 yX18_failsBoolean, Cond.instanceMethod yX18_failsBoolean, Cond.selects RX18 yX18_failsBoolean yX18_failsBoolean, Cond.code yX18_failsBoolean cX18_failsBoolean 2 (some .boolean), Cond.methodLink RX18 107 ⟨"java/util/List", "isEmpty", "()Z"⟩, Cond.selects RJx4a65c ⟨"java/util/List", "isEmpty", "()Z"⟩ yJx4a65c_isEmpty_aae02, Cond.methodLink RL 177 yL_lay, Cond.static yL_lay, Cond.codeWith yL_lay cL_lay 9 (some .int) [(0, 18, 21, 21), (0, 18, 25, 13), (0, 18, 29, 23), (0, 18, 33, 15)], Cond.methodLink RL 25 yX11_lay, Cond.instanceMethod yX11_lay, Cond.selects RX11 yX11_lay yX11_lay, Cond.code yX11_lay cX11_lay 8 (some .int)]
def wsL_law0_r20 : List Cond := [Cond.classLink RX11 161 RX0, Cond.instantiable RX0 12, Cond.initialized RX0, Cond.fieldLink RX11 166 "Underpaint$Act" "right" "I", Cond.fieldLink RX11 169 "Underpaint$Act" "bottom" "I", Cond.methodLink RX11 157 yX11_isPlace, Cond.static yX11_isPlace, Cond.code yX11_isPlace cX11_isPlace 2 (some .boolean), Cond.methodLink RX11 163 yX0_init, Cond.instanceMethod yX0_init, Cond.code yX0_init cX0_init 6 none, Cond.methodLink RX0 1 objectInit, Cond.classLink RX0 7 RX3, Cond.fieldLink RX0 10 "Underpaint$Act" "loan" "LUnderpaint$Loan;", Cond.fieldLink RX0 16 "Underpaint$Act" "letter" "I", Cond.fieldLink RX0 20 "Underpaint$Act" "stuff" "LUnderpaint$Stuff;", Cond.fieldLink RX0 24 "Underpaint$Act" "amount" "I", Cond.fieldLink RX0 27 "Underpaint$Act" "left" "I", Cond.fieldLink RX0 30 "Underpaint$Act" "top" "I", Cond.methodLink RX11 172 yX11_enter, Cond.instanceMethod yX11_enter, Cond.selects RX11 yX11_enter yX11_enter, Cond.code yX11_enter cX11_enter 2 (some .int), Cond.methodLink RX11 427 yX5_canBear]
def wsL_law0_r21 : List Cond := [Cond.instanceMethod yX5_canBear, Cond.selects RX5 yX5_canBear yX5_canBear, Cond.code yX5_canBear cX5_canBear 3 (some .boolean), Cond.fieldLink RX5 76 "Underpaint$Act" "left" "I", Cond.fieldLink RX5 81 "Underpaint$Act" "top" "I", Cond.fieldLink RX5 84 "Underpaint$Act" "letter" "I", Cond.fieldLink RX5 91 "Underpaint$Stack" "size" "I", Cond.fieldLink RX5 101 "Underpaint$Act" "loan" "LUnderpaint$Loan;", Cond.fieldLink RX5 105 "Underpaint$Loan" "size" "I", Cond.methodLink RX5 43 yX5_at, Cond.instanceMethod yX5_at, Cond.selects RX5 yX5_at yX5_at, Cond.code yX5_at cX5_at 3 (some (.object "Underpaint$Stack")), Cond.static yX11_placeOf, Cond.code yX11_placeOf cX11_placeOf 2 (some .int), Cond.methodLink RX5 87 yX5_hasRoom, Cond.instanceMethod yX5_hasRoom, Cond.selects RX5 yX5_hasRoom yX5_hasRoom, Cond.code yX5_hasRoom cX5_hasRoom 4 (some .boolean), Cond.fieldLink RX5 134 "Underpaint$Act" "bottom" "I", Cond.fieldLink RX5 137 "Underpaint$Act" "right" "I", Cond.methodLink RX5 97 yX8_isFull, Cond.instanceMethod yX8_isFull, Cond.selects RX8 yX8_isFull yX8_isFull]
def wsL_law0_r22 : List Cond := [Cond.code yX8_isFull cX8_isFull 1 (some .boolean), Cond.fieldLink RX8 20 "Underpaint$Stack" "size" "I", Cond.methodLink RX5 94 yX5_missing, Cond.instanceMethod yX5_missing, Cond.selects RX5 yX5_missing yX5_missing, Cond.code yX5_missing cX5_missing 5 (some .int), Cond.methodLink RX5 70 Lib.Math.max.name, Cond.methodLink RX5 73 Lib.Math.min.name, Cond.methodLink RX5 51 yX8_height, Cond.instanceMethod yX8_height, Cond.selects RX8 yX8_height yX8_height, Cond.code yX8_height cX8_height 3 (some .int), Cond.fieldLink RX8 28 "Underpaint$Layer" "thickness" "I", Cond.methodLink RX11 431 yX5_perform, Cond.instanceMethod yX5_perform, Cond.selects RX5 yX5_perform yX5_perform, Cond.code yX5_perform cX5_perform 2 (some .int), Cond.methodLink RX5 108 yX5_layBox, Cond.instanceMethod yX5_layBox, Cond.selects RX5 yX5_layBox yX5_layBox, Cond.code yX5_layBox cX5_layBox 5 (some .int), Cond.fieldLink RX5 140 "Underpaint$Act" "stuff" "LUnderpaint$Stuff;", Cond.fieldLink RX5 144 "Underpaint$Act" "amount" "I", Cond.methodLink RX5 147 yX8_put]
def wsL_law0_r23 : List Cond := [Cond.instanceMethod yX8_put, Cond.selects RX8 yX8_put yX8_put, Cond.code yX8_put cX8_put 5 none, Cond.fieldLink RX8 24 "Underpaint$Layer" "stuff" "LUnderpaint$Stuff;", Cond.fieldLink RX8 31 "Underpaint$Layer" "laidIn" "I", Cond.fieldLink RX8 34 "Underpaint$Stuff" "tone" "I", Cond.fieldLink RX8 39 "Underpaint$Layer" "tone" "I", Cond.fieldLink RX8 40 "Underpaint$Layer" "yellow" "I", Cond.methodLink RX5 112 yX5_age, Cond.instanceMethod yX5_age, Cond.selects RX5 yX5_age yX5_age, Cond.code yX5_age cX5_age 4 (some .int), Cond.fieldLink RX5 151 "Underpaint$Act" "light" "I", Cond.fieldLink RX5 157 "Underpaint$Act" "damp" "I", Cond.methodLink RX5 154 yX8_age, Cond.instanceMethod yX8_age, Cond.selects RX8 yX8_age yX8_age, Cond.code yX8_age cX8_age 8 none, Cond.fieldLink RX8 95 "Underpaint$Stuff" "fading" "I", Cond.methodLink RX8 92 yX8_fadingRow, Cond.instanceMethod yX8_fadingRow, Cond.selects RX8 yX8_fadingRow yX8_fadingRow, Cond.code yX8_fadingRow cX8_fadingRow 2 (some .int), Cond.fieldLink RX8 47 "Underpaint$Stuff" "kind" "C"]
def wsL_law0_r24 : List Cond := [Cond.methodLink RX8 98 yX9_clashesWith, Cond.methodLink RX8 102 yX2_shift, Cond.instanceMethod yX2_shift, Cond.selects RX2 yX2_shift yX2_shift, Cond.code yX2_shift cX2_shift 5 none, Cond.fieldLink RX2 27 "Underpaint$Layer" "tone" "I", Cond.methodLink RX2 36 Lib.Math.min.name, Cond.methodLink RX2 42 Lib.Math.max.name, Cond.methodLink RX5 160 yX8_wear, Cond.instanceMethod yX8_wear, Cond.selects RX8 yX8_wear yX8_wear, Cond.code yX8_wear cX8_wear 5 none, Cond.methodLink RX8 106 Lib.Math.abs.name, Cond.static Lib.Math.abs.name, Cond.code Lib.Math.abs.name Lib.Math.abs.code 1 (some .int), Cond.fieldLink RX8 110 "Underpaint$Stuff" "hold" "I", Cond.methodLink RX8 113 yX8_tire, Cond.instanceMethod yX8_tire, Cond.selects RX8 yX8_tire yX8_tire, Cond.code yX8_tire cX8_tire 2 none, Cond.fieldLink RX8 89 "Underpaint$Stack" "tiredness" "I", Cond.methodLink RX8 83 Lib.Math.min.name, Cond.methodLink RX5 163 yX8_turnYellow, Cond.instanceMethod yX8_turnYellow]
def wsL_law0_r25 : List Cond := [Cond.selects RX8 yX8_turnYellow yX8_turnYellow, Cond.code yX8_turnYellow cX8_turnYellow 2 none, Cond.methodLink RX8 117 yX8_isTopmost, Cond.instanceMethod yX8_isTopmost, Cond.selects RX8 yX8_isTopmost yX8_isTopmost, Cond.code yX8_isTopmost cX8_isTopmost 2 (some .boolean), Cond.methodLink RX8 43 yX8_top, Cond.instanceMethod yX8_top, Cond.selects RX8 yX8_top yX8_top, Cond.code yX8_top cX8_top 1 (some (.object "Underpaint$Layer")), Cond.methodLink RX5 115 yX5_scratchOff, Cond.instanceMethod yX5_scratchOff, Cond.selects RX5 yX5_scratchOff yX5_scratchOff, Cond.code yX5_scratchOff cX5_scratchOff 3 (some .int), Cond.fieldLink RX5 170 "Underpaint$Picture" "scratchCount" "I", Cond.methodLink RX5 167 yX8_takeOff, Cond.instanceMethod yX8_takeOff, Cond.selects RX8 yX8_takeOff yX8_takeOff, Cond.code yX8_takeOff cX8_takeOff 5 none, Cond.methodLink RX8 121 Lib.Math.max.name, Cond.methodLink RX5 118 yX5_swabOff, Cond.instanceMethod yX5_swabOff, Cond.selects RX5 yX5_swabOff yX5_swabOff, Cond.code yX5_swabOff cX5_swabOff 4 (some .int)]
def wsL_law0_r26 : List Cond := [Cond.fieldLink RX5 173 "Underpaint$Act" "strength" "I", Cond.fieldLink RX5 176 "Underpaint$Act" "reach" "I", Cond.fieldLink RX5 185 "Underpaint$Layer" "stuff" "LUnderpaint$Stuff;", Cond.methodLink RX5 179 yX8_soluble, Cond.instanceMethod yX8_soluble, Cond.selects RX8 yX8_soluble yX8_soluble, Cond.code yX8_soluble cX8_soluble 5 (some .int), Cond.methodLink RX8 124 yX9_isTakenBy, Cond.instanceMethod yX9_isTakenBy, Cond.selects RX9 yX9_isTakenBy yX9_isTakenBy, Cond.code yX9_isTakenBy cX9_isTakenBy 2 (some .boolean), Cond.fieldLink RX9 22 "Underpaint$Stuff" "hold" "I", Cond.methodLink RX9 27 yJ0_indexOf_0f7a4, Cond.methodLink RX5 182 yX8_top, Cond.methodLink RX5 188 yX9_swellsBy, Cond.instanceMethod yX9_swellsBy, Cond.selects RX9 yX9_swellsBy yX9_swellsBy, Cond.code yX9_swellsBy cX9_swellsBy 2 (some .boolean), Cond.methodLink RX5 192 yX8_tire, Cond.methodLink RX5 121 yX5_fillUp, Cond.instanceMethod yX5_fillUp, Cond.selects RX5 yX5_fillUp yX5_fillUp, Cond.code yX5_fillUp cX5_fillUp 3 (some .int), Cond.methodLink RX5 124 yX5_touch]
def wsL_law0_r27 : List Cond := [Cond.instanceMethod yX5_touch, Cond.selects RX5 yX5_touch yX5_touch, Cond.code yX5_touch cX5_touch 7 (some .int), Cond.constant RX5 195 (1000000000), Cond.fieldLink RX5 196 "Underpaint$Layer" "tone" "I", Cond.methodLink RX5 65 Lib.Math.abs.name, Cond.methodLink RX5 199 yX8_plain, Cond.instanceMethod yX8_plain, Cond.selects RX8 yX8_plain yX8_plain, Cond.code yX8_plain cX8_plain 5 (some .int), Cond.methodLink RX8 64 yX2_share, Cond.instanceMethod yX2_share, Cond.selects RX2 yX2_share yX2_share, Cond.code yX2_share cX2_share 2 (some .int), Cond.fieldLink RX2 33 "Underpaint$Stuff" "cover" "I", Cond.fieldLink RX2 21 "Underpaint$Layer" "thickness" "I", Cond.fieldLink RX2 30 "Underpaint$Layer" "yellow" "I", Cond.methodLink RX8 67 yX2_seenTone, Cond.instanceMethod yX2_seenTone, Cond.selects RX2 yX2_seenTone yX2_seenTone, Cond.code yX2_seenTone cX2_seenTone 1 (some .int), Cond.methodLink RX5 127 yX5_glueDown, Cond.instanceMethod yX5_glueDown, Cond.selects RX5 yX5_glueDown yX5_glueDown]
def wsL_law0_r28 : List Cond := [Cond.code yX5_glueDown cX5_glueDown 3 (some .int), Cond.fieldLink RX5 202 "Underpaint$Stack" "tiredness" "I", Cond.methodLink RX5 130 yX5_travel, Cond.instanceMethod yX5_travel, Cond.selects RX5 yX5_travel yX5_travel, Cond.code yX5_travel cX5_travel 5 (some .int), Cond.fieldLink RX5 205 "Underpaint$Loan" "shocks" "[I", Cond.fieldLink RX5 208 "Underpaint$Loan" "damps" "[I", Cond.methodLink RX5 211 yX8_bear, Cond.instanceMethod yX8_bear, Cond.selects RX8 yX8_bear yX8_bear, Cond.code yX8_bear cX8_bear 4 (some .int), Cond.methodLink RL 180 yX18_lay, Cond.instanceMethod yX18_lay, Cond.selects RX18 yX18_lay yX18_lay, Cond.code yX18_lay cX18_lay 7 (some .int), Cond.classLink RX18 128 RX12, Cond.instantiable RX12 2, Cond.initialized RX12, Cond.methodLink RX18 124 yX18_isPlace, Cond.static yX18_isPlace, Cond.code yX18_isPlace cX18_isPlace 2 (some .boolean), Cond.methodLink RX18 130 yX12_init, Cond.instanceMethod yX12_init]
def wsL_law0_r29 : List Cond := [Cond.code yX12_init cX12_init 3 none, Cond.methodLink RX12 1 objectInit, Cond.fieldLink RX12 7 "UnderpaintModel$Act" "what" "C", Cond.fieldLink RX12 13 "UnderpaintModel$Act" "n" "[I", Cond.methodLink RX18 133 yX18_keeps, Cond.instanceMethod yX18_keeps, Cond.selects RX18 yX18_keeps yX18_keeps, Cond.code yX18_keeps cX18_keeps 5 (some .int), Cond.methodLink RX18 119 Lib.Math.abs.name, Cond.methodLink RX18 111 yX14_copy, Cond.instanceMethod yX14_copy, Cond.selects RX14 yX14_copy yX14_copy, Cond.code yX14_copy cX14_copy 6 (some (.object "UnderpaintModel$Picture")), Cond.classLink RX14 4 RX14, Cond.classLink RX14 64 "UnderpaintModel$Layer", Cond.classLink RX14 64 RX13, Cond.instantiable RX13 5, Cond.initialized RX13, Cond.methodLink RX14 35 yX14_init, Cond.methodLink RX14 38 ⟨"java/util/List", "addAll", "(Ljava/util/Collection;)Z"⟩, Cond.selects RJx4a65c ⟨"java/util/List", "addAll", "(Ljava/util/Collection;)Z"⟩ yJx4a65c_addAll_f0b43, Cond.instanceMethod yJx4a65c_addAll_f0b43, Cond.code yJx4a65c_addAll_f0b43 cJx4a65c_addAll_f0b43 6 (some .boolean), Cond.methodLink RJx4a65c 112 arraycopyName]
def wsL_law0_r30 : List Cond := [Cond.methodLink RJx4a65c 42 ⟨"java/util/Collection", "toArray", "()[Ljava/lang/Object;"⟩, Cond.selects RJx4a65c ⟨"java/util/Collection", "toArray", "()[Ljava/lang/Object;"⟩ yJx4a65c_toArray_d5877, Cond.instanceMethod yJx4a65c_toArray_d5877, Cond.code yJx4a65c_toArray_d5877 cJx4a65c_toArray_d5877 1 (some (.array (.object "java/lang/Object"))), Cond.methodLink RX14 50 ⟨"java/util/List", "iterator", "()Ljava/util/Iterator;"⟩, Cond.selects RJx4a65c ⟨"java/util/List", "iterator", "()Ljava/util/Iterator;"⟩ yJx4a65c_iterator_32c93, Cond.instanceMethod yJx4a65c_iterator_32c93, Cond.code yJx4a65c_iterator_32c93 cJx4a65c_iterator_32c93 1 (some (.object "java/util/Iterator")), Cond.classLink RJx4a65c 267 RJx35411, Cond.instantiable RJx35411 4, Cond.initialized RJx35411, Cond.methodLink RJx4a65c 269 yJx35411_init_45d68, Cond.instanceMethod yJx35411_init_45d68, Cond.code yJx35411_init_45d68 cJx35411_init_45d68 2 none, Cond.fieldLink RJx35411 1 "java/util/ArrayList$Itr" "this$0" "Ljava/util/ArrayList;", Cond.methodLink RJx35411 7 objectInit, Cond.fieldLink RJx35411 13 "java/util/ArrayList$Itr" "lastRet" "I", Cond.fieldLink RJx35411 17 "java/util/ArrayList" "modCount" "I", Cond.fieldLink RJx35411 22 "java/util/ArrayList$Itr" "expectedModCount" "I", Cond.methodLink RX14 54 ⟨"java/util/Iterator", "hasNext", "()Z"⟩, Cond.selects RJx35411 ⟨"java/util/Iterator", "hasNext", "()Z"⟩ yJx35411_hasNext_aae02, Cond.instanceMethod yJx35411_hasNext_aae02, Cond.code yJx35411_hasNext_aae02 cJx35411_hasNext_aae02 1 (some .boolean), Cond.fieldLink RJx35411 25 "java/util/ArrayList$Itr" "cursor" "I"]
def wsL_law0_r31 : List Cond := [Cond.methodLink RX14 60 ⟨"java/util/Iterator", "next", "()Ljava/lang/Object;"⟩, Cond.selects RJx35411 ⟨"java/util/Iterator", "next", "()Ljava/lang/Object;"⟩ yJx35411_next_0502b, Cond.instanceMethod yJx35411_next_0502b, Cond.code yJx35411_next_0502b cJx35411_next_0502b 3 (some (.object "java/lang/Object")), Cond.fieldLink RJx35411 37 "java/util/ArrayList" "elementData" "[Ljava/lang/Object;", Cond.methodLink RJx35411 31 yJx35411_checkForComodification_da8c8, Cond.instanceMethod yJx35411_checkForComodification_da8c8, Cond.selects RJx35411 yJx35411_checkForComodification_da8c8 yJx35411_checkForComodification_da8c8, Cond.code yJx35411_checkForComodification_da8c8 cJx35411_checkForComodification_da8c8 1 none, Cond.methodLink RX14 77 yX13_init, Cond.instanceMethod yX13_init, Cond.code yX13_init cX13_init 5 none, Cond.methodLink RX13 1 objectInit, Cond.fieldLink RX13 7 "UnderpaintModel$Layer" "of" "LUnderpaintModel$Stuff;", Cond.fieldLink RX13 13 "UnderpaintModel$Layer" "thickness" "I", Cond.fieldLink RX13 17 "UnderpaintModel$Layer" "year" "I", Cond.fieldLink RX13 20 "UnderpaintModel$Layer" "tone" "I", Cond.methodLink RX14 83 ⟨"java/util/List", "add", "(Ljava/lang/Object;)Z"⟩, Cond.methodLink RX18 115 yX14_does, Cond.instanceMethod yX14_does, Cond.selects RX14 yX14_does yX14_does, Cond.code yX14_does cX14_does 4 (some .int), Cond.classLink RX14 125 "UnderpaintModel$Stuff", Cond.methodLink RX14 99 Lib.Math.max.name]
def wsL_law0_r32 : List Cond := [Cond.methodLink RX14 120 ⟨"java/util/List", "get", "(I)Ljava/lang/Object;"⟩, Cond.selects RJx4a65c ⟨"java/util/List", "get", "(I)Ljava/lang/Object;"⟩ yJx4a65c_get_915e3, Cond.methodLink RX14 173 yX14_lays, Cond.instanceMethod yX14_lays, Cond.selects RX14 yX14_lays yX14_lays, Cond.code yX14_lays cX14_lays 6 (some .int), Cond.methodLink RX14 115 ⟨"java/util/List", "size", "()I"⟩, Cond.methodLink RX14 177 yX14_pass, Cond.instanceMethod yX14_pass, Cond.selects RX14 yX14_pass yX14_pass, Cond.code yX14_pass cX14_pass 13 none, Cond.methodLink RX14 138 Lib.Math.min.name, Cond.methodLink RX14 104 Lib.Math.abs.name, Cond.methodLink RX14 130 yJ0_indexOf_0f7a4, Cond.methodLink RX14 141 ⟨"java/util/List", "isEmpty", "()Z"⟩, Cond.methodLink RX14 154 yX15_tires, Cond.instanceMethod yX15_tires, Cond.selects RX15 yX15_tires yX15_tires, Cond.code yX15_tires cX15_tires 2 none, Cond.fieldLink RX15 57 "UnderpaintModel$Place" "tired" "I", Cond.methodLink RX15 60 Lib.Math.min.name, Cond.methodLink RX14 157 yX15_top, Cond.instanceMethod yX15_top, Cond.selects RX15 yX15_top yX15_top]
def wsL_law0_r33 : List Cond := [Cond.code yX15_top cX15_top 1 (some (.object "UnderpaintModel$Layer")), Cond.classLink RX15 38 "UnderpaintModel$Layer", Cond.methodLink RX15 43 ⟨"java/util/List", "isEmpty", "()Z"⟩, Cond.methodLink RX15 46 ⟨"java/util/List", "size", "()I"⟩, Cond.methodLink RX15 50 ⟨"java/util/List", "get", "(I)Ljava/lang/Object;"⟩, Cond.methodLink RX14 181 yX14_scratches, Cond.instanceMethod yX14_scratches, Cond.selects RX14 yX14_scratches yX14_scratches, Cond.code yX14_scratches cX14_scratches 5 (some .int), Cond.classLink RX14 204 RX16, Cond.instantiable RX16 2, Cond.initialized RX16, Cond.methodLink RX14 201 yX15_drop, Cond.instanceMethod yX15_drop, Cond.selects RX15 yX15_drop yX15_drop, Cond.code yX15_drop cX15_drop 2 none, Cond.methodLink RX15 54 ⟨"java/util/List", "remove", "(I)Ljava/lang/Object;"⟩, Cond.selects RJx4a65c ⟨"java/util/List", "remove", "(I)Ljava/lang/Object;"⟩ yJx4a65c_remove_915e3, Cond.instanceMethod yJx4a65c_remove_915e3, Cond.code yJx4a65c_remove_915e3 cJx4a65c_remove_915e3 4 (some (.object "java/lang/Object")), Cond.methodLink RJx4a65c 144 yJx4a65c_fastRemove_b59b0, Cond.instanceMethod yJx4a65c_fastRemove_b59b0, Cond.selects RJx4a65c yJx4a65c_fastRemove_b59b0 yJx4a65c_fastRemove_b59b0, Cond.code yJx4a65c_fastRemove_b59b0 cJx4a65c_fastRemove_b59b0 4 none]
def wsL_law0_r34 : List Cond := [Cond.methodLink RX14 207 yX16_init, Cond.instanceMethod yX16_init, Cond.code yX16_init cX16_init 3 none, Cond.methodLink RX16 1 objectInit, Cond.fieldLink RX16 7 "UnderpaintModel$Scratch" "place" "I", Cond.fieldLink RX16 13 "UnderpaintModel$Scratch" "left" "I", Cond.methodLink RX14 184 yX14_swabs, Cond.instanceMethod yX14_swabs, Cond.selects RX14 yX14_swabs yX14_swabs, Cond.code yX14_swabs cX14_swabs 7 (some .int), Cond.fieldLink RX14 209 "UnderpaintModel$Picture" "wasGlaze" "Z", Cond.fieldLink RX14 217 "UnderpaintModel$Picture" "depth" "I", Cond.methodLink RX14 213 yX17_goesBy, Cond.instanceMethod yX17_goesBy, Cond.selects RX17 yX17_goesBy yX17_goesBy, Cond.code yX17_goesBy cX17_goesBy 2 (some .boolean), Cond.methodLink RX17 44 yJ0_indexOf_0f7a4, Cond.methodLink RX14 220 yX17_swellsBy, Cond.instanceMethod yX17_swellsBy, Cond.selects RX17 yX17_swellsBy yX17_swellsBy, Cond.code yX17_swellsBy cX17_swellsBy 2 (some .boolean), Cond.methodLink RX14 188 yX14_fills, Cond.instanceMethod yX14_fills, Cond.selects RX14 yX14_fills yX14_fills]
def wsL_law0_r35 : List Cond := [Cond.code yX14_fills cX14_fills 4 (some .int), Cond.methodLink RX14 223 yX14_highest, Cond.instanceMethod yX14_highest, Cond.selects RX14 yX14_highest yX14_highest, Cond.code yX14_highest cX14_highest 5 (some .int), Cond.methodLink RX14 91 yX14_neighbour, Cond.instanceMethod yX14_neighbour, Cond.selects RX14 yX14_neighbour yX14_neighbour, Cond.code yX14_neighbour cX14_neighbour 5 (some .int), Cond.methodLink RX14 95 yX15_sum, Cond.instanceMethod yX15_sum, Cond.selects RX15 yX15_sum yX15_sum, Cond.code yX15_sum cX15_sum 4 (some .int), Cond.methodLink RX15 22 ⟨"java/util/List", "iterator", "()Ljava/util/Iterator;"⟩, Cond.methodLink RX15 28 ⟨"java/util/Iterator", "hasNext", "()Z"⟩, Cond.methodLink RX15 34 ⟨"java/util/Iterator", "next", "()Ljava/lang/Object;"⟩, Cond.methodLink RX14 192 yX14_retouches, Cond.instanceMethod yX14_retouches, Cond.selects RX14 yX14_retouches yX14_retouches, Cond.code yX14_retouches cX14_retouches 9 (some .int), Cond.methodLink RX14 226 yX15_plain, Cond.instanceMethod yX15_plain, Cond.selects RX15 yX15_plain yX15_plain, Cond.code yX15_plain cX15_plain 8 (some .int)]
def wsL_law0_r36 : List Cond := [Cond.methodLink RX14 196 yX14_lends, Cond.instanceMethod yX14_lends, Cond.selects RX14 yX14_lends yX14_lends, Cond.code yX14_lends cX14_lends 8 (some .int), Cond.methodLink RX14 229 yX15_leg, Cond.instanceMethod yX15_leg, Cond.selects RX15 yX15_leg yX15_leg, Cond.code yX15_leg cX15_leg 5 (some .int), Cond.methodLink RX15 103 Lib.Math.abs.name, Cond.methodLink RX15 107 yX15_tires, Cond.methodLink RX15 96 yX15_top, Cond.methodLink RX15 111 yX15_drop, Cond.methodLink RL 181 yL_layers, Cond.static yL_layers, Cond.codeWith yL_layers cL_layers 5 (some .int) [(0, 10, 13, 13)], Cond.methodLink RL 29 yX11_layers, Cond.instanceMethod yX11_layers, Cond.selects RX11 yX11_layers yX11_layers, Cond.code yX11_layers cX11_layers 3 (some .int), Cond.fieldLink RX11 183 "Underpaint$Stack" "size" "I", Cond.methodLink RX11 176 yX11_demandPlace, Cond.static yX11_demandPlace, Cond.code yX11_demandPlace cX11_demandPlace 2 none, Cond.methodLink RX11 179 yX5_at]
def wsL_law0_r37 : List Cond := [Cond.methodLink RL 183 yX18_layers, Cond.instanceMethod yX18_layers, Cond.selects RX18 yX18_layers yX18_layers, Cond.code yX18_layers cX18_layers 3 (some .int), Cond.methodLink RL 184 yL_layerAt, Cond.static yL_layerAt, Cond.codeWith yL_layerAt cL_layerAt 7 (some .int) [(0, 14, 17, 13), (0, 14, 21, 37)], Cond.classLink RL 37 "java/util/NoSuchElementException", Cond.methodLink RL 33 yX11_layerAt, Cond.instanceMethod yX11_layerAt, Cond.selects RX11 yX11_layerAt yX11_layerAt, Cond.code yX11_layerAt cX11_layerAt 6 (some .int), Cond.fieldLink RX11 190 "Underpaint$Stack" "rows" "[LUnderpaint$Layer;", Cond.methodLink RX11 187 yX11_demandElement, Cond.static yX11_demandElement, Cond.code yX11_demandElement cX11_demandElement 1 none, Cond.classLink RX11 467 "java/util/NoSuchElementException", Cond.initialized "java/util/NoSuchElementException", Cond.methodLink RX11 194 yX2_tell, Cond.instanceMethod yX2_tell, Cond.selects RX2 yX2_tell yX2_tell, Cond.code yX2_tell cX2_tell 2 (some .int), Cond.fieldLink RX2 15 "Underpaint$Stuff" "number" "I", Cond.fieldLink RX2 24 "Underpaint$Layer" "laidIn" "I"]
def wsL_law0_r38 : List Cond := [Cond.methodLink RL 187 yX18_layerAt, Cond.instanceMethod yX18_layerAt, Cond.selects RX18 yX18_layerAt yX18_layerAt, Cond.code yX18_layerAt cX18_layerAt 7 (some .int), Cond.classLink RX18 152 "UnderpaintModel$Layer", Cond.methodLink RX18 148 ⟨"java/util/List", "get", "(I)Ljava/lang/Object;"⟩, Cond.methodLink RL 188 yL_tired, Cond.static yL_tired, Cond.codeWith yL_tired cL_tired 5 (some .int) [(0, 10, 13, 13)], Cond.methodLink RL 39 yX11_tired, Cond.instanceMethod yX11_tired, Cond.selects RX11 yX11_tired yX11_tired, Cond.code yX11_tired cX11_tired 3 (some .int), Cond.fieldLink RX11 200 "Underpaint$Stack" "tiredness" "I", Cond.methodLink RL 190 yX18_tired, Cond.instanceMethod yX18_tired, Cond.selects RX18 yX18_tired yX18_tired, Cond.code yX18_tired cX18_tired 3 (some .int), Cond.methodLink RL 191 yL_light, Cond.static yL_light, Cond.codeWith yL_light cL_light 4 (some .int) [(0, 9, 12, 13)], Cond.methodLink RL 42 yX11_light, Cond.instanceMethod yX11_light, Cond.selects RX11 yX11_light yX11_light]
def wsL_law0_r39 : List Cond := [Cond.code yX11_light cX11_light 3 (some .int), Cond.methodLink RL 194 yX18_light, Cond.instanceMethod yX18_light, Cond.selects RX18 yX18_light yX18_light, Cond.code yX18_light cX18_light 3 (some .int), Cond.methodLink RL 195 yL_damp, Cond.static yL_damp, Cond.codeWith yL_damp cL_damp 4 (some .int) [(0, 9, 12, 13)], Cond.methodLink RL 46 yX11_damp, Cond.instanceMethod yX11_damp, Cond.selects RX11 yX11_damp yX11_damp, Cond.code yX11_damp cX11_damp 3 (some .int), Cond.methodLink RL 197 yX18_damp, Cond.instanceMethod yX18_damp, Cond.selects RX18 yX18_damp yX18_damp, Cond.code yX18_damp cX18_damp 3 (some .int), Cond.methodLink RL 198 yL_pass, Cond.static yL_pass, Cond.codeWith yL_pass cL_pass 4 (some .int) [(0, 9, 12, 13), (0, 9, 15, 15)], Cond.methodLink RL 49 yX11_pass, Cond.instanceMethod yX11_pass, Cond.selects RX11 yX11_pass yX11_pass, Cond.code yX11_pass cX11_pass 3 (some .int), Cond.fieldLink RX11 203 "Underpaint$Act" "light" "I"]
def wsL_law0_r40 : List Cond := [Cond.fieldLink RX11 206 "Underpaint$Act" "damp" "I", Cond.methodLink RL 200 yX18_pass, Cond.instanceMethod yX18_pass, Cond.selects RX18 yX18_pass yX18_pass, Cond.code yX18_pass cX18_pass 2 (some .int), Cond.methodLink RL 201 yX11_year, Cond.instanceMethod yX11_year, Cond.selects RX11 yX11_year yX11_year, Cond.code yX11_year cX11_year 1 (some .int), Cond.fieldLink RX11 209 "Underpaint$Picture" "yearNow" "I", Cond.methodLink RL 204 yX18_year, Cond.instanceMethod yX18_year, Cond.selects RX18 yX18_year yX18_year, Cond.code yX18_year cX18_year 1 (some .int), Cond.methodLink RL 205 yL_view, Cond.static yL_view, Cond.codeWith yL_view cL_view 6 (some .int) [(0, 12, 15, 13)], Cond.methodLink RL 52 yX11_view, Cond.instanceMethod yX11_view, Cond.selects RX11 yX11_view yX11_view, Cond.code yX11_view cX11_view 4 (some .int), Cond.methodLink RX11 212 yX11_demandRayAndPlace, Cond.static yX11_demandRayAndPlace, Cond.code yX11_demandRayAndPlace cX11_demandRayAndPlace 3 none]
def wsL_law0_r41 : List Cond := [Cond.methodLink RX11 218 yX5_see, Cond.instanceMethod yX5_see, Cond.selects RX5 yX5_see yX5_see, Cond.code yX5_see cX5_see 4 (some .int), Cond.methodLink RX5 40 yX5_raking, Cond.instanceMethod yX5_raking, Cond.selects RX5 yX5_raking yX5_raking, Cond.code yX5_raking cX5_raking 7 (some .int), Cond.methodLink RX5 47 yX8_see, Cond.instanceMethod yX8_see, Cond.selects RX8 yX8_see yX8_see, Cond.code yX8_see cX8_see 2 (some .int), Cond.methodLink RX8 51 yX8_plain, Cond.methodLink RX8 55 yX8_heavy, Cond.instanceMethod yX8_heavy, Cond.selects RX8 yX8_heavy yX8_heavy, Cond.code yX8_heavy cX8_heavy 3 (some .int), Cond.fieldLink RX8 70 "Underpaint$Stuff" "weight" "I", Cond.methodLink RX8 58 yX8_heat, Cond.instanceMethod yX8_heat, Cond.selects RX8 yX8_heat yX8_heat, Cond.code yX8_heat cX8_heat 2 (some .int), Cond.fieldLink RX8 73 "Underpaint$Stuff" "isThrough" "Z", Cond.fieldLink RX8 77 "Underpaint$Stuff" "number" "I"]
def wsL_law0_r42 : List Cond := [Cond.methodLink RX8 61 yX8_lampLight, Cond.instanceMethod yX8_lampLight, Cond.selects RX8 yX8_lampLight yX8_lampLight, Cond.code yX8_lampLight cX8_lampLight 1 (some .int), Cond.fieldLink RX8 80 "Underpaint$Stuff" "lamp" "I", Cond.methodLink RL 208 yX18_view, Cond.instanceMethod yX18_view, Cond.selects RX18 yX18_view yX18_view, Cond.code yX18_view cX18_view 4 (some .int), Cond.methodLink RX18 179 yX18_isRay, Cond.static yX18_isRay, Cond.code yX18_isRay cX18_isRay 1 (some .boolean), Cond.methodLink RX18 183 yX14_view, Cond.instanceMethod yX14_view, Cond.selects RX14 yX14_view yX14_view, Cond.code yX14_view cX14_view 3 (some .int), Cond.methodLink RX14 108 yX14_raking, Cond.instanceMethod yX14_raking, Cond.selects RX14 yX14_raking yX14_raking, Cond.code yX14_raking cX14_raking 5 (some .int), Cond.methodLink RX14 111 yX15_view, Cond.instanceMethod yX15_view, Cond.selects RX15 yX15_view yX15_view, Cond.code yX15_view cX15_view 5 (some .int)]
def wsL_law0_r43 : List Cond := [Cond.methodLink RX15 85 yX15_plain, Cond.methodLink RL 209 yL_note, Cond.static yL_note, Cond.codeWith yL_note cL_note 6 (some .int) [(0, 12, 15, 13)], Cond.methodLink RL 56 yX11_note, Cond.instanceMethod yX11_note, Cond.selects RX11 yX11_note yX11_note, Cond.code yX11_note cX11_note 5 (some .int), Cond.methodLink RX11 222 yX11_placeOf, Cond.methodLink RX11 226 yX4_keep, Cond.instanceMethod yX4_keep, Cond.selects RX4 yX4_keep yX4_keep, Cond.code yX4_keep cX4_keep 4 none, Cond.methodLink RL 211 yX18_note, Cond.instanceMethod yX18_note, Cond.selects RX18 yX18_note yX18_note, Cond.code yX18_note cX18_note 5 (some .int), Cond.methodLink RL 212 yL_noted, Cond.static yL_noted, Cond.codeWith yL_noted cL_noted 6 (some .int) [(0, 12, 15, 13), (0, 12, 19, 37)], Cond.methodLink RL 59 yX11_noted, Cond.instanceMethod yX11_noted, Cond.selects RX11 yX11_noted yX11_noted, Cond.code yX11_noted cX11_noted 4 (some .int)]
def wsL_law0_r44 : List Cond := [Cond.methodLink RX11 230 yX4_has, Cond.instanceMethod yX4_has, Cond.selects RX4 yX4_has yX4_has, Cond.code yX4_has cX4_has 3 (some .boolean), Cond.methodLink RX11 233 yX4_read, Cond.instanceMethod yX4_read, Cond.selects RX4 yX4_read yX4_read, Cond.code yX4_read cX4_read 3 (some .int), Cond.methodLink RL 214 yX18_noted, Cond.instanceMethod yX18_noted, Cond.selects RX18 yX18_noted yX18_noted, Cond.code yX18_noted cX18_noted 5 (some .int), Cond.methodLink RL 215 yL_guesses, Cond.static yL_guesses, Cond.codeWith yL_guesses cL_guesses 5 (some .int) [(0, 10, 13, 13)], Cond.methodLink RL 62 yX11_guesses, Cond.instanceMethod yX11_guesses, Cond.selects RX11 yX11_guesses yX11_guesses, Cond.code yX11_guesses cX11_guesses 3 (some .int), Cond.constant RX11 236 (1000000000), Cond.methodLink RX11 237 yX4_countGuesses, Cond.instanceMethod yX4_countGuesses, Cond.selects RX4 yX4_countGuesses yX4_countGuesses, Cond.code yX4_countGuesses cX4_countGuesses 6 (some .int)]
def wsL_law0_r45 : List Cond := [Cond.fieldLink RX4 50 "Underpaint$Notes" "possible" "I", Cond.classLink RX4 21 "Underpaint$Stuff", Cond.fieldLink RX4 64 "Underpaint$Stuff" "kind" "C", Cond.methodLink RX4 54 yJx4a65c_size_8abf5, Cond.methodLink RX4 60 yJx4a65c_get_915e3, Cond.methodLink RX4 68 yX4_countUpward, Cond.instanceMethod yX4_countUpward, Cond.selects RX4 yX4_countUpward yX4_countUpward, Cond.code yX4_countUpward cX4_countUpward 10 none, Cond.methodLink RX4 72 yX4_build, Cond.instanceMethod yX4_build, Cond.selects RX4 yX4_build yX4_build, Cond.code yX4_build cX4_build 6 none, Cond.fieldLink RX4 79 "Underpaint$Stack" "size" "I", Cond.methodLink RX4 81 yX8_put, Cond.methodLink RX4 75 yX4_match, Cond.instanceMethod yX4_match, Cond.selects RX4 yX4_match yX4_match, Cond.code yX4_match cX4_match 5 (some .boolean), Cond.methodLink RX4 45 Lib.Math.abs.name, Cond.methodLink RX4 33 yX4_has, Cond.methodLink RX4 37 yX8_see, Cond.methodLink RX4 41 yX4_read, Cond.methodLink RL 217 yX18_guesses]
def wsL_law0_r46 : List Cond := [Cond.instanceMethod yX18_guesses, Cond.selects RX18 yX18_guesses yX18_guesses, Cond.code yX18_guesses cX18_guesses 3 (some .int), Cond.methodLink RX18 217 yX18_possible, Cond.instanceMethod yX18_possible, Cond.selects RX18 yX18_possible yX18_possible, Cond.code yX18_possible cX18_possible 12 (some (.object "java/util/List")), Cond.classLink RX18 152 RX13, Cond.classLink RX18 91 "UnderpaintModel$Stuff", Cond.classLink RX18 142 RX15, Cond.methodLink RX18 197 yX13_init, Cond.methodLink RX18 204 yX15_init, Cond.methodLink RX18 207 yX18_isAlike, Cond.instanceMethod yX18_isAlike, Cond.selects RX18 yX18_isAlike yX18_isAlike, Cond.code yX18_isAlike cX18_isAlike 5 (some .boolean), Cond.methodLink RX18 189 yJ0_charAt_5068e, Cond.instanceMethod yJ0_charAt_5068e, Cond.selects RJ0 yJ0_charAt_5068e yJ0_charAt_5068e, Cond.code yJ0_charAt_5068e cJ0_charAt_5068e 2 (some .char), Cond.methodLink RJ0 495 yJ1_charAt_3b067, Cond.static yJ1_charAt_3b067, Cond.code yJ1_charAt_3b067 cJ1_charAt_3b067 2 (some .char), Cond.methodLink RJ1 9 yJ0_checkIndex_df160]
def wsL_law0_r47 : List Cond := [Cond.static yJ0_checkIndex_df160, Cond.code yJ0_checkIndex_df160 cJ0_checkIndex_df160 2 none, Cond.methodLink RJ0 1059 yJ3_checkIndex_8e157, Cond.methodLink RJ0 498 yJ2_charAt_3b067, Cond.static yJ2_charAt_3b067, Cond.code yJ2_charAt_3b067 cJ2_charAt_3b067 2 (some .char), Cond.methodLink RJ2 67 yJ2_checkIndex_2214a, Cond.static yJ2_checkIndex_2214a, Cond.code yJ2_checkIndex_2214a cJ2_checkIndex_2214a 2 none, Cond.methodLink RJ2 414 yJ0_checkIndex_df160, Cond.methodLink RX18 193 yX15_view, Cond.methodLink RX18 211 yJ6_valueOf_2dffe, Cond.static yJ6_valueOf_2dffe, Cond.initialized RJ6, Cond.code yJ6_valueOf_2dffe cJ6_valueOf_2dffe 1 (some (.object "java/lang/Integer")), Cond.fieldLink RJ6 191 "java/lang/Integer$IntegerCache" "high" "I", Cond.fieldLink RJ6 195 "java/lang/Integer$IntegerCache" "cache" "[Ljava/lang/Integer;", Cond.classLink RJ6 1 RJ6, Cond.instantiable RJ6 1, Cond.methodLink RJ6 199 yJ6_init_d00df, Cond.instanceMethod yJ6_init_d00df, Cond.code yJ6_init_d00df cJ6_init_d00df 2 none, Cond.fieldLink RJ6 205 "java/lang/Integer" "value" "I", Cond.methodLink RJ6 202 yJxd2413_init_da8c8]
def wsL_law0_r48 : List Cond := [Cond.instanceMethod yJxd2413_init_da8c8, Cond.initialized RJxd2413, Cond.code yJxd2413_init_da8c8 cJxd2413_init_da8c8 1 none, Cond.methodLink RJxd2413 1 objectInit, Cond.methodLink RL 218 yL_guessAt, Cond.static yL_guessAt, Cond.codeWith yL_guessAt cL_guessAt 7 (some .int) [(0, 14, 17, 13), (0, 14, 21, 37)], Cond.methodLink RL 65 yX11_guessAt, Cond.instanceMethod yX11_guessAt, Cond.selects RX11 yX11_guessAt yX11_guessAt, Cond.code yX11_guessAt cX11_guessAt 6 (some .int), Cond.fieldLink RX11 241 "Underpaint$Notes" "guess" "LUnderpaint$Stack;", Cond.fieldLink RX11 245 "Underpaint$Layer" "stuff" "LUnderpaint$Stuff;", Cond.methodLink RL 221 yX18_guessAt, Cond.instanceMethod yX18_guessAt, Cond.selects RX18 yX18_guessAt yX18_guessAt, Cond.code yX18_guessAt cX18_guessAt 8 (some .int), Cond.classLink RX18 212 "java/lang/Integer", Cond.methodLink RX18 221 yJ6_intValue_8abf5, Cond.instanceMethod yJ6_intValue_8abf5, Cond.selects RJ6 yJ6_intValue_8abf5 yJ6_intValue_8abf5, Cond.code yJ6_intValue_8abf5 cJ6_intValue_8abf5 1 (some .int), Cond.methodLink RL 222 yL_isPossible, Cond.static yL_isPossible]
def wsL_law0_r49 : List Cond := [Cond.codeWith yL_isPossible cL_isPossible 5 (some .int) [(0, 17, 20, 13)], Cond.methodLink RL 69 yX11_isPossible, Cond.instanceMethod yX11_isPossible, Cond.selects RX11 yX11_isPossible yX11_isPossible, Cond.code yX11_isPossible cX11_isPossible 3 (some .boolean), Cond.methodLink RX11 248 yX4_match, Cond.methodLink RL 224 yX18_isPossible, Cond.instanceMethod yX18_isPossible, Cond.selects RX18 yX18_isPossible yX18_isPossible, Cond.code yX18_isPossible cX18_isPossible 3 (some .boolean), Cond.methodLink RL 225 yL_original, Cond.static yL_original, Cond.codeWith yL_original cL_original 4 (some .int) [(0, 9, 12, 13)], Cond.methodLink RL 72 yX11_original, Cond.instanceMethod yX11_original, Cond.selects RX11 yX11_original yX11_original, Cond.code yX11_original cX11_original 3 (some .int), Cond.methodLink RL 227 yX18_original, Cond.instanceMethod yX18_original, Cond.selects RX18 yX18_original yX18_original, Cond.code yX18_original cX18_original 3 (some .int), Cond.methodLink RL 228 yL_tooYoung, Cond.static yL_tooYoung, Cond.codeWith yL_tooYoung cL_tooYoung 4 (some .int) [(0, 9, 12, 13), (0, 9, 15, 37)]]
def wsL_law0_r50 : List Cond := [Cond.methodLink RL 75 yX11_tooYoung, Cond.instanceMethod yX11_tooYoung, Cond.selects RX11 yX11_tooYoung yX11_tooYoung, Cond.code yX11_tooYoung cX11_tooYoung 5 (some .int), Cond.methodLink RX11 252 yX5_hasOriginal, Cond.instanceMethod yX5_hasOriginal, Cond.selects RX5 yX5_hasOriginal yX5_hasOriginal, Cond.code yX5_hasOriginal cX5_hasOriginal 4 (some .boolean), Cond.methodLink RX5 214 yX8_hasOriginal, Cond.instanceMethod yX8_hasOriginal, Cond.selects RX8 yX8_hasOriginal yX8_hasOriginal, Cond.code yX8_hasOriginal cX8_hasOriginal 4 (some .boolean), Cond.methodLink RL 230 yX18_tooYoung, Cond.instanceMethod yX18_tooYoung, Cond.selects RX18 yX18_tooYoung yX18_tooYoung, Cond.code yX18_tooYoung cX18_tooYoung 9 (some .int), Cond.methodLink RX18 238 Lib.Math.min.name, Cond.methodLink RX18 224 ⟨"java/util/List", "iterator", "()Ljava/util/Iterator;"⟩, Cond.methodLink RX18 228 ⟨"java/util/Iterator", "hasNext", "()Z"⟩, Cond.methodLink RX18 233 ⟨"java/util/Iterator", "next", "()Ljava/lang/Object;"⟩, Cond.methodLink RL 231 yL_ring, Cond.static yL_ring, Cond.codeWith yL_ring cL_ring 5 (some .int) [(0, 10, 13, 13), (0, 10, 17, 15)], Cond.methodLink RL 78 yX11_ring]
def wsL_law0_r51 : List Cond := [Cond.instanceMethod yX11_ring, Cond.selects RX11 yX11_ring yX11_ring, Cond.code yX11_ring cX11_ring 4 (some .int), Cond.fieldLink RX11 256 "Underpaint$Dates" "master" "LUnderpaint$Rings;", Cond.fieldLink RX11 260 "Underpaint$Dates" "board" "LUnderpaint$Rings;", Cond.fieldLink RX11 263 "Underpaint$Rings" "size" "I", Cond.fieldLink RX11 266 "Underpaint$Rings" "widths" "[I", Cond.methodLink RX11 270 yX6_add, Cond.instanceMethod yX6_add, Cond.selects RX6 yX6_add yX6_add, Cond.code yX6_add cX6_add 2 (some .int), Cond.fieldLink RX6 13 "Underpaint$Rings" "size" "I", Cond.methodLink RL 234 yX18_ring, Cond.instanceMethod yX18_ring, Cond.selects RX18 yX18_ring yX18_ring, Cond.code yX18_ring cX18_ring 4 (some .int), Cond.methodLink RL 235 yL_boardAt, Cond.static yL_boardAt, Cond.codeWith yL_boardAt cL_boardAt 3 (some .int) [(0, 8, 11, 37)], Cond.methodLink RL 82 yX11_boardAt, Cond.instanceMethod yX11_boardAt, Cond.selects RX11 yX11_boardAt yX11_boardAt, Cond.code yX11_boardAt cX11_boardAt 1 (some .int), Cond.methodLink RX11 272 yX1_bestPlace]
def wsL_law0_r52 : List Cond := [Cond.instanceMethod yX1_bestPlace, Cond.selects RX1 yX1_bestPlace yX1_bestPlace, Cond.code yX1_bestPlace cX1_bestPlace 6 (some .int), Cond.constant RX1 30 (1000000000), Cond.fieldLink RX1 31 "Underpaint$Rings" "size" "I", Cond.fieldLink RX1 35 "Underpaint$Rings" "widths" "[I", Cond.methodLink RX1 38 Lib.Math.abs.name, Cond.methodLink RL 238 yX18_boardAt, Cond.instanceMethod yX18_boardAt, Cond.selects RX18 yX18_boardAt yX18_boardAt, Cond.code yX18_boardAt cX18_boardAt 6 (some .int), Cond.constant RX18 242 (2147483647), Cond.methodLink RL 239 yL_painter, Cond.static yL_painter, Cond.codeWith yL_painter cL_painter 7 (some .int) [(0, 14, 17, 13), (0, 14, 21, 15)], Cond.methodLink RL 86 yX11_painter, Cond.instanceMethod yX11_painter, Cond.selects RX11 yX11_painter yX11_painter, Cond.code yX11_painter cX11_painter 5 (some .int), Cond.fieldLink RX11 279 "Underpaint$Dates" "painters" "I", Cond.methodLink RX11 275 yX11_demandHabits, Cond.static yX11_demandHabits, Cond.code yX11_demandHabits cX11_demandHabits 4 none, Cond.methodLink RX11 282 yX1_addPainter]
def wsL_law0_r53 : List Cond := [Cond.instanceMethod yX1_addPainter, Cond.selects RX1 yX1_addPainter yX1_addPainter, Cond.code yX1_addPainter cX1_addPainter 6 (some .int), Cond.fieldLink RX1 44 "Underpaint$Dates" "painters" "I", Cond.methodLink RL 241 yX18_painter, Cond.instanceMethod yX18_painter, Cond.selects RX18 yX18_painter yX18_painter, Cond.code yX18_painter cX18_painter 5 (some .int), Cond.methodLink RX18 243 yX18_areHabits, Cond.static yX18_areHabits, Cond.code yX18_areHabits cX18_areHabits 4 (some .boolean), Cond.methodLink RL 242 yL_likely, Cond.static yL_likely, Cond.codeWith yL_likely cL_likely 7 (some .int) [(0, 14, 17, 13), (0, 14, 21, 37)], Cond.methodLink RL 89 yX11_likely, Cond.instanceMethod yX11_likely, Cond.selects RX11 yX11_likely yX11_likely, Cond.code yX11_likely cX11_likely 5 (some .int), Cond.methodLink RX11 286 yX1_compare, Cond.instanceMethod yX1_compare, Cond.selects RX1 yX1_compare yX1_compare, Cond.code yX1_compare cX1_compare 6 none, Cond.methodLink RX1 47 yX1_square, Cond.static yX1_square]
def wsL_law0_r54 : List Cond := [Cond.code yX1_square cX1_square 1 (some .int), Cond.methodLink RX11 289 yX1_nearest, Cond.instanceMethod yX1_nearest, Cond.selects RX1 yX1_nearest yX1_nearest, Cond.code yX1_nearest cX1_nearest 5 (some .int), Cond.methodLink RL 244 yX18_likely, Cond.instanceMethod yX18_likely, Cond.selects RX18 yX18_likely yX18_likely, Cond.code yX18_likely cX18_likely 5 (some .int), Cond.methodLink RX18 252 yX18_nearest, Cond.instanceMethod yX18_nearest, Cond.selects RX18 yX18_nearest yX18_nearest, Cond.code yX18_nearest cX18_nearest 5 (some .int), Cond.methodLink RX18 248 yX18_far, Cond.instanceMethod yX18_far, Cond.selects RX18 yX18_far yX18_far, Cond.code yX18_far cX18_far 5 (some .int), Cond.classLink RX18 247 "[I", Cond.methodLink RL 245 yL_isSure, Cond.static yL_isSure, Cond.codeWith yL_isSure cL_isSure 7 (some .int) [(0, 21, 24, 13), (0, 21, 28, 37)], Cond.methodLink RL 92 yX11_isSure, Cond.instanceMethod yX11_isSure, Cond.selects RX11 yX11_isSure yX11_isSure]
def wsL_law0_r55 : List Cond := [Cond.code yX11_isSure cX11_isSure 5 (some .boolean), Cond.methodLink RX11 292 yX1_isNearestSure, Cond.instanceMethod yX1_isNearestSure, Cond.selects RX1 yX1_isNearestSure yX1_isNearestSure, Cond.code yX1_isNearestSure cX1_isNearestSure 3 (some .boolean), Cond.methodLink RX1 50 yX1_nearest, Cond.methodLink RL 247 yX18_isSure, Cond.instanceMethod yX18_isSure, Cond.selects RX18 yX18_isSure yX18_isSure, Cond.code yX18_isSure cX18_isSure 8 (some .boolean), Cond.methodLink RL 248 yL_scratch, Cond.static yL_scratch, Cond.codeWith yL_scratch cL_scratch 6 (some .int) [(0, 12, 15, 13), (0, 12, 19, 23), (0, 12, 23, 15)], Cond.methodLink RL 96 yX11_scratch, Cond.instanceMethod yX11_scratch, Cond.selects RX11 yX11_scratch yX11_scratch, Cond.code yX11_scratch cX11_scratch 4 (some .int), Cond.methodLink RL 251 yX18_scratch, Cond.instanceMethod yX18_scratch, Cond.selects RX18 yX18_scratch yX18_scratch, Cond.code yX18_scratch cX18_scratch 4 (some .int), Cond.methodLink RL 252 yX11_scratches, Cond.instanceMethod yX11_scratches, Cond.selects RX11 yX11_scratches yX11_scratches]
def wsL_law0_r56 : List Cond := [Cond.code yX11_scratches cX11_scratches 1 (some .int), Cond.fieldLink RX11 295 "Underpaint$Picture" "scratchCount" "I", Cond.methodLink RL 255 yX18_scratches, Cond.instanceMethod yX18_scratches, Cond.selects RX18 yX18_scratches yX18_scratches, Cond.code yX18_scratches cX18_scratches 1 (some .int), Cond.methodLink RL 256 yL_liesOver, Cond.static yL_liesOver, Cond.codeWith yL_liesOver cL_liesOver 5 (some .int) [(0, 17, 20, 21), (0, 17, 24, 37)], Cond.methodLink RL 100 yX11_liesOver, Cond.instanceMethod yX11_liesOver, Cond.selects RX11 yX11_liesOver yX11_liesOver, Cond.code yX11_liesOver cX11_liesOver 3 (some .boolean), Cond.fieldLink RX11 302 "Underpaint$Picture" "layersLeft" "[I", Cond.methodLink RX11 298 yX5_scratched, Cond.instanceMethod yX5_scratched, Cond.selects RX5 yX5_scratched yX5_scratched, Cond.code yX5_scratched cX5_scratched 2 (some (.object "Underpaint$Stack")), Cond.methodLink RL 258 yX18_liesOver, Cond.instanceMethod yX18_liesOver, Cond.selects RX18 yX18_liesOver yX18_liesOver, Cond.code yX18_liesOver cX18_liesOver 4 (some .boolean), Cond.classLink RX18 262 "UnderpaintModel$Scratch", Cond.methodLink RX18 259 yX18_isScratch]
def wsL_law0_r57 : List Cond := [Cond.instanceMethod yX18_isScratch, Cond.selects RX18 yX18_isScratch yX18_isScratch, Cond.code yX18_isScratch cX18_isScratch 2 (some .boolean), Cond.methodLink RL 259 yL_later, Cond.static yL_later, Cond.codeWith yL_later cL_later 5 (some .int) [(0, 10, 13, 21), (0, 10, 17, 23)], Cond.methodLink RL 103 yX11_later, Cond.instanceMethod yX11_later, Cond.selects RX11 yX11_later yX11_later, Cond.code yX11_later cX11_later 5 (some .int), Cond.methodLink RX11 308 Lib.Math.min.name, Cond.methodLink RX11 305 yX5_areAtOnePlace, Cond.instanceMethod yX5_areAtOnePlace, Cond.selects RX5 yX5_areAtOnePlace yX5_areAtOnePlace, Cond.code yX5_areAtOnePlace cX5_areAtOnePlace 3 (some .boolean), Cond.methodLink RL 261 yX18_later, Cond.instanceMethod yX18_later, Cond.selects RX18 yX18_later yX18_later, Cond.code yX18_later cX18_later 6 (some .int), Cond.methodLink RL 262 yL_solvent, Cond.static yL_solvent, Cond.codeWith yL_solvent cL_solvent 5 (some .int) [(0, 10, 13, 13), (0, 10, 17, 15)], Cond.methodLink RL 106 yX11_solvent, Cond.instanceMethod yX11_solvent]
def wsL_law0_r58 : List Cond := [Cond.selects RX11 yX11_solvent yX11_solvent, Cond.code yX11_solvent cX11_solvent 3 (some .int), Cond.classLink RX11 313 RX7, Cond.instantiable RX7 3, Cond.initialized RX7, Cond.methodLink RX11 315 yX7_init, Cond.instanceMethod yX7_init, Cond.code yX7_init cX7_init 3 none, Cond.methodLink RX7 1 objectInit, Cond.fieldLink RX7 7 "Underpaint$Solvent" "strength" "I", Cond.fieldLink RX7 13 "Underpaint$Solvent" "reach" "I", Cond.methodLink RL 264 yX18_solvent, Cond.instanceMethod yX18_solvent, Cond.selects RX18 yX18_solvent yX18_solvent, Cond.code yX18_solvent cX18_solvent 3 (some .int), Cond.methodLink RL 265 yL_tested, Cond.static yL_tested, Cond.codeWith yL_tested cL_tested 4 (some .int) [(0, 9, 12, 21)], Cond.methodLink RL 109 yX11_tested, Cond.instanceMethod yX11_tested, Cond.selects RX11 yX11_tested yX11_tested, Cond.code yX11_tested cX11_tested 2 (some .int), Cond.classLink RX11 313 "Underpaint$Solvent", Cond.fieldLink RX11 317 "Underpaint$Solvent" "testedDepth" "I"]
def wsL_law0_r59 : List Cond := [Cond.methodLink RL 267 yX18_tested, Cond.instanceMethod yX18_tested, Cond.selects RX18 yX18_tested yX18_tested, Cond.code yX18_tested cX18_tested 2 (some .int), Cond.methodLink RX18 270 yX18_isSolvent, Cond.instanceMethod yX18_isSolvent, Cond.selects RX18 yX18_isSolvent yX18_isSolvent, Cond.code yX18_isSolvent cX18_isSolvent 2 (some .boolean), Cond.methodLink RL 268 yX11_sign, Cond.instanceMethod yX11_sign, Cond.selects RX11 yX11_sign yX11_sign, Cond.code yX11_sign cX11_sign 2 (some .boolean), Cond.fieldLink RX11 320 "Underpaint" "isSigned" "Z", Cond.methodLink RL 272 yX18_sign, Cond.instanceMethod yX18_sign, Cond.selects RX18 yX18_sign yX18_sign, Cond.code yX18_sign cX18_sign 2 (some .boolean), Cond.fieldLink RX18 273 "UnderpaintModel" "isSigned" "Z", Cond.methodLink RL 273 yL_swab, Cond.static yL_swab, Cond.codeWith yL_swab cL_swab 7 (some .int) [(0, 14, 17, 21), (0, 14, 21, 13), (0, 14, 25, 23), (0, 14, 29, 15)], Cond.methodLink RL 112 yX11_swab, Cond.instanceMethod yX11_swab, Cond.selects RX11 yX11_swab yX11_swab]
def wsL_law0_r60 : List Cond := [Cond.code yX11_swab cX11_swab 8 (some .int), Cond.fieldLink RX11 323 "Underpaint$Solvent" "strength" "I", Cond.fieldLink RX11 326 "Underpaint$Act" "strength" "I", Cond.fieldLink RX11 327 "Underpaint$Solvent" "reach" "I", Cond.fieldLink RX11 330 "Underpaint$Act" "reach" "I", Cond.methodLink RX11 338 Lib.Math.max.name, Cond.methodLink RX11 331 yX11_isHidden, Cond.static yX11_isHidden, Cond.code yX11_isHidden cX11_isHidden 2 (some .boolean), Cond.methodLink RX11 334 yX11_isHarmless, Cond.instanceMethod yX11_isHarmless, Cond.selects RX11 yX11_isHarmless yX11_isHarmless, Cond.code yX11_isHarmless cX11_isHarmless 5 (some .boolean), Cond.fieldLink RX11 437 "Underpaint$Act" "left" "I", Cond.fieldLink RX11 440 "Underpaint$Act" "top" "I", Cond.fieldLink RX11 442 "Underpaint$Act" "amount" "I", Cond.methodLink RX11 445 yX8_soluble, Cond.methodLink RX11 448 yX8_hasGlazeDownTo, Cond.instanceMethod yX8_hasGlazeDownTo, Cond.selects RX8 yX8_hasGlazeDownTo yX8_hasGlazeDownTo, Cond.code yX8_hasGlazeDownTo cX8_hasGlazeDownTo 4 (some .boolean), Cond.methodLink RL 275 yX18_swab, Cond.instanceMethod yX18_swab, Cond.selects RX18 yX18_swab yX18_swab]
def wsL_law0_r61 : List Cond := [Cond.code yX18_swab cX18_swab 10 (some .int), Cond.methodLink RX18 280 Lib.Math.max.name, Cond.methodLink RL 276 yL_fill, Cond.static yL_fill, Cond.codeWith yL_fill cL_fill 6 (some .int) [(0, 12, 15, 21), (0, 12, 19, 13), (0, 12, 23, 23), (0, 12, 27, 15)], Cond.methodLink RL 115 yX11_fill, Cond.instanceMethod yX11_fill, Cond.selects RX11 yX11_fill yX11_fill, Cond.code yX11_fill cX11_fill 4 (some .int), Cond.fieldLink RX11 341 "Underpaint$Stuff" "kind" "C", Cond.methodLink RL 278 yX18_fill, Cond.instanceMethod yX18_fill, Cond.selects RX18 yX18_fill yX18_fill, Cond.code yX18_fill cX18_fill 4 (some .int), Cond.methodLink RL 279 yL_retouch, Cond.static yL_retouch, Cond.codeWith yL_retouch cL_retouch 7 (some .int) [(0, 14, 17, 21), (0, 14, 21, 13), (0, 14, 25, 23), (0, 14, 29, 15)], Cond.methodLink RL 118 yX11_retouch, Cond.instanceMethod yX11_retouch, Cond.selects RX11 yX11_retouch yX11_retouch, Cond.code yX11_retouch cX11_retouch 5 (some .int), Cond.methodLink RL 281 yX18_retouch, Cond.instanceMethod yX18_retouch, Cond.selects RX18 yX18_retouch yX18_retouch]
def wsL_law0_r62 : List Cond := [Cond.code yX18_retouch cX18_retouch 5 (some .int), Cond.methodLink RL 282 yL_isTold, Cond.static yL_isTold, Cond.codeWith yL_isTold cL_isTold 5 (some .int) [(0, 17, 20, 13), (0, 17, 24, 37)], Cond.methodLink RL 121 yX11_isTold, Cond.instanceMethod yX11_isTold, Cond.selects RX11 yX11_isTold yX11_isTold, Cond.code yX11_isTold cX11_isTold 4 (some .boolean), Cond.methodLink RX11 356 Lib.Math.abs.name, Cond.methodLink RX11 345 yX8_isTopmost, Cond.methodLink RX11 349 yX8_top, Cond.methodLink RX11 353 yX8_belowTop, Cond.instanceMethod yX8_belowTop, Cond.selects RX8 yX8_belowTop yX8_belowTop, Cond.code yX8_belowTop cX8_belowTop 1 (some (.object "Underpaint$Layer")), Cond.methodLink RL 284 yX18_isTold, Cond.instanceMethod yX18_isTold, Cond.selects RX18 yX18_isTold yX18_isTold, Cond.code yX18_isTold cX18_isTold 5 (some .boolean), Cond.methodLink RX18 287 yX18_retouched, Cond.instanceMethod yX18_retouched, Cond.selects RX18 yX18_retouched yX18_retouched, Cond.code yX18_retouched cX18_retouched 4 (some (.object "java/util/List")), Cond.methodLink RX18 283 yX15_top]
def wsL_law0_r63 : List Cond := [Cond.methodLink RL 285 yL_comesOff, Cond.static yL_comesOff, Cond.codeWith yL_comesOff cL_comesOff 5 (some .int) [(0, 10, 13, 13), (0, 10, 17, 37)], Cond.methodLink RL 124 yX11_comesOff, Cond.instanceMethod yX11_comesOff, Cond.selects RX11 yX11_comesOff yX11_comesOff, Cond.code yX11_comesOff cX11_comesOff 5 (some .int), Cond.methodLink RX11 359 yX8_losesTopAlone, Cond.instanceMethod yX8_losesTopAlone, Cond.selects RX8 yX8_losesTopAlone yX8_losesTopAlone, Cond.code yX8_losesTopAlone cX8_losesTopAlone 3 (some .boolean), Cond.methodLink RX8 128 yX8_belowTop, Cond.methodLink RX8 131 yX9_swellsBy, Cond.methodLink RL 287 yX18_comesOff, Cond.instanceMethod yX18_comesOff, Cond.selects RX18 yX18_comesOff yX18_comesOff, Cond.code yX18_comesOff cX18_comesOff 9 (some .int), Cond.methodLink RX18 294 yX17_goesBy, Cond.methodLink RX18 297 yX17_swellsBy, Cond.methodLink RL 288 yL_glue, Cond.static yL_glue, Cond.codeWith yL_glue cL_glue 5 (some .int) [(0, 10, 13, 13), (0, 10, 17, 15)], Cond.methodLink RL 127 yX11_glue, Cond.instanceMethod yX11_glue]
def wsL_law0_r64 : List Cond := [Cond.selects RX11 yX11_glue yX11_glue, Cond.code yX11_glue cX11_glue 3 (some .int), Cond.methodLink RL 290 yX18_glue, Cond.instanceMethod yX18_glue, Cond.selects RX18 yX18_glue yX18_glue, Cond.code yX18_glue cX18_glue 3 (some .int), Cond.methodLink RL 291 yL_threads, Cond.static yL_threads, Cond.codeWith yL_threads cL_threads 4 (some .int) [(0, 9, 12, 13)], Cond.methodLink RL 130 yX11_threads, Cond.instanceMethod yX11_threads, Cond.selects RX11 yX11_threads yX11_threads, Cond.code yX11_threads cX11_threads 2 (some .int), Cond.constant RX11 363 (65535), Cond.methodLink RX11 364 yJ6_bitCount_0f7a4, Cond.static yJ6_bitCount_0f7a4, Cond.code yJ6_bitCount_0f7a4 cJ6_bitCount_0f7a4 1 (some .int), Cond.constant RJ6 265 (1431655765), Cond.constant RJ6 266 (858993459), Cond.constant RJ6 267 (252645135), Cond.methodLink RL 293 yX18_threads, Cond.instanceMethod yX18_threads, Cond.selects RX18 yX18_threads yX18_threads, Cond.code yX18_threads cX18_threads 7 (some .int)]
def wsL_law0_r65 : List Cond := [Cond.constant RX18 300 (65535), Cond.methodLink RL 294 yL_ballot, Cond.static yL_ballot, Cond.codeWith yL_ballot cL_ballot 5 (some .int) [(0, 10, 13, 13), (0, 10, 17, 15)], Cond.methodLink RL 133 yX11_ballot, Cond.instanceMethod yX11_ballot, Cond.selects RX11 yX11_ballot yX11_ballot, Cond.code yX11_ballot cX11_ballot 5 (some .int), Cond.fieldLink RX11 371 "Underpaint$Votes" "members" "I", Cond.methodLink RX11 374 yX10_add, Cond.instanceMethod yX10_add, Cond.selects RX10 yX10_add yX10_add, Cond.code yX10_add cX10_add 4 (some .int), Cond.fieldLink RX10 15 "Underpaint$Votes" "members" "I", Cond.methodLink RL 297 yX18_ballot, Cond.instanceMethod yX18_ballot, Cond.selects RX18 yX18_ballot yX18_ballot, Cond.code yX18_ballot cX18_ballot 4 (some .int), Cond.classLink RX18 303 RJ4, Cond.instantiable RJ4 4, Cond.initialized RJ4, Cond.methodLink RX18 305 yJ4_init_da8c8, Cond.instanceMethod yJ4_init_da8c8, Cond.code yJ4_init_da8c8 cJ4_init_da8c8 1 none]
def wsL_law0_r66 : List Cond := [Cond.methodLink RJ4 1 yJ5_init_d00df, Cond.instanceMethod yJ5_init_d00df, Cond.initialized RJ5, Cond.code yJ5_init_d00df cJ5_init_d00df 2 none, Cond.methodLink RJ5 3 objectInit, Cond.fieldLink RJ5 18 "java/lang/String" "COMPACT_STRINGS" "Z", Cond.arrayClass .byte, Cond.fieldLink RJ5 15 "java/lang/AbstractStringBuilder" "value" "[B", Cond.fieldLink RJ5 22 "java/lang/AbstractStringBuilder" "coder" "B", Cond.methodLink RJ5 26 yJ2_newBytesFor_77867, Cond.static yJ2_newBytesFor_77867, Cond.code yJ2_newBytesFor_77867 cJ2_newBytesFor_77867 1 (some (.array .byte)), Cond.methodLink RJ2 11 yJ2_newBytesLength_0f7a4, Cond.static yJ2_newBytesLength_0f7a4, Cond.code yJ2_newBytesLength_0f7a4 cJ2_newBytesLength_0f7a4 1 (some .int), Cond.constant RJ2 20 (1073741823), Cond.methodLink RX18 308 yJ4_append_15ec4, Cond.instanceMethod yJ4_append_15ec4, Cond.selects RJ4 yJ4_append_15ec4 yJ4_append_15ec4, Cond.code yJ4_append_15ec4 cJ4_append_15ec4 2 (some (.object "java/lang/StringBuilder")), Cond.methodLink RJ4 29 yJ5_append_cf1ce, Cond.sameMethod "java/lang/AbstractStringBuilder" "java/lang/AbstractStringBuilder" "append" "(Ljava/lang/String;)Ljava/lang/AbstractStringBuilder;", Cond.superclass RJ4 RJ5, Cond.instanceMethod yJ5_append_cf1ce]
def wsL_law0_r67 : List Cond := [Cond.code yJ5_append_cf1ce cJ5_append_cf1ce 3 (some (.object "java/lang/AbstractStringBuilder")), Cond.fieldLink RJ5 79 "java/lang/AbstractStringBuilder" "count" "I", Cond.methodLink RJ5 204 ⟨"java/lang/AbstractStringBuilder", "appendNull", "()Ljava/lang/AbstractStringBuilder;"⟩, Cond.sameMethod "java/lang/AbstractStringBuilder" "java/lang/AbstractStringBuilder" "appendNull" "()Ljava/lang/AbstractStringBuilder;", Cond.selects RJ4 ⟨"java/lang/AbstractStringBuilder", "appendNull", "()Ljava/lang/AbstractStringBuilder;"⟩ yJ5_appendNull_278bc, Cond.instanceMethod yJ5_appendNull_278bc, Cond.code yJ5_appendNull_278bc cJ5_appendNull_278bc 3 (some (.object "java/lang/AbstractStringBuilder")), Cond.methodLink RJ5 100 ⟨"java/lang/AbstractStringBuilder", "ensureCapacityInternal", "(I)V"⟩, Cond.sameMethod "java/lang/AbstractStringBuilder" "java/lang/AbstractStringBuilder" "ensureCapacityInternal" "(I)V", Cond.selects RJ4 ⟨"java/lang/AbstractStringBuilder", "ensureCapacityInternal", "(I)V"⟩ yJ5_ensureCapacityInternal_d00df, Cond.instanceMethod yJ5_ensureCapacityInternal_d00df, Cond.code yJ5_ensureCapacityInternal_d00df cJ5_ensureCapacityInternal_d00df 3 none, Cond.methodLink RJ5 104 ⟨"java/lang/AbstractStringBuilder", "newCapacity", "(I)I"⟩, Cond.sameMethod "java/lang/AbstractStringBuilder" "java/lang/AbstractStringBuilder" "newCapacity" "(I)I", Cond.selects RJ4 ⟨"java/lang/AbstractStringBuilder", "newCapacity", "(I)I"⟩ yJ5_newCapacity_0f7a4, Cond.instanceMethod yJ5_newCapacity_0f7a4, Cond.code yJ5_newCapacity_0f7a4 cJ5_newCapacity_0f7a4 6 (some .int), Cond.constant RJ5 39 (2147483647), Cond.methodLink RJ5 114 yJ8_newLength_cabcc, Cond.methodLink RJ5 108 yJ7_copyOf_9075b, Cond.static yJ7_copyOf_9075b, Cond.code yJ7_copyOf_9075b cJ7_copyOf_9075b 3 (some (.array .byte)), Cond.methodLink RJ7 310 ⟨"[B", "clone", "()Ljava/lang/Object;"⟩, Cond.sameMethod "[B" "java/lang/Object" "clone" "()Ljava/lang/Object;"]
def wsL_law0_r68 : List Cond := [Cond.native ⟨"java/lang/Object", "clone", "()Ljava/lang/Object;"⟩, Cond.instanceMethod ⟨"java/lang/Object", "clone", "()Ljava/lang/Object;"⟩, Cond.selects "[B" ⟨"[B", "clone", "()Ljava/lang/Object;"⟩ ⟨"java/lang/Object", "clone", "()Ljava/lang/Object;"⟩, Cond.classLink RJ7 311 "[B", Cond.methodLink RJ5 83 ⟨"java/lang/AbstractStringBuilder", "isLatin1", "()Z"⟩, Cond.sameMethod "java/lang/AbstractStringBuilder" "java/lang/AbstractStringBuilder" "isLatin1" "()Z", Cond.selects RJ4 ⟨"java/lang/AbstractStringBuilder", "isLatin1", "()Z"⟩ yJ5_isLatin1_aae02, Cond.instanceMethod yJ5_isLatin1_aae02, Cond.code yJ5_isLatin1_aae02 cJ5_isLatin1_aae02 1 (some .boolean), Cond.methodLink RJ5 226 yJ2_putCharsAt_cd4e5, Cond.static yJ2_putCharsAt_cd4e5, Cond.code yJ2_putCharsAt_cd4e5 cJ2_putCharsAt_cd4e5 7 (some .int), Cond.methodLink RJ2 111 yJ2_putChar_b72d1, Cond.static yJ2_putChar_b72d1, Cond.code yJ2_putChar_b72d1 cJ2_putChar_b72d1 3 none, Cond.methodLink RJ5 32 yJ0_length_8abf5, Cond.methodLink RJ5 208 ⟨"java/lang/AbstractStringBuilder", "putStringAt", "(ILjava/lang/String;)V"⟩, Cond.sameMethod "java/lang/AbstractStringBuilder" "java/lang/AbstractStringBuilder" "putStringAt" "(ILjava/lang/String;)V", Cond.selects RJ4 ⟨"java/lang/AbstractStringBuilder", "putStringAt", "(ILjava/lang/String;)V"⟩ yJ5_putStringAt_47b60, Cond.instanceMethod yJ5_putStringAt_47b60, Cond.code yJ5_putStringAt_47b60 cJ5_putStringAt_47b60 3 none, Cond.methodLink RJ5 397 ⟨"java/lang/AbstractStringBuilder", "inflateIfNeededFor", "(Ljava/lang/String;)V"⟩, Cond.sameMethod "java/lang/AbstractStringBuilder" "java/lang/AbstractStringBuilder" "inflateIfNeededFor" "(Ljava/lang/String;)V", Cond.selects RJ4 ⟨"java/lang/AbstractStringBuilder", "inflateIfNeededFor", "(Ljava/lang/String;)V"⟩ yJ5_inflateIfNeededFor_a7421]
def wsL_law0_r69 : List Cond := [Cond.instanceMethod yJ5_inflateIfNeededFor_a7421, Cond.code yJ5_inflateIfNeededFor_a7421 cJ5_inflateIfNeededFor_a7421 2 none, Cond.methodLink RJ5 40 yJ0_coder_7d493, Cond.methodLink RJ5 195 ⟨"java/lang/AbstractStringBuilder", "inflate", "()V"⟩, Cond.sameMethod "java/lang/AbstractStringBuilder" "java/lang/AbstractStringBuilder" "inflate" "()V", Cond.selects RJ4 ⟨"java/lang/AbstractStringBuilder", "inflate", "()V"⟩ yJ5_inflate_da8c8, Cond.instanceMethod yJ5_inflate_da8c8, Cond.code yJ5_inflate_da8c8 cJ5_inflate_da8c8 2 none, Cond.methodLink RJ5 125 yJ1_inflate_0e8fd, Cond.static yJ1_inflate_0e8fd, Cond.code yJ1_inflate_0e8fd cJ1_inflate_0e8fd 5 none, Cond.methodLink RJ1 240 yJ2_inflate_0e8fd, Cond.static yJ2_inflate_0e8fd, Cond.code yJ2_inflate_0e8fd cJ2_inflate_0e8fd 6 none, Cond.methodLink RJ2 173 yJ2_checkBoundsOffCount_d044e, Cond.static yJ2_checkBoundsOffCount_d044e, Cond.code yJ2_checkBoundsOffCount_d044e cJ2_checkBoundsOffCount_d044e 3 none, Cond.methodLink RJ2 419 yJ0_checkBoundsOffCount_cabcc, Cond.static yJ0_checkBoundsOffCount_cabcc, Cond.code yJ0_checkBoundsOffCount_cabcc cJ0_checkBoundsOffCount_cabcc 3 (some .int), Cond.methodLink RJ0 1065 yJ3_checkFromIndexSize_8c36e, Cond.static yJ3_checkFromIndexSize_8c36e, Cond.code yJ3_checkFromIndexSize_8c36e cJ3_checkFromIndexSize_8c36e 4 (some .int), Cond.methodLink RJ5 399 yJ0_getBytes_840e7]
def wsL_law0_r70 : List Cond := [Cond.instanceMethod yJ0_getBytes_840e7, Cond.selects RJ0 yJ0_getBytes_840e7 yJ0_getBytes_840e7, Cond.code yJ0_getBytes_840e7 cJ0_getBytes_840e7 4 none, Cond.methodLink RJ0 212 arraycopyName, Cond.methodLink RJ0 106 yJ1_inflate_0e8fd, Cond.methodLink RX18 312 yJ4_append_cf468, Cond.instanceMethod yJ4_append_cf468, Cond.selects RJ4 yJ4_append_cf468 yJ4_append_cf468, Cond.code yJ4_append_cf468 cJ4_append_cf468 2 (some (.object "java/lang/StringBuilder")), Cond.methodLink RJ4 50 yJ5_append_3fe6f, Cond.sameMethod "java/lang/AbstractStringBuilder" "java/lang/AbstractStringBuilder" "append" "(C)Ljava/lang/AbstractStringBuilder;", Cond.instanceMethod yJ5_append_3fe6f, Cond.code yJ5_append_3fe6f cJ5_append_3fe6f 2 (some (.object "java/lang/AbstractStringBuilder")), Cond.methodLink RJ5 191 yJ1_canEncode_fc78d, Cond.static yJ1_canEncode_fc78d, Cond.code yJ1_canEncode_fc78d cJ1_canEncode_fc78d 1 (some .boolean), Cond.methodLink RJ5 197 yJ2_putCharSB_b72d1, Cond.static yJ2_putCharSB_b72d1, Cond.code yJ2_putCharSB_b72d1 cJ2_putCharSB_b72d1 3 none, Cond.methodLink RX18 315 yJ4_toString_0e30d, Cond.instanceMethod yJ4_toString_0e30d, Cond.selects RJ4 yJ4_toString_0e30d yJ4_toString_0e30d, Cond.code yJ4_toString_0e30d cJ4_toString_0e30d 1 (some (.object "java/lang/String")), Cond.classLink RJ4 18 RJ0]
def wsL_law0_r71 : List Cond := [Cond.instantiable RJ0 4, Cond.methodLink RJ4 137 yJ0_init_81219, Cond.instanceMethod yJ0_init_81219, Cond.code yJ0_init_81219 cJ0_init_81219 2 none, Cond.methodLink RJ0 489 yJ0_init_db425, Cond.instanceMethod yJ0_init_db425, Cond.code yJ0_init_db425 cJ0_init_db425 5 none, Cond.methodLink RJ0 1 objectInit, Cond.fieldLink RJ0 1048 "java/lang/AbstractStringBuilder" "maybeLatin1" "Z", Cond.methodLink RJ0 552 ⟨"java/lang/AbstractStringBuilder", "getValue", "()[B"⟩, Cond.sameMethod "java/lang/AbstractStringBuilder" "java/lang/AbstractStringBuilder" "getValue" "()[B", Cond.selects RJ4 ⟨"java/lang/AbstractStringBuilder", "getValue", "()[B"⟩ yJ5_getValue_6d5f1, Cond.instanceMethod yJ5_getValue_6d5f1, Cond.code yJ5_getValue_6d5f1 cJ5_getValue_6d5f1 1 (some (.array .byte)), Cond.methodLink RJ0 549 ⟨"java/lang/AbstractStringBuilder", "length", "()I"⟩, Cond.sameMethod "java/lang/AbstractStringBuilder" "java/lang/AbstractStringBuilder" "length" "()I", Cond.instanceMethod ⟨"java/lang/AbstractStringBuilder", "length", "()I"⟩, Cond.selects RJ4 ⟨"java/lang/AbstractStringBuilder", "length", "()I"⟩ yJ4_length_8abf5, Cond.instanceMethod yJ4_length_8abf5, Cond.code yJ4_length_8abf5 cJ4_length_8abf5 1 (some .int), Cond.methodLink RJ4 343 yJ5_length_8abf5, Cond.instanceMethod yJ5_length_8abf5, Cond.code yJ5_length_8abf5 cJ5_length_8abf5 1 (some .int), Cond.methodLink RJ0 1047 ⟨"java/lang/AbstractStringBuilder", "isLatin1", "()Z"⟩]
def wsL_law0_r72 : List Cond := [Cond.methodLink RJ0 54 yJ7_copyOfRange_39247, Cond.static yJ7_copyOfRange_39247, Cond.code yJ7_copyOfRange_39247 cJ7_copyOfRange_39247 3 (some (.array .byte)), Cond.methodLink RJ7 339 yJ7_copyOfRangeByte_39247, Cond.static yJ7_copyOfRangeByte_39247, Cond.code yJ7_copyOfRangeByte_39247 cJ7_copyOfRangeByte_39247 5 (some (.array .byte)), Cond.methodLink RJ7 343 yJ7_checkLength_df160, Cond.static yJ7_checkLength_df160, Cond.code yJ7_checkLength_df160 cJ7_checkLength_df160 2 none, Cond.classLink RJ7 45 RJ4, Cond.methodLink RJ0 1051 yJ2_compress_39247, Cond.static yJ2_compress_39247, Cond.code yJ2_compress_39247 cJ2_compress_39247 6 (some (.array .byte)), Cond.methodLink RJ2 123 yJ2_compress_5af95, Cond.static yJ2_compress_5af95, Cond.code yJ2_compress_5af95 cJ2_compress_5af95 7 (some .int), Cond.methodLink RJ2 126 yJ7_copyOfRange_39247, Cond.methodLink RJ0 47 yJ2_coderFromArrayLen_85cad, Cond.static yJ2_coderFromArrayLen_85cad, Cond.code yJ2_coderFromArrayLen_85cad cJ2_coderFromArrayLen_85cad 2 (some .byte), Cond.methodLink RL 298 yL_winner, Cond.static yL_winner, Cond.codeWith yL_winner cL_winner 3 (some .int) [(0, 8, 11, 37)], Cond.methodLink RL 137 yX11_winner]
def wsL_law0_r73 : List Cond := [Cond.instanceMethod yX11_winner, Cond.selects RX11 yX11_winner yX11_winner, Cond.code yX11_winner cX11_winner 2 (some .char), Cond.methodLink RX11 376 yX10_best, Cond.instanceMethod yX10_best, Cond.selects RX10 yX10_best yX10_best, Cond.code yX10_best cX10_best 4 (some .int), Cond.methodLink RX11 379 yJ0_charAt_5068e, Cond.methodLink RL 300 yX18_winner, Cond.instanceMethod yX18_winner, Cond.selects RX18 yX18_winner yX18_winner, Cond.code yX18_winner cX18_winner 8 (some .char), Cond.classLink RX18 83 "java/lang/String", Cond.methodLink RL 301 yL_leg, Cond.static yL_leg, Cond.codeWith yL_leg cL_leg 5 (some .int) [(0, 10, 13, 13), (0, 10, 17, 15)], Cond.methodLink RL 141 yX11_leg, Cond.instanceMethod yX11_leg, Cond.selects RX11 yX11_leg yX11_leg, Cond.code yX11_leg cX11_leg 3 (some .int), Cond.fieldLink RX11 383 "Underpaint$Loan" "size" "I", Cond.methodLink RX11 384 yX3_add, Cond.instanceMethod yX3_add, Cond.selects RX3 yX3_add yX3_add]
def wsL_law0_r74 : List Cond := [Cond.code yX3_add cX3_add 3 (some .int), Cond.fieldLink RX3 18 "Underpaint$Loan" "size" "I", Cond.methodLink RL 303 yX18_leg, Cond.instanceMethod yX18_leg, Cond.selects RX18 yX18_leg yX18_leg, Cond.code yX18_leg cX18_leg 3 (some .int), Cond.methodLink RL 304 yX11_risk, Cond.instanceMethod yX11_risk, Cond.selects RX11 yX11_risk yX11_risk, Cond.code yX11_risk cX11_risk 1 (some .int), Cond.methodLink RX11 385 yX5_copyFrom, Cond.instanceMethod yX5_copyFrom, Cond.selects RX5 yX5_copyFrom yX5_copyFrom, Cond.code yX5_copyFrom cX5_copyFrom 3 none, Cond.methodLink RX5 235 yX8_copyFrom, Cond.instanceMethod yX8_copyFrom, Cond.selects RX8 yX8_copyFrom yX8_copyFrom, Cond.code yX8_copyFrom cX8_copyFrom 3 none, Cond.methodLink RX8 134 yX2_copyFrom, Cond.instanceMethod yX2_copyFrom, Cond.selects RX2 yX2_copyFrom yX2_copyFrom, Cond.code yX2_copyFrom cX2_copyFrom 2 none, Cond.methodLink RX11 389 yX5_travel, Cond.methodLink RL 307 yX18_risk]
def wsL_law0_r75 : List Cond := [Cond.instanceMethod yX18_risk, Cond.selects RX18 yX18_risk yX18_risk, Cond.code yX18_risk cX18_risk 1 (some .int), Cond.methodLink RX18 319 yX18_loan, Cond.instanceMethod yX18_loan, Cond.selects RX18 yX18_loan yX18_loan, Cond.code yX18_loan cX18_loan 3 (some (.object "UnderpaintModel$Act")), Cond.methodLink RL 308 yL_lend, Cond.static yL_lend, Cond.codeWith yL_lend cL_lend 3 (some .int) [(0, 8, 11, 23), (0, 8, 14, 15)], Cond.methodLink RL 144 yX11_lend, Cond.instanceMethod yX11_lend, Cond.selects RX11 yX11_lend yX11_lend, Cond.code yX11_lend cX11_lend 3 (some .int), Cond.fieldLink RX11 393 "Underpaint$Act" "loan" "LUnderpaint$Loan;", Cond.methodLink RX11 394 yX3_copyFrom, Cond.instanceMethod yX3_copyFrom, Cond.selects RX3 yX3_copyFrom yX3_copyFrom, Cond.code yX3_copyFrom cX3_copyFrom 3 none, Cond.methodLink RL 310 yX18_lend, Cond.instanceMethod yX18_lend, Cond.selects RX18 yX18_lend yX18_lend, Cond.code yX18_lend cX18_lend 2 (some .int), Cond.methodLink RX18 323 ⟨"java/util/List", "clear", "()V"⟩]
def wsL_law0_r76 : List Cond := [Cond.selects RJx4a65c ⟨"java/util/List", "clear", "()V"⟩ yJx4a65c_clear_da8c8, Cond.instanceMethod yJx4a65c_clear_da8c8, Cond.code yJx4a65c_clear_da8c8 cJx4a65c_clear_da8c8 4 none, Cond.methodLink RL 311 yX11_acts, Cond.instanceMethod yX11_acts, Cond.selects RX11 yX11_acts yX11_acts, Cond.code yX11_acts cX11_acts 1 (some .int), Cond.methodLink RL 314 yX18_acts, Cond.instanceMethod yX18_acts, Cond.selects RX18 yX18_acts yX18_acts, Cond.code yX18_acts cX18_acts 1 (some .int), Cond.methodLink RL 315 yL_actAt, Cond.static yL_actAt, Cond.codeWith yL_actAt cL_actAt 4 (some .int) [(0, 9, 12, 21)], Cond.methodLink RL 147 yX11_actAt, Cond.instanceMethod yX11_actAt, Cond.selects RX11 yX11_actAt yX11_actAt, Cond.code yX11_actAt cX11_actAt 2 (some .char), Cond.classLink RX11 161 "Underpaint$Act", Cond.fieldLink RX11 397 "Underpaint$Act" "letter" "I", Cond.methodLink RL 317 yX18_actAt, Cond.instanceMethod yX18_actAt, Cond.selects RX18 yX18_actAt yX18_actAt, Cond.code yX18_actAt cX18_actAt 2 (some .char)]
def wsL_law0_r77 : List Cond := [Cond.classLink RX18 128 "UnderpaintModel$Act", Cond.methodLink RL 318 yL_takeBack, Cond.static yL_takeBack, Cond.codeWith yL_takeBack cL_takeBack 4 (some .int) [(0, 9, 12, 21), (0, 9, 15, 23)], Cond.methodLink RL 151 yX11_takeBack, Cond.instanceMethod yX11_takeBack, Cond.selects RX11 yX11_takeBack yX11_takeBack, Cond.code yX11_takeBack cX11_takeBack 3 (some .int), Cond.methodLink RX11 400 yX11_redoAllBut, Cond.instanceMethod yX11_redoAllBut, Cond.selects RX11 yX11_redoAllBut yX11_redoAllBut, Cond.code yX11_redoAllBut cX11_redoAllBut 3 (some .boolean), Cond.methodLink RX11 434 yX5_empty, Cond.instanceMethod yX5_empty, Cond.selects RX5 yX5_empty yX5_empty, Cond.code yX5_empty cX5_empty 2 none, Cond.methodLink RX11 403 yJx4a65c_remove_915e3, Cond.selects RJx4a65c yJx4a65c_remove_915e3 yJx4a65c_remove_915e3, Cond.methodLink RL 320 yX18_takeBack, Cond.instanceMethod yX18_takeBack, Cond.selects RX18 yX18_takeBack yX18_takeBack, Cond.code yX18_takeBack cX18_takeBack 5 (some .int), Cond.methodLink RL 321 yX11_checksum, Cond.instanceMethod yX11_checksum]
def wsL_law0_r78 : List Cond := [Cond.selects RX11 yX11_checksum yX11_checksum, Cond.code yX11_checksum cX11_checksum 1 (some .long), Cond.methodLink RX11 406 yX5_sumUp, Cond.instanceMethod yX5_sumUp, Cond.selects RX5 yX5_sumUp yX5_sumUp, Cond.code yX5_sumUp cX5_sumUp 6 (some .long), Cond.constantLong RX5 218 (7), Cond.fieldLink RX5 220 "Underpaint$Stack" "rows" "[LUnderpaint$Layer;", Cond.constantLong RX5 224 (31), Cond.fieldLink RX5 226 "Underpaint$Stuff" "number" "I", Cond.fieldLink RX5 229 "Underpaint$Layer" "thickness" "I", Cond.fieldLink RX5 232 "Underpaint$Layer" "yellow" "I", Cond.methodLink RL 325 yX18_checksum, Cond.instanceMethod yX18_checksum, Cond.selects RX18 yX18_checksum yX18_checksum, Cond.code yX18_checksum cX18_checksum 9 (some .long), Cond.constantLong RX18 329 (7), Cond.constantLong RX18 331 (31), Cond.methodLink RL 326 yX11_coveredShare, Cond.instanceMethod yX11_coveredShare, Cond.selects RX11 yX11_coveredShare yX11_coveredShare, Cond.code yX11_coveredShare cX11_coveredShare 1 (some .float), Cond.constantFloat RX11 413 (1111490560), Cond.methodLink RX11 410 yX5_covered]
def wsL_law0_r79 : List Cond := [Cond.instanceMethod yX5_covered, Cond.selects RX5 yX5_covered yX5_covered, Cond.code yX5_covered cX5_covered 3 (some .int), Cond.methodLink RL 330 yX18_coveredShare, Cond.instanceMethod yX18_coveredShare, Cond.selects RX18 yX18_coveredShare yX18_coveredShare, Cond.code yX18_coveredShare cX18_coveredShare 1 (some .float), Cond.constantFloat RX18 336 (1111490560), Cond.methodLink RX18 333 yX18_covered, Cond.instanceMethod yX18_covered, Cond.selects RX18 yX18_covered yX18_covered, Cond.code yX18_covered cX18_covered 6 (some .int), Cond.methodLink RL 331 yL_meanTone, Cond.static yL_meanTone, Cond.codeWith yL_meanTone cL_meanTone 3 (some .int) [(0, 7, 10, 158)], Cond.classLink RL 158 "java/lang/ArithmeticException", Cond.methodLink RL 154 yX11_meanTone, Cond.instanceMethod yX11_meanTone, Cond.selects RX11 yX11_meanTone yX11_meanTone, Cond.code yX11_meanTone cX11_meanTone 2 (some .double), Cond.methodLink RX11 414 yX11_demandCovered, Cond.static yX11_demandCovered, Cond.code yX11_demandCovered cX11_demandCovered 1 none, Cond.classLink RX11 482 "java/lang/ArithmeticException"]
def wsL_law0_r80 : List Cond := [Cond.initialized "java/lang/ArithmeticException", Cond.methodLink RX11 417 yX5_tonesSeen, Cond.instanceMethod yX5_tonesSeen, Cond.selects RX5 yX5_tonesSeen yX5_tonesSeen, Cond.code yX5_tonesSeen cX5_tonesSeen 3 (some .int), Cond.methodLink RL 334 yX18_meanTone, Cond.instanceMethod yX18_meanTone, Cond.selects RX18 yX18_meanTone yX18_meanTone, Cond.code yX18_meanTone cX18_meanTone 6 (some .double), Cond.methodLink RX18 337 yX15_plain, Cond.methodLink RL 335 yX11_isSound, Cond.instanceMethod yX11_isSound, Cond.selects RX11 yX11_isSound yX11_isSound, Cond.code yX11_isSound cX11_isSound 1 (some .boolean), Cond.methodLink RX11 420 yX5_isSameAs, Cond.instanceMethod yX5_isSameAs, Cond.selects RX5 yX5_isSameAs yX5_isSameAs, Cond.code yX5_isSameAs cX5_isSameAs 3 (some .boolean), Cond.methodLink RX5 239 yX8_isSameAs, Cond.instanceMethod yX8_isSameAs, Cond.selects RX8 yX8_isSameAs yX8_isSameAs, Cond.code yX8_isSameAs cX8_isSameAs 3 (some .boolean), Cond.methodLink RX8 138 yX2_isSameAs, Cond.instanceMethod yX2_isSameAs]
def wsL_law0_r81 : List Cond := [Cond.selects RX2 yX2_isSameAs yX2_isSameAs, Cond.code yX2_isSameAs cX2_isSameAs 2 (some .boolean), Cond.methodLink RX11 424 yX5_isBounded, Cond.instanceMethod yX5_isBounded, Cond.selects RX5 yX5_isBounded yX5_isBounded, Cond.code yX5_isBounded cX5_isBounded 2 (some .boolean), Cond.methodLink RL 338 yX18_isSound, Cond.instanceMethod yX18_isSound, Cond.selects RX18 yX18_isSound yX18_isSound, Cond.code yX18_isSound cX18_isSound 1 (some .boolean)]
def wsL_law0 : List Cond := (wsL_law0_r1 ++ (wsL_law0_r2 ++ (wsL_law0_r3 ++ (wsL_law0_r4 ++ (wsL_law0_r5 ++ (wsL_law0_r6 ++ (wsL_law0_r7 ++ (wsL_law0_r8 ++ (wsL_law0_r9 ++ (wsL_law0_r10 ++ (wsL_law0_r11 ++ (wsL_law0_r12 ++ (wsL_law0_r13 ++ (wsL_law0_r14 ++ (wsL_law0_r15 ++ (wsL_law0_r16 ++ (wsL_law0_r17 ++ (wsL_law0_r18 ++ (wsL_law0_r19 ++ (wsL_law0_r20 ++ (wsL_law0_r21 ++ (wsL_law0_r22 ++ (wsL_law0_r23 ++ (wsL_law0_r24 ++ (wsL_law0_r25 ++ (wsL_law0_r26 ++ (wsL_law0_r27 ++ (wsL_law0_r28 ++ (wsL_law0_r29 ++ (wsL_law0_r30 ++ (wsL_law0_r31 ++ (wsL_law0_r32 ++ (wsL_law0_r33 ++ (wsL_law0_r34 ++ (wsL_law0_r35 ++ (wsL_law0_r36 ++ (wsL_law0_r37 ++ (wsL_law0_r38 ++ (wsL_law0_r39 ++ (wsL_law0_r40 ++ (wsL_law0_r41 ++ (wsL_law0_r42 ++ (wsL_law0_r43 ++ (wsL_law0_r44 ++ (wsL_law0_r45 ++ (wsL_law0_r46 ++ (wsL_law0_r47 ++ (wsL_law0_r48 ++ (wsL_law0_r49 ++ (wsL_law0_r50 ++ (wsL_law0_r51 ++ (wsL_law0_r52 ++ (wsL_law0_r53 ++ (wsL_law0_r54 ++ (wsL_law0_r55 ++ (wsL_law0_r56 ++ (wsL_law0_r57 ++ (wsL_law0_r58 ++ (wsL_law0_r59 ++ (wsL_law0_r60 ++ (wsL_law0_r61 ++ (wsL_law0_r62 ++ (wsL_law0_r63 ++ (wsL_law0_r64 ++ (wsL_law0_r65 ++ (wsL_law0_r66 ++ (wsL_law0_r67 ++ (wsL_law0_r68 ++ (wsL_law0_r69 ++ (wsL_law0_r70 ++ (wsL_law0_r71 ++ (wsL_law0_r72 ++ (wsL_law0_r73 ++ (wsL_law0_r74 ++ (wsL_law0_r75 ++ (wsL_law0_r76 ++ (wsL_law0_r77 ++ (wsL_law0_r78 ++ (wsL_law0_r79 ++ (wsL_law0_r80 ++ wsL_law0_r81)))))))))))))))))))))))))))))))))))))))))))))))))))))))))))))))))))))))))))))))) ++ wsX110 ++ wsX180 ++ wsJx4a65c0 ++ wsX40 ++ wsX10 ++ wsX100 ++ wsX30 ++ wsX90 ++ wsX50 ++ wsX80 ++ wsX20 ++ wsX60 ++ wsX140 ++ wsX150 ++ wsJ00 ++ wsX170 ++ wsX00 ++ wsX120 ++ wsX130 ++ wsJx354110 ++ wsX160 ++ wsJ60 ++ wsX70 ++ wsJ40 ++ ([] : List Cond)
def wsL_law : List Cond := wsL_law0 ++ (vx_atM "java/lang/ArrayIndexOutOfBoundsException" ["java/lang/IndexOutOfBoundsException", "java/lang/RuntimeException", "java/lang/Exception"]).filter goodWord ++ (vx_atS RX11 455 "java/lang/IllegalArgumentException" ["java/lang/RuntimeException", "java/lang/Exception"]).filter goodWord ++ (vx_atS RX11 481 "java/lang/IllegalStateException" ["java/lang/RuntimeException", "java/lang/Exception"]).filter goodWord ++ (vx_atS RX11 466 "java/lang/IndexOutOfBoundsException" ["java/lang/RuntimeException", "java/lang/Exception"]).filter goodWord ++ (vx_atS RX11 476 "java/lang/UnsupportedOperationException" ["java/lang/RuntimeException", "java/lang/Exception"]).filter goodWord ++ (vx_atS RX11 471 "java/util/NoSuchElementException" ["java/lang/RuntimeException", "java/lang/Exception"]).filter goodWord ++ (vx_atM "java/lang/ArithmeticException" ["java/lang/RuntimeException", "java/lang/Exception"]).filter goodWord ++ (vx_atS RX11 486 "java/lang/ArithmeticException" ["java/lang/RuntimeException", "java/lang/Exception"]).filter goodWord
set_option maxRecDepth 20000 in
theorem inlX0 : ∀ w ∈ wsX00, w ∈ wsL_law := fun _ h => List.mem_append_left _ (List.mem_append_left _ (List.mem_append_left _ (List.mem_append_left _ (List.mem_append_left _ (List.mem_append_left _ (List.mem_append_left _ (List.mem_append_left _ (List.mem_append_left _ (List.mem_append_left _ (List.mem_append_left _ (List.mem_append_left _ (List.mem_append_left _ (List.mem_append_left _ (List.mem_append_left _ (List.mem_append_left _ (List.mem_append_right _ h))))))))))))))))
theorem inlX1 : ∀ w ∈ wsX10, w ∈ wsL_law := fun _ h => List.mem_append_left _ (List.mem_append_left _ (List.mem_append_left _ (List.mem_append_left _ (List.mem_append_left _ (List.mem_append_left _ (List.mem_append_left _ (List.mem_append_left _ (List.mem_append_left _ (List.mem_append_left _ (List.mem_append_left _ (List.mem_append_left _ (List.mem_append_left _ (List.mem_append_left _ (List.mem_append_left _ (List.mem_append_left _ (List.mem_append_left _ (List.mem_append_left _ (List.mem_append_left _ (List.mem_append_left _ (List.mem_append_left _ (List.mem_append_left _ (List.mem_append_left _ (List.mem_append_left _ (List.mem_append_left _ (List.mem_append_left _ (List.mem_append_left _ (List.mem_append_left _ (List.mem_append_right _ h))))))))))))))))))))))))))))
theorem inlX2 : ∀ w ∈ wsX20, w ∈ wsL_law := fun _ h => List.mem_append_left _ (List.mem_append_left _ (List.mem_append_left _ (List.mem_append_left _ (List.mem_append_left _ (List.mem_append_left _ (List.mem_append_left _ (List.mem_append_left _ (List.mem_append_left _ (List.mem_append_left _ (List.mem_append_left _ (List.mem_append_left _ (List.mem_append_left _ (List.mem_append_left _ (List.mem_append_left _ (List.mem_append_left _ (List.mem_append_left _ (List.mem_append_left _ (List.mem_append_left _ (List.mem_append_left _ (List.mem_append_left _ (List.mem_append_left _ (List.mem_append_right _ h))))))))))))))))))))))
theorem inlX3 : ∀ w ∈ wsX30, w ∈ wsL_law := fun _ h => List.mem_append_left _ (List.mem_append_left _ (List.mem_append_left _ (List.mem_append_left _ (List.mem_append_left _ (List.mem_append_left _ (List.mem_append_left _ (List.mem_append_left _ (List.mem_append_left _ (List.mem_append_left _ (List.mem_append_left _ (List.mem_append_left _ (List.mem_append_left _ (List.mem_append_left _ (List.mem_append_left _ (List.mem_append_left _ (List.mem_append_left _ (List.mem_append_left _ (List.mem_append_left _ (List.mem_append_left _ (List.mem_append_left _ (List.mem_append_left _ (List.mem_append_left _ (List.mem_append_left _ (List.mem_append_left _ (List.mem_append_left _ (List.mem_append_right _ h))))))))))))))))))))))))))
theorem inlX4 : ∀ w ∈ wsX40, w ∈ wsL_law := fun _ h => List.mem_append_left _ (List.mem_append_left _ (List.mem_append_left _ (List.mem_append_left _ (List.mem_append_left _ (List.mem_append_left _ (List.mem_append_left _ (List.mem_append_left _ (List.mem_append_left _ (List.mem_append_left _ (List.mem_append_left _ (List.mem_append_left _ (List.mem_append_left _ (List.mem_append_left _ (List.mem_append_left _ (List.mem_append_left _ (List.mem_append_left _ (List.mem_append_left _ (List.mem_append_left _ (List.mem_append_left _ (List.mem_append_left _ (List.mem_append_left _ (List.mem_append_left _ (List.mem_append_left _ (List.mem_append_left _ (List.mem_append_left _ (List.mem_append_left _ (List.mem_append_left _ (List.mem_append_left _ (List.mem_append_right _ h)))))))))))))))))))))))))))))
theorem inlX5 : ∀ w ∈ wsX50, w ∈ wsL_law := fun _ h => List.mem_append_left _ (List.mem_append_left _ (List.mem_append_left _ (List.mem_append_left _ (List.mem_append_left _ (List.mem_append_left _ (List.mem_append_left _ (List.mem_append_left _ (List.mem_append_left _ (List.mem_append_left _ (List.mem_append_left _ (List.mem_append_left _ (List.mem_append_left _ (List.mem_append_left _ (List.mem_append_left _ (List.mem_append_left _ (List.mem_append_left _ (List.mem_append_left _ (List.mem_append_left _ (List.mem_append_left _ (List.mem_append_left _ (List.mem_append_left _ (List.mem_append_left _ (List.mem_append_left _ (List.mem_append_right _ h))))))))))))))))))))))))
theorem inlX6 : ∀ w ∈ wsX60, w ∈ wsL_law := fun _ h => List.mem_append_left _ (List.mem_append_left _ (List.mem_append_left _ (List.mem_append_left _ (List.mem_append_left _ (List.mem_append_left _ (List.mem_append_left _ (List.mem_append_left _ (List.mem_append_left _ (List.mem_append_left _ (List.mem_append_left _ (List.mem_append_left _ (List.mem_append_left _ (List.mem_append_left _ (List.mem_append_left _ (List.mem_append_left _ (List.mem_append_left _ (List.mem_append_left _ (List.mem_append_left _ (List.mem_append_left _ (List.mem_append_left _ (List.mem_append_right _ h)))))))))))))))))))))
theorem inlX7 : ∀ w ∈ wsX70, w ∈ wsL_law := fun _ h => List.mem_append_left _ (List.mem_append_left _ (List.mem_append_left _ (List.mem_append_left _ (List.mem_append_left _ (List.mem_append_left _ (List.mem_append_left _ (List.mem_append_left _ (List.mem_append_left _ (List.mem_append_left _ (List.mem_append_right _ h))))))))))
theorem inlX8 : ∀ w ∈ wsX80, w ∈ wsL_law := fun _ h => List.mem_append_left _ (List.mem_append_left _ (List.mem_append_left _ (List.mem_append_left _ (List.mem_append_left _ (List.mem_append_left _ (List.mem_append_left _ (List.mem_append_left _ (List.mem_append_left _ (List.mem_append_left _ (List.mem_append_left _ (List.mem_append_left _ (List.mem_append_left _ (List.mem_append_left _ (List.mem_append_left _ (List.mem_append_left _ (List.mem_append_left _ (List.mem_append_left _ (List.mem_append_left _ (List.mem_append_left _ (List.mem_append_left _ (List.mem_append_left _ (List.mem_append_left _ (List.mem_append_right _ h)))))))))))))))))))))))
theorem inlX9 : ∀ w ∈ wsX90, w ∈ wsL_law := fun _ h => List.mem_append_left _ (List.mem_append_left _ (List.mem_append_left _ (List.mem_append_left _ (List.mem_append_left _ (List.mem_append_left _ (List.mem_append_left _ (List.mem_append_left _ (List.mem_append_left _ (List.mem_append_left _ (List.mem_append_left _ (List.mem_append_left _ (List.mem_append_left _ (List.mem_append_left _ (List.mem_append_left _ (List.mem_append_left _ (List.mem_append_left _ (List.mem_append_left _ (List.mem_append_left _ (List.mem_append_left _ (List.mem_append_left _ (List.mem_append_left _ (List.mem_append_left _ (List.mem_append_left _ (List.mem_append_left _ (List.mem_append_right _ h)))))))))))))))))))))))))
theorem inlX10 : ∀ w ∈ wsX100, w ∈ wsL_law := fun _ h => List.mem_append_left _ (List.mem_append_left _ (List.mem_append_left _ (List.mem_append_left _ (List.mem_append_left _ (List.mem_append_left _ (List.mem_append_left _ (List.mem_append_left _ (List.mem_append_left _ (List.mem_append_left _ (List.mem_append_left _ (List.mem_append_left _ (List.mem_append_left _ (List.mem_append_left _ (List.mem_append_left _ (List.mem_append_left _ (List.mem_append_left _ (List.mem_append_left _ (List.mem_append_left _ (List.mem_append_left _ (List.mem_append_left _ (List.mem_append_left _ (List.mem_append_left _ (List.mem_append_left _ (List.mem_append_left _ (List.mem_append_left _ (List.mem_append_left _ (List.mem_append_right _ h)))))))))))))))))))))))))))
theorem inlX11 : ∀ w ∈ wsX110, w ∈ wsL_law := fun _ h => List.mem_append_left _ (List.mem_append_left _ (List.mem_append_left _ (List.mem_append_left _ (List.mem_append_left _ (List.mem_append_left _ (List.mem_append_left _ (List.mem_append_left _ (List.mem_append_left _ (List.mem_append_left _ (List.mem_append_left _ (List.mem_append_left _ (List.mem_append_left _ (List.mem_append_left _ (List.mem_append_left _ (List.mem_append_left _ (List.mem_append_left _ (List.mem_append_left _ (List.mem_append_left _ (List.mem_append_left _ (List.mem_append_left _ (List.mem_append_left _ (List.mem_append_left _ (List.mem_append_left _ (List.mem_append_left _ (List.mem_append_left _ (List.mem_append_left _ (List.mem_append_left _ (List.mem_append_left _ (List.mem_append_left _ (List.mem_append_left _ (List.mem_append_left _ (List.mem_append_right _ h))))))))))))))))))))))))))))))))
theorem inlX12 : ∀ w ∈ wsX120, w ∈ wsL_law := fun _ h => List.mem_append_left _ (List.mem_append_left _ (List.mem_append_left _ (List.mem_append_left _ (List.mem_append_left _ (List.mem_append_left _ (List.mem_append_left _ (List.mem_append_left _ (List.mem_append_left _ (List.mem_append_left _ (List.mem_append_left _ (List.mem_append_left _ (List.mem_append_left _ (List.mem_append_left _ (List.mem_append_left _ (List.mem_append_right _ h)))))))))))))))
theorem inlX13 : ∀ w ∈ wsX130, w ∈ wsL_law := fun _ h => List.mem_append_left _ (List.mem_append_left _ (List.mem_append_left _ (List.mem_append_left _ (List.mem_append_left _ (List.mem_append_left _ (List.mem_append_left _ (List.mem_append_left _ (List.mem_append_left _ (List.mem_append_left _ (List.mem_append_left _ (List.mem_append_left _ (List.mem_append_left _ (List.mem_append_left _ (List.mem_append_right _ h))))))))))))))
theorem inlX14 : ∀ w ∈ wsX140, w ∈ wsL_law := fun _ h => List.mem_append_left _ (List.mem_append_left _ (List.mem_append_left _ (List.mem_append_left _ (List.mem_append_left _ (List.mem_append_left _ (List.mem_append_left _ (List.mem_append_left _ (List.mem_append_left _ (List.mem_append_left _ (List.mem_append_left _ (List.mem_append_left _ (List.mem_append_left _ (List.mem_append_left _ (List.mem_append_left _ (List.mem_append_left _ (List.mem_append_left _ (List.mem_append_left _ (List.mem_append_left _ (List.mem_append_left _ (List.mem_append_right _ h))))))))))))))))))))
theorem inlX15 : ∀ w ∈ wsX150, w ∈ wsL_law := fun _ h => List.mem_append_left _ (List.mem_append_left _ (List.mem_append_left _ (List.mem_append_left _ (List.mem_append_left _ (List.mem_append_left _ (List.mem_append_left _ (List.mem_append_left _ (List.mem_append_left _ (List.mem_append_left _ (List.mem_append_left _ (List.mem_append_left _ (List.mem_append_left _ (List.mem_append_left _ (List.mem_append_left _ (List.mem_append_left _ (List.mem_append_left _ (List.mem_append_left _ (List.mem_append_left _ (List.mem_append_right _ h)))))))))))))))))))
theorem inlX16 : ∀ w ∈ wsX160, w ∈ wsL_law := fun _ h => List.mem_append_left _ (List.mem_append_left _ (List.mem_append_left _ (List.mem_append_left _ (List.mem_append_left _ (List.mem_append_left _ (List.mem_append_left _ (List.mem_append_left _ (List.mem_append_left _ (List.mem_append_left _ (List.mem_append_left _ (List.mem_append_left _ (List.mem_append_right _ h))))))))))))
theorem inlX17 : ∀ w ∈ wsX170, w ∈ wsL_law := fun _ h => List.mem_append_left _ (List.mem_append_left _ (List.mem_append_left _ (List.mem_append_left _ (List.mem_append_left _ (List.mem_append_left _ (List.mem_append_left _ (List.mem_append_left _ (List.mem_append_left _ (List.mem_append_left _ (List.mem_append_left _ (List.mem_append_left _ (List.mem_append_left _ (List.mem_append_left _ (List.mem_append_left _ (List.mem_append_left _ (List.mem_append_left _ (List.mem_append_right _ h)))))))))))))))))
theorem inlX18 : ∀ w ∈ wsX180, w ∈ wsL_law := fun _ h => List.mem_append_left _ (List.mem_append_left _ (List.mem_append_left _ (List.mem_append_left _ (List.mem_append_left _ (List.mem_append_left _ (List.mem_append_left _ (List.mem_append_left _ (List.mem_append_left _ (List.mem_append_left _ (List.mem_append_left _ (List.mem_append_left _ (List.mem_append_left _ (List.mem_append_left _ (List.mem_append_left _ (List.mem_append_left _ (List.mem_append_left _ (List.mem_append_left _ (List.mem_append_left _ (List.mem_append_left _ (List.mem_append_left _ (List.mem_append_left _ (List.mem_append_left _ (List.mem_append_left _ (List.mem_append_left _ (List.mem_append_left _ (List.mem_append_left _ (List.mem_append_left _ (List.mem_append_left _ (List.mem_append_left _ (List.mem_append_left _ (List.mem_append_right _ h)))))))))))))))))))))))))))))))
theorem inJx145de : ∀ w ∈ wsJx145de0, w ∈ lw_tbl := by decide +kernel
theorem inJ5 : ∀ w ∈ wsJ50, w ∈ lw_tbl := by decide +kernel
theorem inJx2cfe8 : ∀ w ∈ wsJx2cfe80, w ∈ lw_tbl := by decide +kernel
theorem inJx00060 : ∀ w ∈ wsJx000600, w ∈ lw_tbl := by decide +kernel
theorem inJx9f9b0 : ∀ w ∈ wsJx9f9b00, w ∈ lw_tbl := by decide +kernel
theorem inJ11 : ∀ w ∈ wsJ110, w ∈ lw_tbl := by decide +kernel
theorem inJx8e188 : ∀ w ∈ wsJx8e1880, w ∈ lw_tbl := by decide +kernel
theorem inJxb160c : ∀ w ∈ wsJxb160c0, w ∈ lw_tbl := by decide +kernel
theorem inJxabbfe : ∀ w ∈ wsJxabbfe0, w ∈ lw_tbl := by decide +kernel
theorem inlJ6 : ∀ w ∈ wsJ60, w ∈ wsL_law := fun _ h => List.mem_append_left _ (List.mem_append_left _ (List.mem_append_left _ (List.mem_append_left _ (List.mem_append_left _ (List.mem_append_left _ (List.mem_append_left _ (List.mem_append_left _ (List.mem_append_left _ (List.mem_append_left _ (List.mem_append_left _ (List.mem_append_right _ h)))))))))))
theorem inJxab1ab : ∀ w ∈ wsJxab1ab0, w ∈ lw_tbl := by decide +kernel
theorem inJ9 : ∀ w ∈ wsJ90, w ∈ lw_tbl := by decide +kernel
theorem inJxd2413 : ∀ w ∈ wsJxd24130, w ∈ lw_tbl := by decide +kernel
theorem inlJ0 : ∀ w ∈ wsJ00, w ∈ wsL_law := fun _ h => List.mem_append_left _ (List.mem_append_left _ (List.mem_append_left _ (List.mem_append_left _ (List.mem_append_left _ (List.mem_append_left _ (List.mem_append_left _ (List.mem_append_left _ (List.mem_append_left _ (List.mem_append_left _ (List.mem_append_left _ (List.mem_append_left _ (List.mem_append_left _ (List.mem_append_left _ (List.mem_append_left _ (List.mem_append_left _ (List.mem_append_left _ (List.mem_append_left _ (List.mem_append_right _ h))))))))))))))))))
theorem inlJ4 : ∀ w ∈ wsJ40, w ∈ wsL_law := fun _ h => List.mem_append_left _ (List.mem_append_left _ (List.mem_append_left _ (List.mem_append_left _ (List.mem_append_left _ (List.mem_append_left _ (List.mem_append_left _ (List.mem_append_left _ (List.mem_append_left _ (List.mem_append_right _ h)))))))))
theorem inJ1 : ∀ w ∈ wsJ10, w ∈ lw_tbl := by decide +kernel
theorem inJ2 : ∀ w ∈ wsJ20, w ∈ lw_tbl := by decide +kernel
theorem inJ10 : ∀ w ∈ wsJ100, w ∈ lw_tbl := by decide +kernel
theorem inJxfd54e : ∀ w ∈ wsJxfd54e0, w ∈ lw_tbl := by decide +kernel
theorem inJx3cf43 : ∀ w ∈ wsJx3cf430, w ∈ lw_tbl := by decide +kernel
theorem inJxa1e45 : ∀ w ∈ wsJxa1e450, w ∈ lw_tbl := by decide +kernel
theorem inJxc12de : ∀ w ∈ wsJxc12de0, w ∈ lw_tbl := by decide +kernel
theorem inlJx35411 : ∀ w ∈ wsJx354110, w ∈ wsL_law := fun _ h => List.mem_append_left _ (List.mem_append_left _ (List.mem_append_left _ (List.mem_append_left _ (List.mem_append_left _ (List.mem_append_left _ (List.mem_append_left _ (List.mem_append_left _ (List.mem_append_left _ (List.mem_append_left _ (List.mem_append_left _ (List.mem_append_left _ (List.mem_append_left _ (List.mem_append_right _ h)))))))))))))
theorem inlJx4a65c : ∀ w ∈ wsJx4a65c0, w ∈ wsL_law := fun _ h => List.mem_append_left _ (List.mem_append_left _ (List.mem_append_left _ (List.mem_append_left _ (List.mem_append_left _ (List.mem_append_left _ (List.mem_append_left _ (List.mem_append_left _ (List.mem_append_left _ (List.mem_append_left _ (List.mem_append_left _ (List.mem_append_left _ (List.mem_append_left _ (List.mem_append_left _ (List.mem_append_left _ (List.mem_append_left _ (List.mem_append_left _ (List.mem_append_left _ (List.mem_append_left _ (List.mem_append_left _ (List.mem_append_left _ (List.mem_append_left _ (List.mem_append_left _ (List.mem_append_left _ (List.mem_append_left _ (List.mem_append_left _ (List.mem_append_left _ (List.mem_append_left _ (List.mem_append_left _ (List.mem_append_left _ (List.mem_append_right _ h))))))))))))))))))))))))))))))
theorem inJ7 : ∀ w ∈ wsJ70, w ∈ lw_tbl := by decide +kernel
theorem inJx5ef63 : ∀ w ∈ wsJx5ef630, w ∈ lw_tbl := by decide +kernel
theorem inJx4d0d8 : ∀ w ∈ wsJx4d0d80, w ∈ lw_tbl := by decide +kernel
theorem inJxbd725 : ∀ w ∈ wsJxbd7250, w ∈ lw_tbl := by decide +kernel
theorem inJ15 : ∀ w ∈ wsJ150, w ∈ lw_tbl := by decide +kernel
theorem inJxf0a74 : ∀ w ∈ wsJxf0a740, w ∈ lw_tbl := by decide +kernel
theorem inJxa66e6 : ∀ w ∈ wsJxa66e60, w ∈ lw_tbl := by decide +kernel
theorem inJ8 : ∀ w ∈ wsJ80, w ∈ lw_tbl := by decide +kernel
theorem inJ3 : ∀ w ∈ wsJ30, w ∈ lw_tbl := by decide +kernel
set_option maxRecDepth 20000 in
theorem ggX0_init_X3_init : GoodIn wsX0_init wsX3_init := goodIn_r _ [14, 15, 2, 3, 16, 17, 18, 19, 20, 21] (by decide +kernel) (by decide +kernel)
set_option maxRecDepth 20000 in
theorem gX0_init_X3_init_n9 : GoodIn wsX0_init (wsX3_init) := ggX0_init_X3_init
theorem dX0_init_0 : decode cX0_init 0 = .ok (.aload_n 0, 1) := by decide +kernel
theorem dX0_init_1 : decode cX0_init 1 = .ok (.invokespecial 1, 3) := by decide +kernel
theorem dX0_init_4 : decode cX0_init 4 = .ok (.aload_n 0, 1) := by decide +kernel
theorem dX0_init_5 : decode cX0_init 5 = .ok (.new 7, 3) := by decide +kernel
theorem dX0_init_8 : decode cX0_init 8 = .ok (.dup, 1) := by decide +kernel
theorem dX0_init_9 : decode cX0_init 9 = .ok (.invokespecial 9, 3) := by decide +kernel
theorem dX0_init_12 : decode cX0_init 12 = .ok (.putfield 10, 3) := by decide +kernel
theorem dX0_init_15 : decode cX0_init 15 = .ok (.aload_n 0, 1) := by decide +kernel
theorem dX0_init_16 : decode cX0_init 16 = .ok (.iload_n 1, 1) := by decide +kernel
theorem dX0_init_17 : decode cX0_init 17 = .ok (.putfield 16, 3) := by decide +kernel
theorem dX0_init_20 : decode cX0_init 20 = .ok (.aload_n 0, 1) := by decide +kernel
theorem dX0_init_21 : decode cX0_init 21 = .ok (.aload_n 2, 1) := by decide +kernel
theorem dX0_init_22 : decode cX0_init 22 = .ok (.putfield 20, 3) := by decide +kernel
theorem dX0_init_25 : decode cX0_init 25 = .ok (.aload_n 0, 1) := by decide +kernel
theorem dX0_init_26 : decode cX0_init 26 = .ok (.iload_n 3, 1) := by decide +kernel
theorem dX0_init_27 : decode cX0_init 27 = .ok (.putfield 24, 3) := by decide +kernel
theorem dX0_init_30 : decode cX0_init 30 = .ok (.aload_n 0, 1) := by decide +kernel
theorem dX0_init_31 : decode cX0_init 31 = .ok (.iload 4, 2) := by decide +kernel
theorem dX0_init_33 : decode cX0_init 33 = .ok (.putfield 27, 3) := by decide +kernel
theorem dX0_init_36 : decode cX0_init 36 = .ok (.aload_n 0, 1) := by decide +kernel
theorem dX0_init_37 : decode cX0_init 37 = .ok (.iload 5, 2) := by decide +kernel
theorem dX0_init_39 : decode cX0_init 39 = .ok (.putfield 30, 3) := by decide +kernel
theorem dX0_init_42 : decode cX0_init 42 = .ok (.return_, 1) := by decide +kernel
set_option maxRecDepth 20000 in
theorem ggX1_init_X6_init : GoodIn wsX1_init wsX6_init := goodIn_r _ [14, 15, 2, 3, 9, 16, 17, 18] (by decide +kernel) (by decide +kernel)
set_option maxRecDepth 20000 in
theorem gX1_init_X6_init : GoodIn wsX1_init (wsX6_init) := ggX1_init_X6_init
theorem dX1_init_0 : decode cX1_init 0 = .ok (.aload_n 0, 1) := by decide +kernel
theorem dX1_init_1 : decode cX1_init 1 = .ok (.invokespecial 3, 3) := by decide +kernel
theorem dX1_init_4 : decode cX1_init 4 = .ok (.aload_n 0, 1) := by decide +kernel
theorem dX1_init_5 : decode cX1_init 5 = .ok (.new 9, 3) := by decide +kernel
theorem dX1_init_8 : decode cX1_init 8 = .ok (.dup, 1) := by decide +kernel
theorem dX1_init_9 : decode cX1_init 9 = .ok (.bipush 20, 2) := by decide +kernel
theorem dX1_init_11 : decode cX1_init 11 = .ok (.invokespecial 11, 3) := by decide +kernel
theorem dX1_init_14 : decode cX1_init 14 = .ok (.putfield 14, 3) := by decide +kernel
theorem dX1_init_17 : decode cX1_init 17 = .ok (.aload_n 0, 1) := by decide +kernel
theorem dX1_init_18 : decode cX1_init 18 = .ok (.new 9, 3) := by decide +kernel
theorem dX1_init_21 : decode cX1_init 21 = .ok (.dup, 1) := by decide +kernel
theorem dX1_init_22 : decode cX1_init 22 = .ok (.bipush 60, 2) := by decide +kernel
theorem dX1_init_24 : decode cX1_init 24 = .ok (.invokespecial 11, 3) := by decide +kernel
theorem dX1_init_27 : decode cX1_init 27 = .ok (.putfield 20, 3) := by decide +kernel
theorem dX1_init_30 : decode cX1_init 30 = .ok (.aload_n 0, 1) := by decide +kernel
theorem dX1_init_31 : decode cX1_init 31 = .ok (.bipush 24, 2) := by decide +kernel
theorem dX1_init_33 : decode cX1_init 33 = .ok (.newarray .int, 2) := by decide +kernel
theorem dX1_init_35 : decode cX1_init 35 = .ok (.putfield 23, 3) := by decide +kernel
theorem dX1_init_38 : decode cX1_init 38 = .ok (.aload_n 0, 1) := by decide +kernel
theorem dX1_init_39 : decode cX1_init 39 = .ok (.bipush 6, 2) := by decide +kernel
theorem dX1_init_41 : decode cX1_init 41 = .ok (.newarray .int, 2) := by decide +kernel
theorem dX1_init_43 : decode cX1_init 43 = .ok (.putfield 27, 3) := by decide +kernel
theorem dX1_init_46 : decode cX1_init 46 = .ok (.return_, 1) := by decide +kernel
theorem dX1_bestPlace_0 : decode cX1_bestPlace 0 = .ok (.iconst 0, 1) := by decide +kernel
theorem dX1_bestPlace_1 : decode cX1_bestPlace 1 = .ok (.istore_n 1, 1) := by decide +kernel
theorem dX1_bestPlace_2 : decode cX1_bestPlace 2 = .ok (.ldc 30, 2) := by decide +kernel
theorem dX1_bestPlace_4 : decode cX1_bestPlace 4 = .ok (.istore_n 2, 1) := by decide +kernel
theorem dX1_bestPlace_5 : decode cX1_bestPlace 5 = .ok (.iconst 0, 1) := by decide +kernel
theorem dX1_bestPlace_6 : decode cX1_bestPlace 6 = .ok (.istore_n 3, 1) := by decide +kernel
theorem dX1_bestPlace_7 : decode cX1_bestPlace 7 = .ok (.iload_n 3, 1) := by decide +kernel
theorem dX1_bestPlace_8 : decode cX1_bestPlace 8 = .ok (.aload_n 0, 1) := by decide +kernel
theorem dX1_bestPlace_9 : decode cX1_bestPlace 9 = .ok (.getfield 14, 3) := by decide +kernel
theorem dX1_bestPlace_12 : decode cX1_bestPlace 12 = .ok (.getfield 31, 3) := by decide +kernel
theorem dX1_bestPlace_15 : decode cX1_bestPlace 15 = .ok (.iadd, 1) := by decide +kernel
theorem dX1_bestPlace_16 : decode cX1_bestPlace 16 = .ok (.aload_n 0, 1) := by decide +kernel
theorem dX1_bestPlace_17 : decode cX1_bestPlace 17 = .ok (.getfield 20, 3) := by decide +kernel
theorem dX1_bestPlace_20 : decode cX1_bestPlace 20 = .ok (.getfield 31, 3) := by decide +kernel
theorem dX1_bestPlace_23 : decode cX1_bestPlace 23 = .ok (.if_icmp .gt 75, 3) := by decide +kernel
theorem dX1_bestPlace_26 : decode cX1_bestPlace 26 = .ok (.iconst 0, 1) := by decide +kernel
theorem dX1_bestPlace_27 : decode cX1_bestPlace 27 = .ok (.istore 4, 2) := by decide +kernel
theorem dX1_bestPlace_29 : decode cX1_bestPlace 29 = .ok (.iconst 0, 1) := by decide +kernel
theorem dX1_bestPlace_30 : decode cX1_bestPlace 30 = .ok (.istore 5, 2) := by decide +kernel
theorem dX1_bestPlace_32 : decode cX1_bestPlace 32 = .ok (.iload 5, 2) := by decide +kernel
theorem dX1_bestPlace_34 : decode cX1_bestPlace 34 = .ok (.aload_n 0, 1) := by decide +kernel
theorem dX1_bestPlace_35 : decode cX1_bestPlace 35 = .ok (.getfield 14, 3) := by decide +kernel
theorem dX1_bestPlace_38 : decode cX1_bestPlace 38 = .ok (.getfield 31, 3) := by decide +kernel
theorem dX1_bestPlace_41 : decode cX1_bestPlace 41 = .ok (.if_icmp .ge 40, 3) := by decide +kernel
theorem dX1_bestPlace_44 : decode cX1_bestPlace 44 = .ok (.iload 4, 2) := by decide +kernel
theorem dX1_bestPlace_46 : decode cX1_bestPlace 46 = .ok (.aload_n 0, 1) := by decide +kernel
theorem dX1_bestPlace_47 : decode cX1_bestPlace 47 = .ok (.getfield 14, 3) := by decide +kernel
theorem dX1_bestPlace_50 : decode cX1_bestPlace 50 = .ok (.getfield 35, 3) := by decide +kernel
theorem dX1_bestPlace_53 : decode cX1_bestPlace 53 = .ok (.iload 5, 2) := by decide +kernel
theorem dX1_bestPlace_55 : decode cX1_bestPlace 55 = .ok (.iaload, 1) := by decide +kernel
theorem dX1_bestPlace_56 : decode cX1_bestPlace 56 = .ok (.aload_n 0, 1) := by decide +kernel
theorem dX1_bestPlace_57 : decode cX1_bestPlace 57 = .ok (.getfield 20, 3) := by decide +kernel
theorem dX1_bestPlace_60 : decode cX1_bestPlace 60 = .ok (.getfield 35, 3) := by decide +kernel
theorem dX1_bestPlace_63 : decode cX1_bestPlace 63 = .ok (.iload_n 3, 1) := by decide +kernel
theorem dX1_bestPlace_64 : decode cX1_bestPlace 64 = .ok (.iload 5, 2) := by decide +kernel
theorem dX1_bestPlace_66 : decode cX1_bestPlace 66 = .ok (.iadd, 1) := by decide +kernel
theorem dX1_bestPlace_67 : decode cX1_bestPlace 67 = .ok (.iaload, 1) := by decide +kernel
theorem dX1_bestPlace_68 : decode cX1_bestPlace 68 = .ok (.isub, 1) := by decide +kernel
theorem dX1_bestPlace_69 : decode cX1_bestPlace 69 = .ok (.invokestatic 38, 3) := by decide +kernel
theorem dX1_bestPlace_72 : decode cX1_bestPlace 72 = .ok (.iadd, 1) := by decide +kernel
theorem dX1_bestPlace_73 : decode cX1_bestPlace 73 = .ok (.istore 4, 2) := by decide +kernel
theorem dX1_bestPlace_75 : decode cX1_bestPlace 75 = .ok (.iinc 5 1, 3) := by decide +kernel
theorem dX1_bestPlace_78 : decode cX1_bestPlace 78 = .ok (.goto (-46), 3) := by decide +kernel
theorem dX1_bestPlace_81 : decode cX1_bestPlace 81 = .ok (.iload 4, 2) := by decide +kernel
theorem dX1_bestPlace_83 : decode cX1_bestPlace 83 = .ok (.iload_n 2, 1) := by decide +kernel
theorem dX1_bestPlace_84 : decode cX1_bestPlace 84 = .ok (.if_icmp .ge 8, 3) := by decide +kernel
theorem dX1_bestPlace_87 : decode cX1_bestPlace 87 = .ok (.iload_n 3, 1) := by decide +kernel
theorem dX1_bestPlace_88 : decode cX1_bestPlace 88 = .ok (.istore_n 1, 1) := by decide +kernel
theorem dX1_bestPlace_89 : decode cX1_bestPlace 89 = .ok (.iload 4, 2) := by decide +kernel
theorem dX1_bestPlace_91 : decode cX1_bestPlace 91 = .ok (.istore_n 2, 1) := by decide +kernel
theorem dX1_bestPlace_92 : decode cX1_bestPlace 92 = .ok (.iinc 3 1, 3) := by decide +kernel
theorem dX1_bestPlace_95 : decode cX1_bestPlace 95 = .ok (.goto (-88), 3) := by decide +kernel
theorem dX1_bestPlace_98 : decode cX1_bestPlace 98 = .ok (.iload_n 1, 1) := by decide +kernel
theorem dX1_bestPlace_99 : decode cX1_bestPlace 99 = .ok (.ireturn, 1) := by decide +kernel
theorem dX1_addPainter_0 : decode cX1_addPainter 0 = .ok (.aload_n 0, 1) := by decide +kernel
theorem dX1_addPainter_1 : decode cX1_addPainter 1 = .ok (.getfield 44, 3) := by decide +kernel
theorem dX1_addPainter_4 : decode cX1_addPainter 4 = .ok (.istore 5, 2) := by decide +kernel
theorem dX1_addPainter_6 : decode cX1_addPainter 6 = .ok (.iload 5, 2) := by decide +kernel
theorem dX1_addPainter_8 : decode cX1_addPainter 8 = .ok (.bipush 6, 2) := by decide +kernel
theorem dX1_addPainter_10 : decode cX1_addPainter 10 = .ok (.if_icmp .ge 60, 3) := by decide +kernel
theorem dX1_addPainter_13 : decode cX1_addPainter 13 = .ok (.aload_n 0, 1) := by decide +kernel
theorem dX1_addPainter_14 : decode cX1_addPainter 14 = .ok (.getfield 23, 3) := by decide +kernel
theorem dX1_addPainter_17 : decode cX1_addPainter 17 = .ok (.iload 5, 2) := by decide +kernel
theorem dX1_addPainter_19 : decode cX1_addPainter 19 = .ok (.iconst 4, 1) := by decide +kernel
theorem dX1_addPainter_20 : decode cX1_addPainter 20 = .ok (.imul, 1) := by decide +kernel
theorem dX1_addPainter_21 : decode cX1_addPainter 21 = .ok (.iload_n 1, 1) := by decide +kernel
theorem dX1_addPainter_22 : decode cX1_addPainter 22 = .ok (.iastore, 1) := by decide +kernel
theorem dX1_addPainter_23 : decode cX1_addPainter 23 = .ok (.aload_n 0, 1) := by decide +kernel
theorem dX1_addPainter_24 : decode cX1_addPainter 24 = .ok (.getfield 23, 3) := by decide +kernel
theorem dX1_addPainter_27 : decode cX1_addPainter 27 = .ok (.iload 5, 2) := by decide +kernel
theorem dX1_addPainter_29 : decode cX1_addPainter 29 = .ok (.iconst 4, 1) := by decide +kernel
theorem dX1_addPainter_30 : decode cX1_addPainter 30 = .ok (.imul, 1) := by decide +kernel
theorem dX1_addPainter_31 : decode cX1_addPainter 31 = .ok (.iconst 1, 1) := by decide +kernel
theorem dX1_addPainter_32 : decode cX1_addPainter 32 = .ok (.iadd, 1) := by decide +kernel
theorem dX1_addPainter_33 : decode cX1_addPainter 33 = .ok (.iload_n 2, 1) := by decide +kernel
theorem dX1_addPainter_34 : decode cX1_addPainter 34 = .ok (.iastore, 1) := by decide +kernel
theorem dX1_addPainter_35 : decode cX1_addPainter 35 = .ok (.aload_n 0, 1) := by decide +kernel
theorem dX1_addPainter_36 : decode cX1_addPainter 36 = .ok (.getfield 23, 3) := by decide +kernel
theorem dX1_addPainter_39 : decode cX1_addPainter 39 = .ok (.iload 5, 2) := by decide +kernel
theorem dX1_addPainter_41 : decode cX1_addPainter 41 = .ok (.iconst 4, 1) := by decide +kernel
theorem dX1_addPainter_42 : decode cX1_addPainter 42 = .ok (.imul, 1) := by decide +kernel
theorem dX1_addPainter_43 : decode cX1_addPainter 43 = .ok (.iconst 2, 1) := by decide +kernel
theorem dX1_addPainter_44 : decode cX1_addPainter 44 = .ok (.iadd, 1) := by decide +kernel
theorem dX1_addPainter_45 : decode cX1_addPainter 45 = .ok (.iload_n 3, 1) := by decide +kernel
theorem dX1_addPainter_46 : decode cX1_addPainter 46 = .ok (.iastore, 1) := by decide +kernel
theorem dX1_addPainter_47 : decode cX1_addPainter 47 = .ok (.aload_n 0, 1) := by decide +kernel
theorem dX1_addPainter_48 : decode cX1_addPainter 48 = .ok (.getfield 23, 3) := by decide +kernel
theorem dX1_addPainter_51 : decode cX1_addPainter 51 = .ok (.iload 5, 2) := by decide +kernel
theorem dX1_addPainter_53 : decode cX1_addPainter 53 = .ok (.iconst 4, 1) := by decide +kernel
theorem dX1_addPainter_54 : decode cX1_addPainter 54 = .ok (.imul, 1) := by decide +kernel
theorem dX1_addPainter_55 : decode cX1_addPainter 55 = .ok (.iconst 3, 1) := by decide +kernel
theorem dX1_addPainter_56 : decode cX1_addPainter 56 = .ok (.iadd, 1) := by decide +kernel
theorem dX1_addPainter_57 : decode cX1_addPainter 57 = .ok (.iload 4, 2) := by decide +kernel
theorem dX1_addPainter_59 : decode cX1_addPainter 59 = .ok (.iastore, 1) := by decide +kernel
theorem dX1_addPainter_60 : decode cX1_addPainter 60 = .ok (.aload_n 0, 1) := by decide +kernel
theorem dX1_addPainter_61 : decode cX1_addPainter 61 = .ok (.dup, 1) := by decide +kernel
theorem dX1_addPainter_62 : decode cX1_addPainter 62 = .ok (.getfield 44, 3) := by decide +kernel
theorem dX1_addPainter_65 : decode cX1_addPainter 65 = .ok (.iconst 1, 1) := by decide +kernel
theorem dX1_addPainter_66 : decode cX1_addPainter 66 = .ok (.iadd, 1) := by decide +kernel
theorem dX1_addPainter_67 : decode cX1_addPainter 67 = .ok (.putfield 44, 3) := by decide +kernel
theorem dX1_addPainter_70 : decode cX1_addPainter 70 = .ok (.iload 5, 2) := by decide +kernel
theorem dX1_addPainter_72 : decode cX1_addPainter 72 = .ok (.ireturn, 1) := by decide +kernel
set_option maxRecDepth 20000 in
theorem ggX1_compare_X1_square : GoodIn wsX1_compare wsX1_square := goodIn_r _ [7] (by decide +kernel) (by decide +kernel)
set_option maxRecDepth 20000 in
theorem gX1_compare_X1_square : GoodIn wsX1_compare (va_wsS RX1 47 yX1_square wsX1_square) := goodIn_app (goodIn_of _ (by decide +kernel)) ggX1_compare_X1_square
theorem dX1_compare_0 : decode cX1_compare 0 = .ok (.iconst 0, 1) := by decide +kernel
theorem dX1_compare_1 : decode cX1_compare 1 = .ok (.istore 5, 2) := by decide +kernel
theorem dX1_compare_3 : decode cX1_compare 3 = .ok (.iload 5, 2) := by decide +kernel
theorem dX1_compare_5 : decode cX1_compare 5 = .ok (.aload_n 0, 1) := by decide +kernel
theorem dX1_compare_6 : decode cX1_compare 6 = .ok (.getfield 44, 3) := by decide +kernel
theorem dX1_compare_9 : decode cX1_compare 9 = .ok (.if_icmp .ge 82, 3) := by decide +kernel
theorem dX1_compare_12 : decode cX1_compare 12 = .ok (.aload_n 0, 1) := by decide +kernel
theorem dX1_compare_13 : decode cX1_compare 13 = .ok (.getfield 27, 3) := by decide +kernel
theorem dX1_compare_16 : decode cX1_compare 16 = .ok (.iload 5, 2) := by decide +kernel
theorem dX1_compare_18 : decode cX1_compare 18 = .ok (.iload_n 1, 1) := by decide +kernel
theorem dX1_compare_19 : decode cX1_compare 19 = .ok (.aload_n 0, 1) := by decide +kernel
theorem dX1_compare_20 : decode cX1_compare 20 = .ok (.getfield 23, 3) := by decide +kernel
theorem dX1_compare_23 : decode cX1_compare 23 = .ok (.iload 5, 2) := by decide +kernel
theorem dX1_compare_25 : decode cX1_compare 25 = .ok (.iconst 4, 1) := by decide +kernel
theorem dX1_compare_26 : decode cX1_compare 26 = .ok (.imul, 1) := by decide +kernel
theorem dX1_compare_27 : decode cX1_compare 27 = .ok (.iaload, 1) := by decide +kernel
theorem dX1_compare_28 : decode cX1_compare 28 = .ok (.isub, 1) := by decide +kernel
theorem dX1_compare_29 : decode cX1_compare 29 = .ok (.invokestatic 47, 3) := by decide +kernel
theorem dX1_compare_32 : decode cX1_compare 32 = .ok (.iload_n 2, 1) := by decide +kernel
theorem dX1_compare_33 : decode cX1_compare 33 = .ok (.aload_n 0, 1) := by decide +kernel
theorem dX1_compare_34 : decode cX1_compare 34 = .ok (.getfield 23, 3) := by decide +kernel
theorem dX1_compare_37 : decode cX1_compare 37 = .ok (.iload 5, 2) := by decide +kernel
theorem dX1_compare_39 : decode cX1_compare 39 = .ok (.iconst 4, 1) := by decide +kernel
theorem dX1_compare_40 : decode cX1_compare 40 = .ok (.imul, 1) := by decide +kernel
theorem dX1_compare_41 : decode cX1_compare 41 = .ok (.iconst 1, 1) := by decide +kernel
theorem dX1_compare_42 : decode cX1_compare 42 = .ok (.iadd, 1) := by decide +kernel
theorem dX1_compare_43 : decode cX1_compare 43 = .ok (.iaload, 1) := by decide +kernel
theorem dX1_compare_44 : decode cX1_compare 44 = .ok (.isub, 1) := by decide +kernel
theorem dX1_compare_45 : decode cX1_compare 45 = .ok (.invokestatic 47, 3) := by decide +kernel
theorem dX1_compare_48 : decode cX1_compare 48 = .ok (.iadd, 1) := by decide +kernel
theorem dX1_compare_49 : decode cX1_compare 49 = .ok (.iload_n 3, 1) := by decide +kernel
theorem dX1_compare_50 : decode cX1_compare 50 = .ok (.aload_n 0, 1) := by decide +kernel
theorem dX1_compare_51 : decode cX1_compare 51 = .ok (.getfield 23, 3) := by decide +kernel
theorem dX1_compare_54 : decode cX1_compare 54 = .ok (.iload 5, 2) := by decide +kernel
theorem dX1_compare_56 : decode cX1_compare 56 = .ok (.iconst 4, 1) := by decide +kernel
theorem dX1_compare_57 : decode cX1_compare 57 = .ok (.imul, 1) := by decide +kernel
theorem dX1_compare_58 : decode cX1_compare 58 = .ok (.iconst 2, 1) := by decide +kernel
theorem dX1_compare_59 : decode cX1_compare 59 = .ok (.iadd, 1) := by decide +kernel
theorem dX1_compare_60 : decode cX1_compare 60 = .ok (.iaload, 1) := by decide +kernel
theorem dX1_compare_61 : decode cX1_compare 61 = .ok (.isub, 1) := by decide +kernel
theorem dX1_compare_62 : decode cX1_compare 62 = .ok (.invokestatic 47, 3) := by decide +kernel
theorem dX1_compare_65 : decode cX1_compare 65 = .ok (.iadd, 1) := by decide +kernel
theorem dX1_compare_66 : decode cX1_compare 66 = .ok (.iload 4, 2) := by decide +kernel
theorem dX1_compare_68 : decode cX1_compare 68 = .ok (.aload_n 0, 1) := by decide +kernel
theorem dX1_compare_69 : decode cX1_compare 69 = .ok (.getfield 23, 3) := by decide +kernel
theorem dX1_compare_72 : decode cX1_compare 72 = .ok (.iload 5, 2) := by decide +kernel
theorem dX1_compare_74 : decode cX1_compare 74 = .ok (.iconst 4, 1) := by decide +kernel
theorem dX1_compare_75 : decode cX1_compare 75 = .ok (.imul, 1) := by decide +kernel
theorem dX1_compare_76 : decode cX1_compare 76 = .ok (.iconst 3, 1) := by decide +kernel
theorem dX1_compare_77 : decode cX1_compare 77 = .ok (.iadd, 1) := by decide +kernel
theorem dX1_compare_78 : decode cX1_compare 78 = .ok (.iaload, 1) := by decide +kernel
theorem dX1_compare_79 : decode cX1_compare 79 = .ok (.isub, 1) := by decide +kernel
theorem dX1_compare_80 : decode cX1_compare 80 = .ok (.invokestatic 47, 3) := by decide +kernel
theorem dX1_compare_83 : decode cX1_compare 83 = .ok (.iadd, 1) := by decide +kernel
theorem dX1_compare_84 : decode cX1_compare 84 = .ok (.iastore, 1) := by decide +kernel
theorem dX1_compare_85 : decode cX1_compare 85 = .ok (.iinc 5 1, 3) := by decide +kernel
theorem dX1_compare_88 : decode cX1_compare 88 = .ok (.goto (-85), 3) := by decide +kernel
theorem dX1_compare_91 : decode cX1_compare 91 = .ok (.return_, 1) := by decide +kernel
theorem dX1_square_0 : decode cX1_square 0 = .ok (.iload_n 0, 1) := by decide +kernel
theorem dX1_square_1 : decode cX1_square 1 = .ok (.iload_n 0, 1) := by decide +kernel
theorem dX1_square_2 : decode cX1_square 2 = .ok (.imul, 1) := by decide +kernel
theorem dX1_square_3 : decode cX1_square 3 = .ok (.ireturn, 1) := by decide +kernel
theorem dX1_nearest_0 : decode cX1_nearest 0 = .ok (.iconst (-1), 1) := by decide +kernel
theorem dX1_nearest_1 : decode cX1_nearest 1 = .ok (.istore_n 2, 1) := by decide +kernel
theorem dX1_nearest_2 : decode cX1_nearest 2 = .ok (.ldc 30, 2) := by decide +kernel
theorem dX1_nearest_4 : decode cX1_nearest 4 = .ok (.istore_n 3, 1) := by decide +kernel
theorem dX1_nearest_5 : decode cX1_nearest 5 = .ok (.iconst 0, 1) := by decide +kernel
theorem dX1_nearest_6 : decode cX1_nearest 6 = .ok (.istore 4, 2) := by decide +kernel
theorem dX1_nearest_8 : decode cX1_nearest 8 = .ok (.iload 4, 2) := by decide +kernel
theorem dX1_nearest_10 : decode cX1_nearest 10 = .ok (.aload_n 0, 1) := by decide +kernel
theorem dX1_nearest_11 : decode cX1_nearest 11 = .ok (.getfield 44, 3) := by decide +kernel
theorem dX1_nearest_14 : decode cX1_nearest 14 = .ok (.if_icmp .ge 37, 3) := by decide +kernel
theorem dX1_nearest_17 : decode cX1_nearest 17 = .ok (.iload 4, 2) := by decide +kernel
theorem dX1_nearest_19 : decode cX1_nearest 19 = .ok (.iload_n 1, 1) := by decide +kernel
theorem dX1_nearest_20 : decode cX1_nearest 20 = .ok (.if_icmp .eq 25, 3) := by decide +kernel
theorem dX1_nearest_23 : decode cX1_nearest 23 = .ok (.aload_n 0, 1) := by decide +kernel
theorem dX1_nearest_24 : decode cX1_nearest 24 = .ok (.getfield 27, 3) := by decide +kernel
theorem dX1_nearest_27 : decode cX1_nearest 27 = .ok (.iload 4, 2) := by decide +kernel
theorem dX1_nearest_29 : decode cX1_nearest 29 = .ok (.iaload, 1) := by decide +kernel
theorem dX1_nearest_30 : decode cX1_nearest 30 = .ok (.iload_n 3, 1) := by decide +kernel
theorem dX1_nearest_31 : decode cX1_nearest 31 = .ok (.if_icmp .ge 14, 3) := by decide +kernel
theorem dX1_nearest_34 : decode cX1_nearest 34 = .ok (.iload 4, 2) := by decide +kernel
theorem dX1_nearest_36 : decode cX1_nearest 36 = .ok (.istore_n 2, 1) := by decide +kernel
theorem dX1_nearest_37 : decode cX1_nearest 37 = .ok (.aload_n 0, 1) := by decide +kernel
theorem dX1_nearest_38 : decode cX1_nearest 38 = .ok (.getfield 27, 3) := by decide +kernel
theorem dX1_nearest_41 : decode cX1_nearest 41 = .ok (.iload 4, 2) := by decide +kernel
theorem dX1_nearest_43 : decode cX1_nearest 43 = .ok (.iaload, 1) := by decide +kernel
theorem dX1_nearest_44 : decode cX1_nearest 44 = .ok (.istore_n 3, 1) := by decide +kernel
theorem dX1_nearest_45 : decode cX1_nearest 45 = .ok (.iinc 4 1, 3) := by decide +kernel
theorem dX1_nearest_48 : decode cX1_nearest 48 = .ok (.goto (-40), 3) := by decide +kernel
theorem dX1_nearest_51 : decode cX1_nearest 51 = .ok (.iload_n 2, 1) := by decide +kernel
theorem dX1_nearest_52 : decode cX1_nearest 52 = .ok (.ireturn, 1) := by decide +kernel
set_option maxRecDepth 20000 in
theorem ggX1_isNearestSure_X1_nearest : GoodIn wsX1_isNearestSure wsX1_nearest := goodIn_ca (goodIn_r _ [6, 7, 8, 1, 9, 10, 11, 12, 13] (by decide +kernel) (by decide +kernel)) (goodIn_sub (fun _ h => List.mem_cons_of_mem _ (List.mem_append_right _ h)) (by decide +kernel))
set_option maxRecDepth 20000 in
theorem gX1_isNearestSure_X1_nearest : GoodIn wsX1_isNearestSure (wsV RX1 50 RX1 yX1_nearest wsX1_nearest) := goodIn_app (goodIn_of _ (by decide +kernel)) ggX1_isNearestSure_X1_nearest
theorem dX1_isNearestSure_0 : decode cX1_isNearestSure 0 = .ok (.aload_n 0, 1) := by decide +kernel
theorem dX1_isNearestSure_1 : decode cX1_isNearestSure 1 = .ok (.iconst (-1), 1) := by decide +kernel
theorem dX1_isNearestSure_2 : decode cX1_isNearestSure 2 = .ok (.invokevirtual 50, 3) := by decide +kernel
theorem dX1_isNearestSure_5 : decode cX1_isNearestSure 5 = .ok (.istore_n 1, 1) := by decide +kernel
theorem dX1_isNearestSure_6 : decode cX1_isNearestSure 6 = .ok (.aload_n 0, 1) := by decide +kernel
theorem dX1_isNearestSure_7 : decode cX1_isNearestSure 7 = .ok (.iload_n 1, 1) := by decide +kernel
theorem dX1_isNearestSure_8 : decode cX1_isNearestSure 8 = .ok (.invokevirtual 50, 3) := by decide +kernel
theorem dX1_isNearestSure_11 : decode cX1_isNearestSure 11 = .ok (.istore_n 2, 1) := by decide +kernel
theorem dX1_isNearestSure_12 : decode cX1_isNearestSure 12 = .ok (.iload_n 1, 1) := by decide +kernel
theorem dX1_isNearestSure_13 : decode cX1_isNearestSure 13 = .ok (.iconst (-1), 1) := by decide +kernel
theorem dX1_isNearestSure_14 : decode cX1_isNearestSure 14 = .ok (.if_icmp .eq 25, 3) := by decide +kernel
theorem dX1_isNearestSure_17 : decode cX1_isNearestSure 17 = .ok (.iload_n 2, 1) := by decide +kernel
theorem dX1_isNearestSure_18 : decode cX1_isNearestSure 18 = .ok (.iconst (-1), 1) := by decide +kernel
theorem dX1_isNearestSure_19 : decode cX1_isNearestSure 19 = .ok (.if_icmp .eq 20, 3) := by decide +kernel
theorem dX1_isNearestSure_22 : decode cX1_isNearestSure 22 = .ok (.aload_n 0, 1) := by decide +kernel
theorem dX1_isNearestSure_23 : decode cX1_isNearestSure 23 = .ok (.getfield 27, 3) := by decide +kernel
theorem dX1_isNearestSure_26 : decode cX1_isNearestSure 26 = .ok (.iload_n 2, 1) := by decide +kernel
theorem dX1_isNearestSure_27 : decode cX1_isNearestSure 27 = .ok (.iaload, 1) := by decide +kernel
theorem dX1_isNearestSure_28 : decode cX1_isNearestSure 28 = .ok (.iconst 2, 1) := by decide +kernel
theorem dX1_isNearestSure_29 : decode cX1_isNearestSure 29 = .ok (.aload_n 0, 1) := by decide +kernel
theorem dX1_isNearestSure_30 : decode cX1_isNearestSure 30 = .ok (.getfield 27, 3) := by decide +kernel
theorem dX1_isNearestSure_33 : decode cX1_isNearestSure 33 = .ok (.iload_n 1, 1) := by decide +kernel
theorem dX1_isNearestSure_34 : decode cX1_isNearestSure 34 = .ok (.iaload, 1) := by decide +kernel
theorem dX1_isNearestSure_35 : decode cX1_isNearestSure 35 = .ok (.imul, 1) := by decide +kernel
theorem dX1_isNearestSure_36 : decode cX1_isNearestSure 36 = .ok (.if_icmp .lt 7, 3) := by decide +kernel
theorem dX1_isNearestSure_39 : decode cX1_isNearestSure 39 = .ok (.iconst 1, 1) := by decide +kernel
theorem dX1_isNearestSure_40 : decode cX1_isNearestSure 40 = .ok (.goto 4, 3) := by decide +kernel
theorem dX1_isNearestSure_43 : decode cX1_isNearestSure 43 = .ok (.iconst 0, 1) := by decide +kernel
theorem dX1_isNearestSure_44 : decode cX1_isNearestSure 44 = .ok (.ireturn, 1) := by decide +kernel
theorem dX2_init_0 : decode cX2_init 0 = .ok (.aload_n 0, 1) := by decide +kernel
theorem dX2_init_1 : decode cX2_init 1 = .ok (.invokespecial 3, 3) := by decide +kernel
theorem dX2_init_4 : decode cX2_init 4 = .ok (.aload_n 0, 1) := by decide +kernel
theorem dX2_init_5 : decode cX2_init 5 = .ok (.aload_n 1, 1) := by decide +kernel
theorem dX2_init_6 : decode cX2_init 6 = .ok (.putfield 9, 3) := by decide +kernel
theorem dX2_init_9 : decode cX2_init 9 = .ok (.return_, 1) := by decide +kernel
theorem dX2_tell_0 : decode cX2_tell 0 = .ok (.iload_n 1, 1) := by decide +kernel
theorem dX2_tell_1 : decode cX2_tell 1 = .ok (.bipush 115, 2) := by decide +kernel
theorem dX2_tell_3 : decode cX2_tell 3 = .ok (.if_icmp .ne 11, 3) := by decide +kernel
theorem dX2_tell_6 : decode cX2_tell 6 = .ok (.aload_n 0, 1) := by decide +kernel
theorem dX2_tell_7 : decode cX2_tell 7 = .ok (.getfield 9, 3) := by decide +kernel
theorem dX2_tell_10 : decode cX2_tell 10 = .ok (.getfield 15, 3) := by decide +kernel
theorem dX2_tell_13 : decode cX2_tell 13 = .ok (.ireturn, 1) := by decide +kernel
theorem dX2_tell_14 : decode cX2_tell 14 = .ok (.iload_n 1, 1) := by decide +kernel
theorem dX2_tell_15 : decode cX2_tell 15 = .ok (.bipush 116, 2) := by decide +kernel
theorem dX2_tell_17 : decode cX2_tell 17 = .ok (.if_icmp .ne 8, 3) := by decide +kernel
theorem dX2_tell_20 : decode cX2_tell 20 = .ok (.aload_n 0, 1) := by decide +kernel
theorem dX2_tell_21 : decode cX2_tell 21 = .ok (.getfield 21, 3) := by decide +kernel
theorem dX2_tell_24 : decode cX2_tell 24 = .ok (.ireturn, 1) := by decide +kernel
theorem dX2_tell_25 : decode cX2_tell 25 = .ok (.iload_n 1, 1) := by decide +kernel
theorem dX2_tell_26 : decode cX2_tell 26 = .ok (.bipush 121, 2) := by decide +kernel
theorem dX2_tell_28 : decode cX2_tell 28 = .ok (.if_icmp .ne 8, 3) := by decide +kernel
theorem dX2_tell_31 : decode cX2_tell 31 = .ok (.aload_n 0, 1) := by decide +kernel
theorem dX2_tell_32 : decode cX2_tell 32 = .ok (.getfield 24, 3) := by decide +kernel
theorem dX2_tell_35 : decode cX2_tell 35 = .ok (.ireturn, 1) := by decide +kernel
theorem dX2_tell_36 : decode cX2_tell 36 = .ok (.iload_n 1, 1) := by decide +kernel
theorem dX2_tell_37 : decode cX2_tell 37 = .ok (.bipush 99, 2) := by decide +kernel
theorem dX2_tell_39 : decode cX2_tell 39 = .ok (.if_icmp .ne 10, 3) := by decide +kernel
theorem dX2_tell_42 : decode cX2_tell 42 = .ok (.aload_n 0, 1) := by decide +kernel
theorem dX2_tell_43 : decode cX2_tell 43 = .ok (.getfield 27, 3) := by decide +kernel
theorem dX2_tell_46 : decode cX2_tell 46 = .ok (.goto 7, 3) := by decide +kernel
theorem dX2_tell_49 : decode cX2_tell 49 = .ok (.aload_n 0, 1) := by decide +kernel
theorem dX2_tell_50 : decode cX2_tell 50 = .ok (.getfield 30, 3) := by decide +kernel
theorem dX2_tell_53 : decode cX2_tell 53 = .ok (.ireturn, 1) := by decide +kernel
theorem dX2_share_0 : decode cX2_share 0 = .ok (.aload_n 0, 1) := by decide +kernel
theorem dX2_share_1 : decode cX2_share 1 = .ok (.getfield 9, 3) := by decide +kernel
theorem dX2_share_4 : decode cX2_share 4 = .ok (.getfield 33, 3) := by decide +kernel
theorem dX2_share_7 : decode cX2_share 7 = .ok (.aload_n 0, 1) := by decide +kernel
theorem dX2_share_8 : decode cX2_share 8 = .ok (.getfield 21, 3) := by decide +kernel
theorem dX2_share_11 : decode cX2_share 11 = .ok (.imul, 1) := by decide +kernel
theorem dX2_share_12 : decode cX2_share 12 = .ok (.bipush 20, 2) := by decide +kernel
theorem dX2_share_14 : decode cX2_share 14 = .ok (.idiv, 1) := by decide +kernel
theorem dX2_share_15 : decode cX2_share 15 = .ok (.aload_n 0, 1) := by decide +kernel
theorem dX2_share_16 : decode cX2_share 16 = .ok (.getfield 30, 3) := by decide +kernel
theorem dX2_share_19 : decode cX2_share 19 = .ok (.iadd, 1) := by decide +kernel
theorem dX2_share_20 : decode cX2_share 20 = .ok (.istore_n 1, 1) := by decide +kernel
theorem dX2_share_21 : decode cX2_share 21 = .ok (.iload_n 1, 1) := by decide +kernel
theorem dX2_share_22 : decode cX2_share 22 = .ok (.bipush 100, 2) := by decide +kernel
theorem dX2_share_24 : decode cX2_share 24 = .ok (.if_icmp .le 8, 3) := by decide +kernel
theorem dX2_share_27 : decode cX2_share 27 = .ok (.bipush 100, 2) := by decide +kernel
theorem dX2_share_29 : decode cX2_share 29 = .ok (.goto 4, 3) := by decide +kernel
theorem dX2_share_32 : decode cX2_share 32 = .ok (.iload_n 1, 1) := by decide +kernel
theorem dX2_share_33 : decode cX2_share 33 = .ok (.ireturn, 1) := by decide +kernel
theorem dX2_seenTone_0 : decode cX2_seenTone 0 = .ok (.aload_n 0, 1) := by decide +kernel
theorem dX2_seenTone_1 : decode cX2_seenTone 1 = .ok (.getfield 30, 3) := by decide +kernel
theorem dX2_seenTone_4 : decode cX2_seenTone 4 = .ok (.ifCond .le 8, 3) := by decide +kernel
theorem dX2_seenTone_7 : decode cX2_seenTone 7 = .ok (.bipush 40, 2) := by decide +kernel
theorem dX2_seenTone_9 : decode cX2_seenTone 9 = .ok (.goto 7, 3) := by decide +kernel
theorem dX2_seenTone_12 : decode cX2_seenTone 12 = .ok (.aload_n 0, 1) := by decide +kernel
theorem dX2_seenTone_13 : decode cX2_seenTone 13 = .ok (.getfield 27, 3) := by decide +kernel
theorem dX2_seenTone_16 : decode cX2_seenTone 16 = .ok (.ireturn, 1) := by decide +kernel
theorem dX2_shift_0 : decode cX2_shift 0 = .ok (.iconst 0, 1) := by decide +kernel
theorem dX2_shift_1 : decode cX2_shift 1 = .ok (.istore 4, 2) := by decide +kernel
theorem dX2_shift_3 : decode cX2_shift 3 = .ok (.iload 4, 2) := by decide +kernel
theorem dX2_shift_5 : decode cX2_shift 5 = .ok (.iload_n 1, 1) := by decide +kernel
theorem dX2_shift_6 : decode cX2_shift 6 = .ok (.if_icmp .ge 38, 3) := by decide +kernel
theorem dX2_shift_9 : decode cX2_shift 9 = .ok (.aload_n 0, 1) := by decide +kernel
theorem dX2_shift_10 : decode cX2_shift 10 = .ok (.bipush 99, 2) := by decide +kernel
theorem dX2_shift_12 : decode cX2_shift 12 = .ok (.aload_n 0, 1) := by decide +kernel
theorem dX2_shift_13 : decode cX2_shift 13 = .ok (.getfield 27, 3) := by decide +kernel
theorem dX2_shift_16 : decode cX2_shift 16 = .ok (.iload_n 2, 1) := by decide +kernel
theorem dX2_shift_17 : decode cX2_shift 17 = .ok (.iadd, 1) := by decide +kernel
theorem dX2_shift_18 : decode cX2_shift 18 = .ok (.invokestatic 36, 3) := by decide +kernel
theorem dX2_shift_21 : decode cX2_shift 21 = .ok (.putfield 27, 3) := by decide +kernel
theorem dX2_shift_24 : decode cX2_shift 24 = .ok (.aload_n 0, 1) := by decide +kernel
theorem dX2_shift_25 : decode cX2_shift 25 = .ok (.iconst 0, 1) := by decide +kernel
theorem dX2_shift_26 : decode cX2_shift 26 = .ok (.aload_n 0, 1) := by decide +kernel
theorem dX2_shift_27 : decode cX2_shift 27 = .ok (.getfield 27, 3) := by decide +kernel
theorem dX2_shift_30 : decode cX2_shift 30 = .ok (.iload_n 3, 1) := by decide +kernel
theorem dX2_shift_31 : decode cX2_shift 31 = .ok (.isub, 1) := by decide +kernel
theorem dX2_shift_32 : decode cX2_shift 32 = .ok (.invokestatic 42, 3) := by decide +kernel
theorem dX2_shift_35 : decode cX2_shift 35 = .ok (.putfield 27, 3) := by decide +kernel
theorem dX2_shift_38 : decode cX2_shift 38 = .ok (.iinc 4 1, 3) := by decide +kernel
theorem dX2_shift_41 : decode cX2_shift 41 = .ok (.goto (-38), 3) := by decide +kernel
theorem dX2_shift_44 : decode cX2_shift 44 = .ok (.return_, 1) := by decide +kernel
theorem dX2_copyFrom_0 : decode cX2_copyFrom 0 = .ok (.aload_n 0, 1) := by decide +kernel
theorem dX2_copyFrom_1 : decode cX2_copyFrom 1 = .ok (.aload_n 1, 1) := by decide +kernel
theorem dX2_copyFrom_2 : decode cX2_copyFrom 2 = .ok (.getfield 9, 3) := by decide +kernel
theorem dX2_copyFrom_5 : decode cX2_copyFrom 5 = .ok (.putfield 9, 3) := by decide +kernel
theorem dX2_copyFrom_8 : decode cX2_copyFrom 8 = .ok (.aload_n 0, 1) := by decide +kernel
theorem dX2_copyFrom_9 : decode cX2_copyFrom 9 = .ok (.aload_n 1, 1) := by decide +kernel
theorem dX2_copyFrom_10 : decode cX2_copyFrom 10 = .ok (.getfield 21, 3) := by decide +kernel
theorem dX2_copyFrom_13 : decode cX2_copyFrom 13 = .ok (.putfield 21, 3) := by decide +kernel
theorem dX2_copyFrom_16 : decode cX2_copyFrom 16 = .ok (.aload_n 0, 1) := by decide +kernel
theorem dX2_copyFrom_17 : decode cX2_copyFrom 17 = .ok (.aload_n 1, 1) := by decide +kernel
theorem dX2_copyFrom_18 : decode cX2_copyFrom 18 = .ok (.getfield 24, 3) := by decide +kernel
theorem dX2_copyFrom_21 : decode cX2_copyFrom 21 = .ok (.putfield 24, 3) := by decide +kernel
theorem dX2_copyFrom_24 : decode cX2_copyFrom 24 = .ok (.aload_n 0, 1) := by decide +kernel
theorem dX2_copyFrom_25 : decode cX2_copyFrom 25 = .ok (.aload_n 1, 1) := by decide +kernel
theorem dX2_copyFrom_26 : decode cX2_copyFrom 26 = .ok (.getfield 27, 3) := by decide +kernel
theorem dX2_copyFrom_29 : decode cX2_copyFrom 29 = .ok (.putfield 27, 3) := by decide +kernel
theorem dX2_copyFrom_32 : decode cX2_copyFrom 32 = .ok (.aload_n 0, 1) := by decide +kernel
theorem dX2_copyFrom_33 : decode cX2_copyFrom 33 = .ok (.aload_n 1, 1) := by decide +kernel
theorem dX2_copyFrom_34 : decode cX2_copyFrom 34 = .ok (.getfield 30, 3) := by decide +kernel
theorem dX2_copyFrom_37 : decode cX2_copyFrom 37 = .ok (.putfield 30, 3) := by decide +kernel
theorem dX2_copyFrom_40 : decode cX2_copyFrom 40 = .ok (.return_, 1) := by decide +kernel
theorem dX2_isSameAs_0 : decode cX2_isSameAs 0 = .ok (.aload_n 0, 1) := by decide +kernel
theorem dX2_isSameAs_1 : decode cX2_isSameAs 1 = .ok (.getfield 9, 3) := by decide +kernel
theorem dX2_isSameAs_4 : decode cX2_isSameAs 4 = .ok (.getfield 15, 3) := by decide +kernel
theorem dX2_isSameAs_7 : decode cX2_isSameAs 7 = .ok (.aload_n 1, 1) := by decide +kernel
theorem dX2_isSameAs_8 : decode cX2_isSameAs 8 = .ok (.getfield 9, 3) := by decide +kernel
theorem dX2_isSameAs_11 : decode cX2_isSameAs 11 = .ok (.getfield 15, 3) := by decide +kernel
theorem dX2_isSameAs_14 : decode cX2_isSameAs 14 = .ok (.if_icmp .ne 51, 3) := by decide +kernel
theorem dX2_isSameAs_17 : decode cX2_isSameAs 17 = .ok (.aload_n 0, 1) := by decide +kernel
theorem dX2_isSameAs_18 : decode cX2_isSameAs 18 = .ok (.getfield 21, 3) := by decide +kernel
theorem dX2_isSameAs_21 : decode cX2_isSameAs 21 = .ok (.aload_n 1, 1) := by decide +kernel
theorem dX2_isSameAs_22 : decode cX2_isSameAs 22 = .ok (.getfield 21, 3) := by decide +kernel
theorem dX2_isSameAs_25 : decode cX2_isSameAs 25 = .ok (.if_icmp .ne 40, 3) := by decide +kernel
theorem dX2_isSameAs_28 : decode cX2_isSameAs 28 = .ok (.aload_n 0, 1) := by decide +kernel
theorem dX2_isSameAs_29 : decode cX2_isSameAs 29 = .ok (.getfield 24, 3) := by decide +kernel
theorem dX2_isSameAs_32 : decode cX2_isSameAs 32 = .ok (.aload_n 1, 1) := by decide +kernel
theorem dX2_isSameAs_33 : decode cX2_isSameAs 33 = .ok (.getfield 24, 3) := by decide +kernel
theorem dX2_isSameAs_36 : decode cX2_isSameAs 36 = .ok (.if_icmp .ne 29, 3) := by decide +kernel
theorem dX2_isSameAs_39 : decode cX2_isSameAs 39 = .ok (.aload_n 0, 1) := by decide +kernel
theorem dX2_isSameAs_40 : decode cX2_isSameAs 40 = .ok (.getfield 27, 3) := by decide +kernel
theorem dX2_isSameAs_43 : decode cX2_isSameAs 43 = .ok (.aload_n 1, 1) := by decide +kernel
theorem dX2_isSameAs_44 : decode cX2_isSameAs 44 = .ok (.getfield 27, 3) := by decide +kernel
theorem dX2_isSameAs_47 : decode cX2_isSameAs 47 = .ok (.if_icmp .ne 18, 3) := by decide +kernel
theorem dX2_isSameAs_50 : decode cX2_isSameAs 50 = .ok (.aload_n 0, 1) := by decide +kernel
theorem dX2_isSameAs_51 : decode cX2_isSameAs 51 = .ok (.getfield 30, 3) := by decide +kernel
theorem dX2_isSameAs_54 : decode cX2_isSameAs 54 = .ok (.aload_n 1, 1) := by decide +kernel
theorem dX2_isSameAs_55 : decode cX2_isSameAs 55 = .ok (.getfield 30, 3) := by decide +kernel
theorem dX2_isSameAs_58 : decode cX2_isSameAs 58 = .ok (.if_icmp .ne 7, 3) := by decide +kernel
theorem dX2_isSameAs_61 : decode cX2_isSameAs 61 = .ok (.iconst 1, 1) := by decide +kernel
theorem dX2_isSameAs_62 : decode cX2_isSameAs 62 = .ok (.goto 4, 3) := by decide +kernel
theorem dX2_isSameAs_65 : decode cX2_isSameAs 65 = .ok (.iconst 0, 1) := by decide +kernel
theorem dX2_isSameAs_66 : decode cX2_isSameAs 66 = .ok (.ireturn, 1) := by decide +kernel
theorem dX3_init_0 : decode cX3_init 0 = .ok (.aload_n 0, 1) := by decide +kernel
theorem dX3_init_1 : decode cX3_init 1 = .ok (.invokespecial 3, 3) := by decide +kernel
theorem dX3_init_4 : decode cX3_init 4 = .ok (.aload_n 0, 1) := by decide +kernel
theorem dX3_init_5 : decode cX3_init 5 = .ok (.bipush 8, 2) := by decide +kernel
theorem dX3_init_7 : decode cX3_init 7 = .ok (.newarray .int, 2) := by decide +kernel
theorem dX3_init_9 : decode cX3_init 9 = .ok (.putfield 9, 3) := by decide +kernel
theorem dX3_init_12 : decode cX3_init 12 = .ok (.aload_n 0, 1) := by decide +kernel
theorem dX3_init_13 : decode cX3_init 13 = .ok (.bipush 8, 2) := by decide +kernel
theorem dX3_init_15 : decode cX3_init 15 = .ok (.newarray .int, 2) := by decide +kernel
theorem dX3_init_17 : decode cX3_init 17 = .ok (.putfield 15, 3) := by decide +kernel
theorem dX3_init_20 : decode cX3_init 20 = .ok (.return_, 1) := by decide +kernel
theorem dX3_add_0 : decode cX3_add 0 = .ok (.aload_n 0, 1) := by decide +kernel
theorem dX3_add_1 : decode cX3_add 1 = .ok (.getfield 18, 3) := by decide +kernel
theorem dX3_add_4 : decode cX3_add 4 = .ok (.bipush 8, 2) := by decide +kernel
theorem dX3_add_6 : decode cX3_add 6 = .ok (.if_icmp .ge 33, 3) := by decide +kernel
theorem dX3_add_9 : decode cX3_add 9 = .ok (.aload_n 0, 1) := by decide +kernel
theorem dX3_add_10 : decode cX3_add 10 = .ok (.getfield 9, 3) := by decide +kernel
theorem dX3_add_13 : decode cX3_add 13 = .ok (.aload_n 0, 1) := by decide +kernel
theorem dX3_add_14 : decode cX3_add 14 = .ok (.getfield 18, 3) := by decide +kernel
theorem dX3_add_17 : decode cX3_add 17 = .ok (.iload_n 1, 1) := by decide +kernel
theorem dX3_add_18 : decode cX3_add 18 = .ok (.iastore, 1) := by decide +kernel
theorem dX3_add_19 : decode cX3_add 19 = .ok (.aload_n 0, 1) := by decide +kernel
theorem dX3_add_20 : decode cX3_add 20 = .ok (.getfield 15, 3) := by decide +kernel
theorem dX3_add_23 : decode cX3_add 23 = .ok (.aload_n 0, 1) := by decide +kernel
theorem dX3_add_24 : decode cX3_add 24 = .ok (.getfield 18, 3) := by decide +kernel
theorem dX3_add_27 : decode cX3_add 27 = .ok (.iload_n 2, 1) := by decide +kernel
theorem dX3_add_28 : decode cX3_add 28 = .ok (.iastore, 1) := by decide +kernel
theorem dX3_add_29 : decode cX3_add 29 = .ok (.aload_n 0, 1) := by decide +kernel
theorem dX3_add_30 : decode cX3_add 30 = .ok (.dup, 1) := by decide +kernel
theorem dX3_add_31 : decode cX3_add 31 = .ok (.getfield 18, 3) := by decide +kernel
theorem dX3_add_34 : decode cX3_add 34 = .ok (.iconst 1, 1) := by decide +kernel
theorem dX3_add_35 : decode cX3_add 35 = .ok (.iadd, 1) := by decide +kernel
theorem dX3_add_36 : decode cX3_add 36 = .ok (.putfield 18, 3) := by decide +kernel
theorem dX3_add_39 : decode cX3_add 39 = .ok (.aload_n 0, 1) := by decide +kernel
theorem dX3_add_40 : decode cX3_add 40 = .ok (.getfield 18, 3) := by decide +kernel
theorem dX3_add_43 : decode cX3_add 43 = .ok (.ireturn, 1) := by decide +kernel
theorem dX3_copyFrom_0 : decode cX3_copyFrom 0 = .ok (.aload_n 0, 1) := by decide +kernel
theorem dX3_copyFrom_1 : decode cX3_copyFrom 1 = .ok (.aload_n 1, 1) := by decide +kernel
theorem dX3_copyFrom_2 : decode cX3_copyFrom 2 = .ok (.getfield 18, 3) := by decide +kernel
theorem dX3_copyFrom_5 : decode cX3_copyFrom 5 = .ok (.putfield 18, 3) := by decide +kernel
theorem dX3_copyFrom_8 : decode cX3_copyFrom 8 = .ok (.iconst 0, 1) := by decide +kernel
theorem dX3_copyFrom_9 : decode cX3_copyFrom 9 = .ok (.istore_n 2, 1) := by decide +kernel
theorem dX3_copyFrom_10 : decode cX3_copyFrom 10 = .ok (.iload_n 2, 1) := by decide +kernel
theorem dX3_copyFrom_11 : decode cX3_copyFrom 11 = .ok (.aload_n 0, 1) := by decide +kernel
theorem dX3_copyFrom_12 : decode cX3_copyFrom 12 = .ok (.getfield 18, 3) := by decide +kernel
theorem dX3_copyFrom_15 : decode cX3_copyFrom 15 = .ok (.if_icmp .ge 33, 3) := by decide +kernel
theorem dX3_copyFrom_18 : decode cX3_copyFrom 18 = .ok (.aload_n 0, 1) := by decide +kernel
theorem dX3_copyFrom_19 : decode cX3_copyFrom 19 = .ok (.getfield 9, 3) := by decide +kernel
theorem dX3_copyFrom_22 : decode cX3_copyFrom 22 = .ok (.iload_n 2, 1) := by decide +kernel
theorem dX3_copyFrom_23 : decode cX3_copyFrom 23 = .ok (.aload_n 1, 1) := by decide +kernel
theorem dX3_copyFrom_24 : decode cX3_copyFrom 24 = .ok (.getfield 9, 3) := by decide +kernel
theorem dX3_copyFrom_27 : decode cX3_copyFrom 27 = .ok (.iload_n 2, 1) := by decide +kernel
theorem dX3_copyFrom_28 : decode cX3_copyFrom 28 = .ok (.iaload, 1) := by decide +kernel
theorem dX3_copyFrom_29 : decode cX3_copyFrom 29 = .ok (.iastore, 1) := by decide +kernel
theorem dX3_copyFrom_30 : decode cX3_copyFrom 30 = .ok (.aload_n 0, 1) := by decide +kernel
theorem dX3_copyFrom_31 : decode cX3_copyFrom 31 = .ok (.getfield 15, 3) := by decide +kernel
theorem dX3_copyFrom_34 : decode cX3_copyFrom 34 = .ok (.iload_n 2, 1) := by decide +kernel
theorem dX3_copyFrom_35 : decode cX3_copyFrom 35 = .ok (.aload_n 1, 1) := by decide +kernel
theorem dX3_copyFrom_36 : decode cX3_copyFrom 36 = .ok (.getfield 15, 3) := by decide +kernel
theorem dX3_copyFrom_39 : decode cX3_copyFrom 39 = .ok (.iload_n 2, 1) := by decide +kernel
theorem dX3_copyFrom_40 : decode cX3_copyFrom 40 = .ok (.iaload, 1) := by decide +kernel
theorem dX3_copyFrom_41 : decode cX3_copyFrom 41 = .ok (.iastore, 1) := by decide +kernel
theorem dX3_copyFrom_42 : decode cX3_copyFrom 42 = .ok (.iinc 2 1, 3) := by decide +kernel
theorem dX3_copyFrom_45 : decode cX3_copyFrom 45 = .ok (.goto (-35), 3) := by decide +kernel
theorem dX3_copyFrom_48 : decode cX3_copyFrom 48 = .ok (.return_, 1) := by decide +kernel
set_option maxRecDepth 20000 in
theorem ggX4_init_X9_init : GoodIn wsX4_init wsX9_init := goodIn_r _ [17, 18, 2, 3, 19, 20, 41, 42, 43, 44, 45, 46, 47, 48, 49, 50, 51] (by decide +kernel) (by decide +kernel)
set_option maxRecDepth 20000 in
theorem gX4_init_X9_init : GoodIn wsX4_init (wsX9_init) := ggX4_init_X9_init
set_option maxRecDepth 20000 in
theorem ggX4_init_X8_init : GoodIn wsX4_init wsX8_init := goodIn_r _ [23, 24, 2, 3, 25, 26, 27, 28, 29, 30, 31, 32, 33, 38, 39, 40, 52, 53, 54, 55, 56] (by decide +kernel) (by decide +kernel)
set_option maxRecDepth 20000 in
theorem gX4_init_X8_init : GoodIn wsX4_init (wsX8_init) := ggX4_init_X8_init
theorem dX4_init_0 : decode cX4_init 0 = .ok (.aload_n 0, 1) := by decide +kernel
theorem dX4_init_1 : decode cX4_init 1 = .ok (.invokespecial 3, 3) := by decide +kernel
theorem dX4_init_4 : decode cX4_init 4 = .ok (.aload_n 0, 1) := by decide +kernel
theorem dX4_init_5 : decode cX4_init 5 = .ok (.sipush 240, 3) := by decide +kernel
theorem dX4_init_8 : decode cX4_init 8 = .ok (.newarray .boolean, 2) := by decide +kernel
theorem dX4_init_10 : decode cX4_init 10 = .ok (.putfield 9, 3) := by decide +kernel
theorem dX4_init_13 : decode cX4_init 13 = .ok (.aload_n 0, 1) := by decide +kernel
theorem dX4_init_14 : decode cX4_init 14 = .ok (.sipush 240, 3) := by decide +kernel
theorem dX4_init_17 : decode cX4_init 17 = .ok (.newarray .int, 2) := by decide +kernel
theorem dX4_init_19 : decode cX4_init 19 = .ok (.putfield 15, 3) := by decide +kernel
theorem dX4_init_22 : decode cX4_init 22 = .ok (.aload_n 0, 1) := by decide +kernel
theorem dX4_init_23 : decode cX4_init 23 = .ok (.new 19, 3) := by decide +kernel
theorem dX4_init_26 : decode cX4_init 26 = .ok (.dup, 1) := by decide +kernel
theorem dX4_init_27 : decode cX4_init 27 = .ok (.new 21, 3) := by decide +kernel
theorem dX4_init_30 : decode cX4_init 30 = .ok (.dup, 1) := by decide +kernel
theorem dX4_init_31 : decode cX4_init 31 = .ok (.iconst 0, 1) := by decide +kernel
theorem dX4_init_32 : decode cX4_init 32 = .ok (.bipush 115, 2) := by decide +kernel
theorem dX4_init_34 : decode cX4_init 34 = .ok (.invokespecial 23, 3) := by decide +kernel
theorem dX4_init_37 : decode cX4_init 37 = .ok (.invokespecial 26, 3) := by decide +kernel
theorem dX4_init_40 : decode cX4_init 40 = .ok (.putfield 29, 3) := by decide +kernel
theorem dX4_init_43 : decode cX4_init 43 = .ok (.return_, 1) := by decide +kernel
theorem dX4_keep_0 : decode cX4_keep 0 = .ok (.aload_n 0, 1) := by decide +kernel
theorem dX4_keep_1 : decode cX4_keep 1 = .ok (.getfield 9, 3) := by decide +kernel
theorem dX4_keep_4 : decode cX4_keep 4 = .ok (.iload_n 1, 1) := by decide +kernel
theorem dX4_keep_5 : decode cX4_keep 5 = .ok (.bipush 48, 2) := by decide +kernel
theorem dX4_keep_7 : decode cX4_keep 7 = .ok (.imul, 1) := by decide +kernel
theorem dX4_keep_8 : decode cX4_keep 8 = .ok (.iload_n 2, 1) := by decide +kernel
theorem dX4_keep_9 : decode cX4_keep 9 = .ok (.iadd, 1) := by decide +kernel
theorem dX4_keep_10 : decode cX4_keep 10 = .ok (.iconst 1, 1) := by decide +kernel
theorem dX4_keep_11 : decode cX4_keep 11 = .ok (.bastore, 1) := by decide +kernel
theorem dX4_keep_12 : decode cX4_keep 12 = .ok (.aload_n 0, 1) := by decide +kernel
theorem dX4_keep_13 : decode cX4_keep 13 = .ok (.getfield 15, 3) := by decide +kernel
theorem dX4_keep_16 : decode cX4_keep 16 = .ok (.iload_n 1, 1) := by decide +kernel
theorem dX4_keep_17 : decode cX4_keep 17 = .ok (.bipush 48, 2) := by decide +kernel
theorem dX4_keep_19 : decode cX4_keep 19 = .ok (.imul, 1) := by decide +kernel
theorem dX4_keep_20 : decode cX4_keep 20 = .ok (.iload_n 2, 1) := by decide +kernel
theorem dX4_keep_21 : decode cX4_keep 21 = .ok (.iadd, 1) := by decide +kernel
theorem dX4_keep_22 : decode cX4_keep 22 = .ok (.iload_n 3, 1) := by decide +kernel
theorem dX4_keep_23 : decode cX4_keep 23 = .ok (.iastore, 1) := by decide +kernel
theorem dX4_keep_24 : decode cX4_keep 24 = .ok (.return_, 1) := by decide +kernel
theorem dX4_has_0 : decode cX4_has 0 = .ok (.aload_n 0, 1) := by decide +kernel
theorem dX4_has_1 : decode cX4_has 1 = .ok (.getfield 9, 3) := by decide +kernel
theorem dX4_has_4 : decode cX4_has 4 = .ok (.iload_n 1, 1) := by decide +kernel
theorem dX4_has_5 : decode cX4_has 5 = .ok (.bipush 48, 2) := by decide +kernel
theorem dX4_has_7 : decode cX4_has 7 = .ok (.imul, 1) := by decide +kernel
theorem dX4_has_8 : decode cX4_has 8 = .ok (.iload_n 2, 1) := by decide +kernel
theorem dX4_has_9 : decode cX4_has 9 = .ok (.iadd, 1) := by decide +kernel
theorem dX4_has_10 : decode cX4_has 10 = .ok (.baload, 1) := by decide +kernel
theorem dX4_has_11 : decode cX4_has 11 = .ok (.ireturn, 1) := by decide +kernel
theorem dX4_read_0 : decode cX4_read 0 = .ok (.aload_n 0, 1) := by decide +kernel
theorem dX4_read_1 : decode cX4_read 1 = .ok (.getfield 15, 3) := by decide +kernel
theorem dX4_read_4 : decode cX4_read 4 = .ok (.iload_n 1, 1) := by decide +kernel
theorem dX4_read_5 : decode cX4_read 5 = .ok (.bipush 48, 2) := by decide +kernel
theorem dX4_read_7 : decode cX4_read 7 = .ok (.imul, 1) := by decide +kernel
theorem dX4_read_8 : decode cX4_read 8 = .ok (.iload_n 2, 1) := by decide +kernel
theorem dX4_read_9 : decode cX4_read 9 = .ok (.iadd, 1) := by decide +kernel
theorem dX4_read_10 : decode cX4_read 10 = .ok (.iaload, 1) := by decide +kernel
theorem dX4_read_11 : decode cX4_read 11 = .ok (.ireturn, 1) := by decide +kernel
set_option maxRecDepth 20000 in
theorem ggX4_match_X4_has : GoodIn wsX4_match wsX4_has := goodIn_ca (goodIn_r _ [9, 10, 67, 68, 69, 70] (by decide +kernel) (by decide +kernel)) (goodIn_sub (fun _ h => List.mem_cons_of_mem _ (List.mem_append_right _ h)) (by decide +kernel))
set_option maxRecDepth 20000 in
theorem gX4_match_X4_has : GoodIn wsX4_match (wsV RX4 33 RX4 yX4_has wsX4_has) := goodIn_app (goodIn_of _ (by decide +kernel)) ggX4_match_X4_has
set_option maxRecDepth 20000 in
theorem ggX4_match_X8_see : GoodIn wsX4_match wsX8_see := goodIn_r _ [15, 16, 17, 18, 14, 19, 20, 21, 22, 23, 24, 25, 26, 27, 28, 29, 30, 31, 32, 33, 34, 35, 36, 37, 38, 39, 40, 41, 42, 43, 44, 45, 46, 47, 48, 49, 50, 51, 52, 53, 54, 55, 56, 3, 57, 58, 59, 60, 61, 71, 72, 73, 74, 75, 76, 77, 78, 79, 80, 81, 82, 83, 84, 85, 86, 87, 88, 89] (by decide +kernel) (by decide +kernel)
set_option maxRecDepth 20000 in
theorem gX4_match_X8_see : GoodIn wsX4_match (wsV RX4 37 RX8 yX8_see wsX8_see) := goodIn_app (goodIn_of _ (by decide +kernel)) ggX4_match_X8_see
set_option maxRecDepth 20000 in
theorem ggX4_match_X4_read : GoodIn wsX4_match wsX4_read := goodIn_ca (goodIn_r _ [65, 66, 67, 68, 69, 70] (by decide +kernel) (by decide +kernel)) (goodIn_sub (fun _ h => List.mem_cons_of_mem _ (List.mem_append_right _ h)) (by decide +kernel))
set_option maxRecDepth 20000 in
theorem gX4_match_X4_read : GoodIn wsX4_match (wsV RX4 41 RX4 yX4_read wsX4_read) := goodIn_app (goodIn_of _ (by decide +kernel)) ggX4_match_X4_read
theorem dX4_match_0 : decode cX4_match 0 = .ok (.iconst 0, 1) := by decide +kernel
theorem dX4_match_1 : decode cX4_match 1 = .ok (.istore_n 3, 1) := by decide +kernel
theorem dX4_match_2 : decode cX4_match 2 = .ok (.iload_n 3, 1) := by decide +kernel
theorem dX4_match_3 : decode cX4_match 3 = .ok (.iconst 4, 1) := by decide +kernel
theorem dX4_match_4 : decode cX4_match 4 = .ok (.if_icmp .ge 52, 3) := by decide +kernel
theorem dX4_match_7 : decode cX4_match 7 = .ok (.iload_n 3, 1) := by decide +kernel
theorem dX4_match_8 : decode cX4_match 8 = .ok (.iconst 1, 1) := by decide +kernel
theorem dX4_match_9 : decode cX4_match 9 = .ok (.if_icmp .gt 7, 3) := by decide +kernel
theorem dX4_match_12 : decode cX4_match 12 = .ok (.iconst 5, 1) := by decide +kernel
theorem dX4_match_13 : decode cX4_match 13 = .ok (.goto 4, 3) := by decide +kernel
theorem dX4_match_16 : decode cX4_match 16 = .ok (.iconst 0, 1) := by decide +kernel
theorem dX4_match_17 : decode cX4_match 17 = .ok (.istore 4, 2) := by decide +kernel
theorem dX4_match_19 : decode cX4_match 19 = .ok (.aload_n 0, 1) := by decide +kernel
theorem dX4_match_20 : decode cX4_match 20 = .ok (.iload_n 3, 1) := by decide +kernel
theorem dX4_match_21 : decode cX4_match 21 = .ok (.iload_n 1, 1) := by decide +kernel
theorem dX4_match_22 : decode cX4_match 22 = .ok (.invokevirtual 33, 3) := by decide +kernel
theorem dX4_match_25 : decode cX4_match 25 = .ok (.ifCond .eq 25, 3) := by decide +kernel
theorem dX4_match_28 : decode cX4_match 28 = .ok (.aload_n 2, 1) := by decide +kernel
theorem dX4_match_29 : decode cX4_match 29 = .ok (.iload_n 3, 1) := by decide +kernel
theorem dX4_match_30 : decode cX4_match 30 = .ok (.invokevirtual 37, 3) := by decide +kernel
theorem dX4_match_33 : decode cX4_match 33 = .ok (.aload_n 0, 1) := by decide +kernel
theorem dX4_match_34 : decode cX4_match 34 = .ok (.iload_n 3, 1) := by decide +kernel
theorem dX4_match_35 : decode cX4_match 35 = .ok (.iload_n 1, 1) := by decide +kernel
theorem dX4_match_36 : decode cX4_match 36 = .ok (.invokevirtual 41, 3) := by decide +kernel
theorem dX4_match_39 : decode cX4_match 39 = .ok (.isub, 1) := by decide +kernel
theorem dX4_match_40 : decode cX4_match 40 = .ok (.invokestatic 45, 3) := by decide +kernel
theorem dX4_match_43 : decode cX4_match 43 = .ok (.iload 4, 2) := by decide +kernel
theorem dX4_match_45 : decode cX4_match 45 = .ok (.if_icmp .le 5, 3) := by decide +kernel
theorem dX4_match_48 : decode cX4_match 48 = .ok (.iconst 0, 1) := by decide +kernel
theorem dX4_match_49 : decode cX4_match 49 = .ok (.ireturn, 1) := by decide +kernel
theorem dX4_match_50 : decode cX4_match 50 = .ok (.iinc 3 1, 3) := by decide +kernel
theorem dX4_match_53 : decode cX4_match 53 = .ok (.goto (-51), 3) := by decide +kernel
theorem dX4_match_56 : decode cX4_match 56 = .ok (.iconst 1, 1) := by decide +kernel
theorem dX4_match_57 : decode cX4_match 57 = .ok (.ireturn, 1) := by decide +kernel
set_option maxRecDepth 20000 in
theorem ggX4_countGuesses_Jx4a65c_size_8abf5 : GoodIn wsX4_countGuesses wsJx4a65c_size_8abf5 := goodIn_r _ [8, 9, 129, 130, 131] (by decide +kernel) (by decide +kernel)
set_option maxRecDepth 20000 in
theorem gX4_countGuesses_Jx4a65c_size_8abf5 : GoodIn wsX4_countGuesses (wsV RX4 54 RJx4a65c yJx4a65c_size_8abf5 wsJx4a65c_size_8abf5) := goodIn_app (goodIn_of _ (by decide +kernel)) ggX4_countGuesses_Jx4a65c_size_8abf5
set_option maxRecDepth 20000 in
theorem ggX4_countGuesses_Jx4a65c_get_915e3 : GoodIn wsX4_countGuesses wsJx4a65c_get_915e3 := goodIn_r _ [13, 9, 14, 15, 16, 17, 18, 19, 20, 21, 22, 23, 24, 7, 25, 26, 129, 130, 131] (by decide +kernel) (by decide +kernel)
set_option maxRecDepth 20000 in
theorem gX4_countGuesses_Jx4a65c_get_915e3 : GoodIn wsX4_countGuesses (wsV RX4 60 RJx4a65c yJx4a65c_get_915e3 wsJx4a65c_get_915e3) := goodIn_app (goodIn_of _ (by decide +kernel)) ggX4_countGuesses_Jx4a65c_get_915e3
set_option maxRecDepth 20000 in
theorem ggX4_countGuesses_X4_countUpward : GoodIn wsX4_countGuesses wsX4_countUpward := goodIn_ca (goodIn_r _ [31, 1, 32, 4, 5, 6, 7, 8, 9, 33, 34, 35, 30, 36, 37, 2, 10, 11, 12, 13, 14, 15, 16, 17, 18, 19, 20, 21, 22, 23, 24, 25, 26, 38, 39, 40, 41, 42, 43, 44, 45, 46, 47, 48, 49, 50, 51, 52, 53, 54, 55, 56, 57, 58, 59, 60, 61, 62, 63, 64, 65, 66, 67, 68, 69, 70, 71, 72, 73, 74, 75, 76, 77, 78, 79, 80, 81, 82, 83, 84, 85, 86, 87, 88, 89, 90, 91, 92, 93, 94, 95, 96, 97, 98, 99, 100, 101, 102, 103, 104, 105, 106, 107, 108, 109, 110, 111, 112, 113, 114, 115, 116, 117, 129, 130, 131, 132, 133, 134, 135, 136, 137, 138, 139, 118, 119, 120, 121, 122, 123, 124, 125, 126, 127, 128] (by decide +kernel) (by decide +kernel)) (goodIn_sub (fun _ h => List.mem_cons_of_mem _ (List.mem_append_right _ h)) (by decide +kernel))
set_option maxRecDepth 20000 in
theorem gX4_countGuesses_X4_countUpward : GoodIn wsX4_countGuesses (wsV RX4 68 RX4 yX4_countUpward wsX4_countUpward) := goodIn_app (goodIn_of _ (by decide +kernel)) ggX4_countGuesses_X4_countUpward
theorem dX4_countGuesses_0 : decode cX4_countGuesses 0 = .ok (.aload_n 0, 1) := by decide +kernel
theorem dX4_countGuesses_1 : decode cX4_countGuesses 1 = .ok (.iconst 0, 1) := by decide +kernel
theorem dX4_countGuesses_2 : decode cX4_countGuesses 2 = .ok (.putfield 50, 3) := by decide +kernel
theorem dX4_countGuesses_5 : decode cX4_countGuesses 5 = .ok (.iconst 1, 1) := by decide +kernel
theorem dX4_countGuesses_6 : decode cX4_countGuesses 6 = .ok (.istore 4, 2) := by decide +kernel
theorem dX4_countGuesses_8 : decode cX4_countGuesses 8 = .ok (.iload 4, 2) := by decide +kernel
theorem dX4_countGuesses_10 : decode cX4_countGuesses 10 = .ok (.iconst 3, 1) := by decide +kernel
theorem dX4_countGuesses_11 : decode cX4_countGuesses 11 = .ok (.if_icmp .gt 55, 3) := by decide +kernel
theorem dX4_countGuesses_14 : decode cX4_countGuesses 14 = .ok (.iconst 0, 1) := by decide +kernel
theorem dX4_countGuesses_15 : decode cX4_countGuesses 15 = .ok (.istore 5, 2) := by decide +kernel
theorem dX4_countGuesses_17 : decode cX4_countGuesses 17 = .ok (.iload 5, 2) := by decide +kernel
theorem dX4_countGuesses_19 : decode cX4_countGuesses 19 = .ok (.aload_n 1, 1) := by decide +kernel
theorem dX4_countGuesses_20 : decode cX4_countGuesses 20 = .ok (.invokevirtual 54, 3) := by decide +kernel
theorem dX4_countGuesses_23 : decode cX4_countGuesses 23 = .ok (.if_icmp .ge 37, 3) := by decide +kernel
theorem dX4_countGuesses_26 : decode cX4_countGuesses 26 = .ok (.aload_n 1, 1) := by decide +kernel
theorem dX4_countGuesses_27 : decode cX4_countGuesses 27 = .ok (.iload 5, 2) := by decide +kernel
theorem dX4_countGuesses_29 : decode cX4_countGuesses 29 = .ok (.invokevirtual 60, 3) := by decide +kernel
theorem dX4_countGuesses_32 : decode cX4_countGuesses 32 = .ok (.checkcast 21, 3) := by decide +kernel
theorem dX4_countGuesses_35 : decode cX4_countGuesses 35 = .ok (.getfield 64, 3) := by decide +kernel
theorem dX4_countGuesses_38 : decode cX4_countGuesses 38 = .ok (.bipush 115, 2) := by decide +kernel
theorem dX4_countGuesses_40 : decode cX4_countGuesses 40 = .ok (.if_icmp .ne 14, 3) := by decide +kernel
theorem dX4_countGuesses_43 : decode cX4_countGuesses 43 = .ok (.aload_n 0, 1) := by decide +kernel
theorem dX4_countGuesses_44 : decode cX4_countGuesses 44 = .ok (.aload_n 1, 1) := by decide +kernel
theorem dX4_countGuesses_45 : decode cX4_countGuesses 45 = .ok (.iload 4, 2) := by decide +kernel
theorem dX4_countGuesses_47 : decode cX4_countGuesses 47 = .ok (.iload 5, 2) := by decide +kernel
theorem dX4_countGuesses_49 : decode cX4_countGuesses 49 = .ok (.iload_n 2, 1) := by decide +kernel
theorem dX4_countGuesses_50 : decode cX4_countGuesses 50 = .ok (.iload_n 3, 1) := by decide +kernel
theorem dX4_countGuesses_51 : decode cX4_countGuesses 51 = .ok (.invokevirtual 68, 3) := by decide +kernel
theorem dX4_countGuesses_54 : decode cX4_countGuesses 54 = .ok (.iinc 5 1, 3) := by decide +kernel
theorem dX4_countGuesses_57 : decode cX4_countGuesses 57 = .ok (.goto (-40), 3) := by decide +kernel
theorem dX4_countGuesses_60 : decode cX4_countGuesses 60 = .ok (.iinc 4 1, 3) := by decide +kernel
theorem dX4_countGuesses_63 : decode cX4_countGuesses 63 = .ok (.goto (-55), 3) := by decide +kernel
theorem dX4_countGuesses_66 : decode cX4_countGuesses 66 = .ok (.aload_n 0, 1) := by decide +kernel
theorem dX4_countGuesses_67 : decode cX4_countGuesses 67 = .ok (.getfield 50, 3) := by decide +kernel
theorem dX4_countGuesses_70 : decode cX4_countGuesses 70 = .ok (.ireturn, 1) := by decide +kernel
set_option maxRecDepth 20000 in
theorem ggX4_countUpward_Jx4a65c_size_8abf5 : GoodIn wsX4_countUpward wsJx4a65c_size_8abf5 := goodIn_r _ [7, 8, 113, 114, 115] (by decide +kernel) (by decide +kernel)
set_option maxRecDepth 20000 in
theorem gX4_countUpward_Jx4a65c_size_8abf5 : GoodIn wsX4_countUpward (wsV RX4 54 RJx4a65c yJx4a65c_size_8abf5 wsJx4a65c_size_8abf5) := goodIn_app (goodIn_of _ (by decide +kernel)) ggX4_countUpward_Jx4a65c_size_8abf5
set_option maxRecDepth 20000 in
theorem ggX4_countUpward_X4_build : GoodIn wsX4_countUpward wsX4_build := goodIn_r _ [13, 2, 14, 15, 16, 17, 18, 6, 19, 8, 20, 21, 22, 23, 24, 25, 26, 27, 28, 29, 30, 31, 32, 33, 34, 35, 36, 37, 38, 39, 40, 41, 42, 43, 44, 45, 109, 110, 111, 112, 116, 117, 118, 113, 114, 115, 119, 120, 121, 122, 123, 124, 125, 126, 127, 128, 129, 130, 131, 132, 133, 134] (by decide +kernel) (by decide +kernel)
set_option maxRecDepth 20000 in
theorem gX4_countUpward_X4_build : GoodIn wsX4_countUpward (wsV RX4 72 RX4 yX4_build wsX4_build) := goodIn_app (goodIn_of _ (by decide +kernel)) ggX4_countUpward_X4_build
set_option maxRecDepth 20000 in
theorem ggX4_countUpward_X4_match : GoodIn wsX4_countUpward wsX4_match := goodIn_ca (goodIn_r _ [49, 50, 51, 52, 53, 54, 55, 56, 12, 57, 58, 59, 60, 61, 36, 62, 63, 64, 65, 66, 38, 39, 67, 68, 69, 70, 71, 72, 73, 74, 75, 76, 77, 78, 79, 80, 81, 82, 83, 84, 40, 85, 41, 86, 87, 88, 89, 90, 91, 92, 93, 94, 95, 96, 45, 97, 98, 99, 100, 101, 102, 103, 104, 105, 106, 107, 108, 109, 110, 111, 112, 116, 117, 118, 119, 120, 121, 122, 123, 124, 125, 126, 127, 128, 129, 130, 131, 132, 133, 134] (by decide +kernel) (by decide +kernel)) (goodIn_sub (fun _ h => List.mem_cons_of_mem _ (List.mem_append_right _ h)) (by decide +kernel))
set_option maxRecDepth 20000 in
theorem gX4_countUpward_X4_match : GoodIn wsX4_countUpward (wsV RX4 75 RX4 yX4_match wsX4_match) := goodIn_app (goodIn_of _ (by decide +kernel)) ggX4_countUpward_X4_match
theorem dX4_countUpward_0 : decode cX4_countUpward 0 = .ok (.iload_n 2, 1) := by decide +kernel
theorem dX4_countUpward_1 : decode cX4_countUpward 1 = .ok (.iconst 1, 1) := by decide +kernel
theorem dX4_countUpward_2 : decode cX4_countUpward 2 = .ok (.if_icmp .le 10, 3) := by decide +kernel
theorem dX4_countUpward_5 : decode cX4_countUpward 5 = .ok (.aload_n 1, 1) := by decide +kernel
theorem dX4_countUpward_6 : decode cX4_countUpward 6 = .ok (.invokevirtual 54, 3) := by decide +kernel
theorem dX4_countUpward_9 : decode cX4_countUpward 9 = .ok (.goto 4, 3) := by decide +kernel
theorem dX4_countUpward_12 : decode cX4_countUpward 12 = .ok (.iconst 1, 1) := by decide +kernel
theorem dX4_countUpward_13 : decode cX4_countUpward 13 = .ok (.istore 6, 2) := by decide +kernel
theorem dX4_countUpward_15 : decode cX4_countUpward 15 = .ok (.iload_n 2, 1) := by decide +kernel
theorem dX4_countUpward_16 : decode cX4_countUpward 16 = .ok (.iconst 2, 1) := by decide +kernel
theorem dX4_countUpward_17 : decode cX4_countUpward 17 = .ok (.if_icmp .le 10, 3) := by decide +kernel
theorem dX4_countUpward_20 : decode cX4_countUpward 20 = .ok (.aload_n 1, 1) := by decide +kernel
theorem dX4_countUpward_21 : decode cX4_countUpward 21 = .ok (.invokevirtual 54, 3) := by decide +kernel
theorem dX4_countUpward_24 : decode cX4_countUpward 24 = .ok (.goto 4, 3) := by decide +kernel
theorem dX4_countUpward_27 : decode cX4_countUpward 27 = .ok (.iconst 1, 1) := by decide +kernel
theorem dX4_countUpward_28 : decode cX4_countUpward 28 = .ok (.istore 7, 2) := by decide +kernel
theorem dX4_countUpward_30 : decode cX4_countUpward 30 = .ok (.iconst 0, 1) := by decide +kernel
theorem dX4_countUpward_31 : decode cX4_countUpward 31 = .ok (.istore 8, 2) := by decide +kernel
theorem dX4_countUpward_33 : decode cX4_countUpward 33 = .ok (.iload 8, 2) := by decide +kernel
theorem dX4_countUpward_35 : decode cX4_countUpward 35 = .ok (.iload 6, 2) := by decide +kernel
theorem dX4_countUpward_37 : decode cX4_countUpward 37 = .ok (.if_icmp .ge 68, 3) := by decide +kernel
theorem dX4_countUpward_40 : decode cX4_countUpward 40 = .ok (.iconst 0, 1) := by decide +kernel
theorem dX4_countUpward_41 : decode cX4_countUpward 41 = .ok (.istore 9, 2) := by decide +kernel
theorem dX4_countUpward_43 : decode cX4_countUpward 43 = .ok (.iload 9, 2) := by decide +kernel
theorem dX4_countUpward_45 : decode cX4_countUpward 45 = .ok (.iload 7, 2) := by decide +kernel
theorem dX4_countUpward_47 : decode cX4_countUpward 47 = .ok (.if_icmp .ge 52, 3) := by decide +kernel
theorem dX4_countUpward_50 : decode cX4_countUpward 50 = .ok (.aload_n 0, 1) := by decide +kernel
theorem dX4_countUpward_51 : decode cX4_countUpward 51 = .ok (.getfield 50, 3) := by decide +kernel
theorem dX4_countUpward_54 : decode cX4_countUpward 54 = .ok (.iload 5, 2) := by decide +kernel
theorem dX4_countUpward_56 : decode cX4_countUpward 56 = .ok (.if_icmp .gt 43, 3) := by decide +kernel
theorem dX4_countUpward_59 : decode cX4_countUpward 59 = .ok (.aload_n 0, 1) := by decide +kernel
theorem dX4_countUpward_60 : decode cX4_countUpward 60 = .ok (.aload_n 1, 1) := by decide +kernel
theorem dX4_countUpward_61 : decode cX4_countUpward 61 = .ok (.iload_n 2, 1) := by decide +kernel
theorem dX4_countUpward_62 : decode cX4_countUpward 62 = .ok (.iload_n 3, 1) := by decide +kernel
theorem dX4_countUpward_63 : decode cX4_countUpward 63 = .ok (.iload 8, 2) := by decide +kernel
theorem dX4_countUpward_65 : decode cX4_countUpward 65 = .ok (.iload 9, 2) := by decide +kernel
theorem dX4_countUpward_67 : decode cX4_countUpward 67 = .ok (.invokevirtual 72, 3) := by decide +kernel
theorem dX4_countUpward_70 : decode cX4_countUpward 70 = .ok (.aload_n 0, 1) := by decide +kernel
theorem dX4_countUpward_71 : decode cX4_countUpward 71 = .ok (.iload 4, 2) := by decide +kernel
theorem dX4_countUpward_73 : decode cX4_countUpward 73 = .ok (.aload_n 0, 1) := by decide +kernel
theorem dX4_countUpward_74 : decode cX4_countUpward 74 = .ok (.getfield 29, 3) := by decide +kernel
theorem dX4_countUpward_77 : decode cX4_countUpward 77 = .ok (.invokevirtual 75, 3) := by decide +kernel
theorem dX4_countUpward_80 : decode cX4_countUpward 80 = .ok (.ifCond .eq 13, 3) := by decide +kernel
theorem dX4_countUpward_83 : decode cX4_countUpward 83 = .ok (.aload_n 0, 1) := by decide +kernel
theorem dX4_countUpward_84 : decode cX4_countUpward 84 = .ok (.dup, 1) := by decide +kernel
theorem dX4_countUpward_85 : decode cX4_countUpward 85 = .ok (.getfield 50, 3) := by decide +kernel
theorem dX4_countUpward_88 : decode cX4_countUpward 88 = .ok (.iconst 1, 1) := by decide +kernel
theorem dX4_countUpward_89 : decode cX4_countUpward 89 = .ok (.iadd, 1) := by decide +kernel
theorem dX4_countUpward_90 : decode cX4_countUpward 90 = .ok (.putfield 50, 3) := by decide +kernel
theorem dX4_countUpward_93 : decode cX4_countUpward 93 = .ok (.iinc 9 1, 3) := by decide +kernel
theorem dX4_countUpward_96 : decode cX4_countUpward 96 = .ok (.goto (-53), 3) := by decide +kernel
theorem dX4_countUpward_99 : decode cX4_countUpward 99 = .ok (.iinc 8 1, 3) := by decide +kernel
theorem dX4_countUpward_102 : decode cX4_countUpward 102 = .ok (.goto (-69), 3) := by decide +kernel
theorem dX4_countUpward_105 : decode cX4_countUpward 105 = .ok (.return_, 1) := by decide +kernel
set_option maxRecDepth 20000 in
theorem ggX4_build_Jx4a65c_get_915e3 : GoodIn wsX4_build wsJx4a65c_get_915e3 := goodIn_r _ [8, 9, 10, 11, 12, 13, 14, 15, 16, 17, 18, 19, 20, 7, 21, 22, 43, 44, 45] (by decide +kernel) (by decide +kernel)
set_option maxRecDepth 20000 in
theorem gX4_build_Jx4a65c_get_915e3 : GoodIn wsX4_build (wsV RX4 60 RJx4a65c yJx4a65c_get_915e3 wsJx4a65c_get_915e3) := goodIn_app (goodIn_of _ (by decide +kernel)) ggX4_build_Jx4a65c_get_915e3
set_option maxRecDepth 20000 in
theorem ggX4_build_X8_put : GoodIn wsX4_build wsX8_put := goodIn_r _ [27, 28, 29, 30, 31, 32, 33, 34, 35, 40, 41, 42, 46, 47, 48, 49, 50, 51, 52, 53, 54, 55, 56, 57, 58, 59, 60, 61] (by decide +kernel) (by decide +kernel)
set_option maxRecDepth 20000 in
theorem gX4_build_X8_put : GoodIn wsX4_build (wsV RX4 81 RX8 yX8_put wsX8_put) := goodIn_app (goodIn_of _ (by decide +kernel)) ggX4_build_X8_put
theorem dX4_build_0 : decode cX4_build 0 = .ok (.aload_n 0, 1) := by decide +kernel
theorem dX4_build_1 : decode cX4_build 1 = .ok (.getfield 29, 3) := by decide +kernel
theorem dX4_build_4 : decode cX4_build 4 = .ok (.iconst 0, 1) := by decide +kernel
theorem dX4_build_5 : decode cX4_build 5 = .ok (.putfield 79, 3) := by decide +kernel
theorem dX4_build_8 : decode cX4_build 8 = .ok (.aload_n 0, 1) := by decide +kernel
theorem dX4_build_9 : decode cX4_build 9 = .ok (.getfield 29, 3) := by decide +kernel
theorem dX4_build_12 : decode cX4_build 12 = .ok (.aload_n 1, 1) := by decide +kernel
theorem dX4_build_13 : decode cX4_build 13 = .ok (.iload_n 3, 1) := by decide +kernel
theorem dX4_build_14 : decode cX4_build 14 = .ok (.invokevirtual 60, 3) := by decide +kernel
theorem dX4_build_17 : decode cX4_build 17 = .ok (.checkcast 21, 3) := by decide +kernel
theorem dX4_build_20 : decode cX4_build 20 = .ok (.bipush 20, 2) := by decide +kernel
theorem dX4_build_22 : decode cX4_build 22 = .ok (.sipush 1600, 3) := by decide +kernel
theorem dX4_build_25 : decode cX4_build 25 = .ok (.invokevirtual 81, 3) := by decide +kernel
theorem dX4_build_28 : decode cX4_build 28 = .ok (.iload_n 2, 1) := by decide +kernel
theorem dX4_build_29 : decode cX4_build 29 = .ok (.iconst 1, 1) := by decide +kernel
theorem dX4_build_30 : decode cX4_build 30 = .ok (.if_icmp .le 24, 3) := by decide +kernel
theorem dX4_build_33 : decode cX4_build 33 = .ok (.aload_n 0, 1) := by decide +kernel
theorem dX4_build_34 : decode cX4_build 34 = .ok (.getfield 29, 3) := by decide +kernel
theorem dX4_build_37 : decode cX4_build 37 = .ok (.aload_n 1, 1) := by decide +kernel
theorem dX4_build_38 : decode cX4_build 38 = .ok (.iload 4, 2) := by decide +kernel
theorem dX4_build_40 : decode cX4_build 40 = .ok (.invokevirtual 60, 3) := by decide +kernel
theorem dX4_build_43 : decode cX4_build 43 = .ok (.checkcast 21, 3) := by decide +kernel
theorem dX4_build_46 : decode cX4_build 46 = .ok (.bipush 20, 2) := by decide +kernel
theorem dX4_build_48 : decode cX4_build 48 = .ok (.sipush 1600, 3) := by decide +kernel
theorem dX4_build_51 : decode cX4_build 51 = .ok (.invokevirtual 81, 3) := by decide +kernel
theorem dX4_build_54 : decode cX4_build 54 = .ok (.iload_n 2, 1) := by decide +kernel
theorem dX4_build_55 : decode cX4_build 55 = .ok (.iconst 2, 1) := by decide +kernel
theorem dX4_build_56 : decode cX4_build 56 = .ok (.if_icmp .le 24, 3) := by decide +kernel
theorem dX4_build_59 : decode cX4_build 59 = .ok (.aload_n 0, 1) := by decide +kernel
theorem dX4_build_60 : decode cX4_build 60 = .ok (.getfield 29, 3) := by decide +kernel
theorem dX4_build_63 : decode cX4_build 63 = .ok (.aload_n 1, 1) := by decide +kernel
theorem dX4_build_64 : decode cX4_build 64 = .ok (.iload 5, 2) := by decide +kernel
theorem dX4_build_66 : decode cX4_build 66 = .ok (.invokevirtual 60, 3) := by decide +kernel
theorem dX4_build_69 : decode cX4_build 69 = .ok (.checkcast 21, 3) := by decide +kernel
theorem dX4_build_72 : decode cX4_build 72 = .ok (.bipush 20, 2) := by decide +kernel
theorem dX4_build_74 : decode cX4_build 74 = .ok (.sipush 1600, 3) := by decide +kernel
theorem dX4_build_77 : decode cX4_build 77 = .ok (.invokevirtual 81, 3) := by decide +kernel
theorem dX4_build_80 : decode cX4_build 80 = .ok (.return_, 1) := by decide +kernel
set_option maxRecDepth 20000 in
theorem ggX5_init_X9_init : GoodIn wsX5_init wsX9_init := goodIn_r _ [17, 18, 2, 3, 19, 20, 39, 40, 41, 42, 43, 44, 45, 46, 47, 48, 49] (by decide +kernel) (by decide +kernel)
set_option maxRecDepth 20000 in
theorem gX5_init_X9_init : GoodIn wsX5_init (wsX9_init) := ggX5_init_X9_init
set_option maxRecDepth 20000 in
theorem ggX5_init_X8_init : GoodIn wsX5_init wsX8_init := goodIn_r _ [23, 24, 2, 3, 25, 26, 27, 28, 29, 30, 31, 32, 33, 50, 51, 52, 53, 54, 55, 56, 57] (by decide +kernel) (by decide +kernel)
set_option maxRecDepth 20000 in
theorem gX5_init_X8_init : GoodIn wsX5_init (wsX8_init) := ggX5_init_X8_init
theorem dX5_init_0 : decode cX5_init 0 = .ok (.aload_n 0, 1) := by decide +kernel
theorem dX5_init_1 : decode cX5_init 1 = .ok (.invokespecial 3, 3) := by decide +kernel
theorem dX5_init_4 : decode cX5_init 4 = .ok (.aload_n 0, 1) := by decide +kernel
theorem dX5_init_5 : decode cX5_init 5 = .ok (.bipush 48, 2) := by decide +kernel
theorem dX5_init_7 : decode cX5_init 7 = .ok (.anewarray 9, 3) := by decide +kernel
theorem dX5_init_10 : decode cX5_init 10 = .ok (.putfield 11, 3) := by decide +kernel
theorem dX5_init_13 : decode cX5_init 13 = .ok (.aload_n 0, 1) := by decide +kernel
theorem dX5_init_14 : decode cX5_init 14 = .ok (.bipush 40, 2) := by decide +kernel
theorem dX5_init_16 : decode cX5_init 16 = .ok (.newarray .int, 2) := by decide +kernel
theorem dX5_init_18 : decode cX5_init 18 = .ok (.putfield 17, 3) := by decide +kernel
theorem dX5_init_21 : decode cX5_init 21 = .ok (.aload_n 0, 1) := by decide +kernel
theorem dX5_init_22 : decode cX5_init 22 = .ok (.bipush 40, 2) := by decide +kernel
theorem dX5_init_24 : decode cX5_init 24 = .ok (.newarray .int, 2) := by decide +kernel
theorem dX5_init_26 : decode cX5_init 26 = .ok (.putfield 21, 3) := by decide +kernel
theorem dX5_init_29 : decode cX5_init 29 = .ok (.aload_n 0, 1) := by decide +kernel
theorem dX5_init_30 : decode cX5_init 30 = .ok (.sipush 1600, 3) := by decide +kernel
theorem dX5_init_33 : decode cX5_init 33 = .ok (.putfield 24, 3) := by decide +kernel
theorem dX5_init_36 : decode cX5_init 36 = .ok (.new 28, 3) := by decide +kernel
theorem dX5_init_39 : decode cX5_init 39 = .ok (.dup, 1) := by decide +kernel
theorem dX5_init_40 : decode cX5_init 40 = .ok (.iconst 0, 1) := by decide +kernel
theorem dX5_init_41 : decode cX5_init 41 = .ok (.bipush 115, 2) := by decide +kernel
theorem dX5_init_43 : decode cX5_init 43 = .ok (.invokespecial 30, 3) := by decide +kernel
theorem dX5_init_46 : decode cX5_init 46 = .ok (.astore_n 1, 1) := by decide +kernel
theorem dX5_init_47 : decode cX5_init 47 = .ok (.iconst 0, 1) := by decide +kernel
theorem dX5_init_48 : decode cX5_init 48 = .ok (.istore_n 2, 1) := by decide +kernel
theorem dX5_init_49 : decode cX5_init 49 = .ok (.iload_n 2, 1) := by decide +kernel
theorem dX5_init_50 : decode cX5_init 50 = .ok (.bipush 48, 2) := by decide +kernel
theorem dX5_init_52 : decode cX5_init 52 = .ok (.if_icmp .ge 23, 3) := by decide +kernel
theorem dX5_init_55 : decode cX5_init 55 = .ok (.aload_n 0, 1) := by decide +kernel
theorem dX5_init_56 : decode cX5_init 56 = .ok (.getfield 11, 3) := by decide +kernel
theorem dX5_init_59 : decode cX5_init 59 = .ok (.iload_n 2, 1) := by decide +kernel
theorem dX5_init_60 : decode cX5_init 60 = .ok (.new 9, 3) := by decide +kernel
theorem dX5_init_63 : decode cX5_init 63 = .ok (.dup, 1) := by decide +kernel
theorem dX5_init_64 : decode cX5_init 64 = .ok (.aload_n 1, 1) := by decide +kernel
theorem dX5_init_65 : decode cX5_init 65 = .ok (.invokespecial 33, 3) := by decide +kernel
theorem dX5_init_68 : decode cX5_init 68 = .ok (.aastore, 1) := by decide +kernel
theorem dX5_init_69 : decode cX5_init 69 = .ok (.iinc 2 1, 3) := by decide +kernel
theorem dX5_init_72 : decode cX5_init 72 = .ok (.goto (-23), 3) := by decide +kernel
theorem dX5_init_75 : decode cX5_init 75 = .ok (.return_, 1) := by decide +kernel
set_option maxRecDepth 20000 in
theorem ggX5_at_X11_placeOf : GoodIn wsX5_at wsX11_placeOf := goodIn_r _ [4] (by decide +kernel) (by decide +kernel)
set_option maxRecDepth 20000 in
theorem gX5_at_X11_placeOf_n36 : GoodIn wsX5_at (wsX11_placeOf) := ggX5_at_X11_placeOf
theorem dX5_at_0 : decode cX5_at 0 = .ok (.aload_n 0, 1) := by decide +kernel
theorem dX5_at_1 : decode cX5_at 1 = .ok (.getfield 11, 3) := by decide +kernel
theorem dX5_at_4 : decode cX5_at 4 = .ok (.iload_n 1, 1) := by decide +kernel
theorem dX5_at_5 : decode cX5_at 5 = .ok (.iload_n 2, 1) := by decide +kernel
theorem dX5_at_6 : decode cX5_at 6 = .ok (.invokestatic 36, 3) := by decide +kernel
theorem dX5_at_9 : decode cX5_at 9 = .ok (.aaload, 1) := by decide +kernel
theorem dX5_at_10 : decode cX5_at 10 = .ok (.areturn, 1) := by decide +kernel
theorem dX5_scratched_0 : decode cX5_scratched 0 = .ok (.aload_n 0, 1) := by decide +kernel
theorem dX5_scratched_1 : decode cX5_scratched 1 = .ok (.getfield 11, 3) := by decide +kernel
theorem dX5_scratched_4 : decode cX5_scratched 4 = .ok (.aload_n 0, 1) := by decide +kernel
theorem dX5_scratched_5 : decode cX5_scratched 5 = .ok (.getfield 17, 3) := by decide +kernel
theorem dX5_scratched_8 : decode cX5_scratched 8 = .ok (.iload_n 1, 1) := by decide +kernel
theorem dX5_scratched_9 : decode cX5_scratched 9 = .ok (.iaload, 1) := by decide +kernel
theorem dX5_scratched_10 : decode cX5_scratched 10 = .ok (.aaload, 1) := by decide +kernel
theorem dX5_scratched_11 : decode cX5_scratched 11 = .ok (.areturn, 1) := by decide +kernel
theorem dX5_areAtOnePlace_0 : decode cX5_areAtOnePlace 0 = .ok (.aload_n 0, 1) := by decide +kernel
theorem dX5_areAtOnePlace_1 : decode cX5_areAtOnePlace 1 = .ok (.getfield 17, 3) := by decide +kernel
theorem dX5_areAtOnePlace_4 : decode cX5_areAtOnePlace 4 = .ok (.iload_n 1, 1) := by decide +kernel
theorem dX5_areAtOnePlace_5 : decode cX5_areAtOnePlace 5 = .ok (.iaload, 1) := by decide +kernel
theorem dX5_areAtOnePlace_6 : decode cX5_areAtOnePlace 6 = .ok (.aload_n 0, 1) := by decide +kernel
theorem dX5_areAtOnePlace_7 : decode cX5_areAtOnePlace 7 = .ok (.getfield 17, 3) := by decide +kernel
theorem dX5_areAtOnePlace_10 : decode cX5_areAtOnePlace 10 = .ok (.iload_n 2, 1) := by decide +kernel
theorem dX5_areAtOnePlace_11 : decode cX5_areAtOnePlace 11 = .ok (.iaload, 1) := by decide +kernel
theorem dX5_areAtOnePlace_12 : decode cX5_areAtOnePlace 12 = .ok (.if_icmp .ne 7, 3) := by decide +kernel
theorem dX5_areAtOnePlace_15 : decode cX5_areAtOnePlace 15 = .ok (.iconst 1, 1) := by decide +kernel
theorem dX5_areAtOnePlace_16 : decode cX5_areAtOnePlace 16 = .ok (.goto 4, 3) := by decide +kernel
theorem dX5_areAtOnePlace_19 : decode cX5_areAtOnePlace 19 = .ok (.iconst 0, 1) := by decide +kernel
theorem dX5_areAtOnePlace_20 : decode cX5_areAtOnePlace 20 = .ok (.ireturn, 1) := by decide +kernel
set_option maxRecDepth 20000 in
theorem ggX5_see_X5_raking : GoodIn wsX5_see wsX5_raking := goodIn_ca (goodIn_r _ [5, 6, 7, 8, 9, 10, 11, 12, 13, 14, 15, 4, 16, 17, 18, 19, 20, 21, 22, 23, 24, 25, 26, 27, 28, 29, 30, 78, 79, 80, 81, 82, 83, 84, 85, 86, 87, 88, 89, 90] (by decide +kernel) (by decide +kernel)) (goodIn_sub (fun _ h => List.mem_cons_of_mem _ (List.mem_append_right _ h)) (by decide +kernel))
set_option maxRecDepth 20000 in
theorem gX5_see_X5_raking : GoodIn wsX5_see (wsV RX5 40 RX5 yX5_raking wsX5_raking) := goodIn_app (goodIn_of _ (by decide +kernel)) ggX5_see_X5_raking
set_option maxRecDepth 20000 in
theorem ggX5_see_X5_at : GoodIn wsX5_see wsX5_at := goodIn_r _ [16, 17, 18, 19, 20, 78, 79, 80, 81, 82] (by decide +kernel) (by decide +kernel)
set_option maxRecDepth 20000 in
theorem gX5_see_X5_at : GoodIn wsX5_see (wsV RX5 43 RX5 yX5_at wsX5_at) := goodIn_app (goodIn_of _ (by decide +kernel)) ggX5_see_X5_at
set_option maxRecDepth 20000 in
theorem ggX5_see_X8_see : GoodIn wsX5_see wsX8_see := goodIn_r _ [34, 35, 36, 37, 24, 38, 26, 27, 39, 40, 41, 42, 43, 44, 45, 46, 47, 48, 49, 50, 51, 52, 53, 54, 55, 56, 57, 58, 28, 59, 60, 61, 62, 63, 64, 65, 66, 67, 68, 69, 70, 71, 72, 8, 73, 74, 75, 76, 77, 83, 84, 85, 86, 87, 88, 89, 90, 91, 92, 93, 94, 95, 96, 97, 98, 99, 100, 101] (by decide +kernel) (by decide +kernel)
set_option maxRecDepth 20000 in
theorem gX5_see_X8_see : GoodIn wsX5_see (wsV RX5 47 RX8 yX8_see wsX8_see) := goodIn_app (goodIn_of _ (by decide +kernel)) ggX5_see_X8_see
theorem dX5_see_0 : decode cX5_see 0 = .ok (.iload_n 1, 1) := by decide +kernel
theorem dX5_see_1 : decode cX5_see 1 = .ok (.iconst 4, 1) := by decide +kernel
theorem dX5_see_2 : decode cX5_see 2 = .ok (.if_icmp .ne 12, 3) := by decide +kernel
theorem dX5_see_5 : decode cX5_see 5 = .ok (.aload_n 0, 1) := by decide +kernel
theorem dX5_see_6 : decode cX5_see 6 = .ok (.iload_n 2, 1) := by decide +kernel
theorem dX5_see_7 : decode cX5_see 7 = .ok (.iload_n 3, 1) := by decide +kernel
theorem dX5_see_8 : decode cX5_see 8 = .ok (.invokevirtual 40, 3) := by decide +kernel
theorem dX5_see_11 : decode cX5_see 11 = .ok (.goto 13, 3) := by decide +kernel
theorem dX5_see_14 : decode cX5_see 14 = .ok (.aload_n 0, 1) := by decide +kernel
theorem dX5_see_15 : decode cX5_see 15 = .ok (.iload_n 2, 1) := by decide +kernel
theorem dX5_see_16 : decode cX5_see 16 = .ok (.iload_n 3, 1) := by decide +kernel
theorem dX5_see_17 : decode cX5_see 17 = .ok (.invokevirtual 43, 3) := by decide +kernel
theorem dX5_see_20 : decode cX5_see 20 = .ok (.iload_n 1, 1) := by decide +kernel
theorem dX5_see_21 : decode cX5_see 21 = .ok (.invokevirtual 47, 3) := by decide +kernel
theorem dX5_see_24 : decode cX5_see 24 = .ok (.ireturn, 1) := by decide +kernel
set_option maxRecDepth 20000 in
theorem ggX5_raking_X5_at : GoodIn wsX5_raking wsX5_at := goodIn_r _ [12, 13, 14, 15, 16, 27, 28, 29, 30, 31] (by decide +kernel) (by decide +kernel)
set_option maxRecDepth 20000 in
theorem gX5_raking_X5_at : GoodIn wsX5_raking (wsV RX5 43 RX5 yX5_at wsX5_at) := goodIn_app (goodIn_of _ (by decide +kernel)) ggX5_raking_X5_at
set_option maxRecDepth 20000 in
theorem ggX5_raking_X8_height : GoodIn wsX5_raking wsX8_height := goodIn_r _ [21, 22, 23, 24, 32, 33, 34, 35, 36, 37, 38, 39] (by decide +kernel) (by decide +kernel)
set_option maxRecDepth 20000 in
theorem gX5_raking_X8_height : GoodIn wsX5_raking (wsV RX5 51 RX8 yX8_height wsX8_height) := goodIn_app (goodIn_of _ (by decide +kernel)) ggX5_raking_X8_height
set_option maxRecDepth 20000 in
theorem ggX5_raking_X11_isPlace : GoodIn wsX5_raking wsX11_isPlace := goodIn_r _ [26] (by decide +kernel) (by decide +kernel)
set_option maxRecDepth 20000 in
theorem gX5_raking_X11_isPlace_n61 : GoodIn wsX5_raking (wsX11_isPlace) := ggX5_raking_X11_isPlace
theorem dX5_raking_0 : decode cX5_raking 0 = .ok (.aload_n 0, 1) := by decide +kernel
theorem dX5_raking_1 : decode cX5_raking 1 = .ok (.iload_n 1, 1) := by decide +kernel
theorem dX5_raking_2 : decode cX5_raking 2 = .ok (.iload_n 2, 1) := by decide +kernel
theorem dX5_raking_3 : decode cX5_raking 3 = .ok (.invokevirtual 43, 3) := by decide +kernel
theorem dX5_raking_6 : decode cX5_raking 6 = .ok (.invokevirtual 51, 3) := by decide +kernel
theorem dX5_raking_9 : decode cX5_raking 9 = .ok (.istore_n 3, 1) := by decide +kernel
theorem dX5_raking_10 : decode cX5_raking 10 = .ok (.iconst 0, 1) := by decide +kernel
theorem dX5_raking_11 : decode cX5_raking 11 = .ok (.istore 4, 2) := by decide +kernel
theorem dX5_raking_13 : decode cX5_raking 13 = .ok (.iconst 0, 1) := by decide +kernel
theorem dX5_raking_14 : decode cX5_raking 14 = .ok (.istore 5, 2) := by decide +kernel
theorem dX5_raking_16 : decode cX5_raking 16 = .ok (.iload 5, 2) := by decide +kernel
theorem dX5_raking_18 : decode cX5_raking 18 = .ok (.iconst 4, 1) := by decide +kernel
theorem dX5_raking_19 : decode cX5_raking 19 = .ok (.if_icmp .ge 70, 3) := by decide +kernel
theorem dX5_raking_22 : decode cX5_raking 22 = .ok (.iload_n 1, 1) := by decide +kernel
theorem dX5_raking_23 : decode cX5_raking 23 = .ok (.getstatic 55, 3) := by decide +kernel
theorem dX5_raking_26 : decode cX5_raking 26 = .ok (.iload 5, 2) := by decide +kernel
theorem dX5_raking_28 : decode cX5_raking 28 = .ok (.iaload, 1) := by decide +kernel
theorem dX5_raking_29 : decode cX5_raking 29 = .ok (.iadd, 1) := by decide +kernel
theorem dX5_raking_30 : decode cX5_raking 30 = .ok (.iload_n 2, 1) := by decide +kernel
theorem dX5_raking_31 : decode cX5_raking 31 = .ok (.getstatic 58, 3) := by decide +kernel
theorem dX5_raking_34 : decode cX5_raking 34 = .ok (.iload 5, 2) := by decide +kernel
theorem dX5_raking_36 : decode cX5_raking 36 = .ok (.iaload, 1) := by decide +kernel
theorem dX5_raking_37 : decode cX5_raking 37 = .ok (.iadd, 1) := by decide +kernel
theorem dX5_raking_38 : decode cX5_raking 38 = .ok (.invokestatic 61, 3) := by decide +kernel
theorem dX5_raking_41 : decode cX5_raking 41 = .ok (.ifCond .eq 42, 3) := by decide +kernel
theorem dX5_raking_44 : decode cX5_raking 44 = .ok (.aload_n 0, 1) := by decide +kernel
theorem dX5_raking_45 : decode cX5_raking 45 = .ok (.iload_n 1, 1) := by decide +kernel
theorem dX5_raking_46 : decode cX5_raking 46 = .ok (.getstatic 55, 3) := by decide +kernel
theorem dX5_raking_49 : decode cX5_raking 49 = .ok (.iload 5, 2) := by decide +kernel
theorem dX5_raking_51 : decode cX5_raking 51 = .ok (.iaload, 1) := by decide +kernel
theorem dX5_raking_52 : decode cX5_raking 52 = .ok (.iadd, 1) := by decide +kernel
theorem dX5_raking_53 : decode cX5_raking 53 = .ok (.iload_n 2, 1) := by decide +kernel
theorem dX5_raking_54 : decode cX5_raking 54 = .ok (.getstatic 58, 3) := by decide +kernel
theorem dX5_raking_57 : decode cX5_raking 57 = .ok (.iload 5, 2) := by decide +kernel
theorem dX5_raking_59 : decode cX5_raking 59 = .ok (.iaload, 1) := by decide +kernel
theorem dX5_raking_60 : decode cX5_raking 60 = .ok (.iadd, 1) := by decide +kernel
theorem dX5_raking_61 : decode cX5_raking 61 = .ok (.invokevirtual 43, 3) := by decide +kernel
theorem dX5_raking_64 : decode cX5_raking 64 = .ok (.invokevirtual 51, 3) := by decide +kernel
theorem dX5_raking_67 : decode cX5_raking 67 = .ok (.iload_n 3, 1) := by decide +kernel
theorem dX5_raking_68 : decode cX5_raking 68 = .ok (.isub, 1) := by decide +kernel
theorem dX5_raking_69 : decode cX5_raking 69 = .ok (.istore 6, 2) := by decide +kernel
theorem dX5_raking_71 : decode cX5_raking 71 = .ok (.iload 4, 2) := by decide +kernel
theorem dX5_raking_73 : decode cX5_raking 73 = .ok (.iload 6, 2) := by decide +kernel
theorem dX5_raking_75 : decode cX5_raking 75 = .ok (.invokestatic 65, 3) := by decide +kernel
theorem dX5_raking_78 : decode cX5_raking 78 = .ok (.invokestatic 70, 3) := by decide +kernel
theorem dX5_raking_81 : decode cX5_raking 81 = .ok (.istore 4, 2) := by decide +kernel
theorem dX5_raking_83 : decode cX5_raking 83 = .ok (.iinc 5 1, 3) := by decide +kernel
theorem dX5_raking_86 : decode cX5_raking 86 = .ok (.goto (-70), 3) := by decide +kernel
theorem dX5_raking_89 : decode cX5_raking 89 = .ok (.iload 4, 2) := by decide +kernel
theorem dX5_raking_91 : decode cX5_raking 91 = .ok (.ireturn, 1) := by decide +kernel
set_option maxRecDepth 20000 in
theorem ggX5_missing_X11_isPlace : GoodIn wsX5_missing wsX11_isPlace := goodIn_r _ [10] (by decide +kernel) (by decide +kernel)
set_option maxRecDepth 20000 in
theorem gX5_missing_X11_isPlace_n61 : GoodIn wsX5_missing (wsX11_isPlace) := ggX5_missing_X11_isPlace
set_option maxRecDepth 20000 in
theorem ggX5_missing_X5_at : GoodIn wsX5_missing wsX5_at := goodIn_r _ [15, 16, 17, 9, 18, 27, 28, 29, 30, 31] (by decide +kernel) (by decide +kernel)
set_option maxRecDepth 20000 in
theorem gX5_missing_X5_at : GoodIn wsX5_missing (wsV RX5 43 RX5 yX5_at wsX5_at) := goodIn_app (goodIn_of _ (by decide +kernel)) ggX5_missing_X5_at
set_option maxRecDepth 20000 in
theorem ggX5_missing_X8_height : GoodIn wsX5_missing wsX8_height := goodIn_r _ [23, 24, 25, 26, 32, 33, 34, 35, 36, 37, 38, 39] (by decide +kernel) (by decide +kernel)
set_option maxRecDepth 20000 in
theorem gX5_missing_X8_height : GoodIn wsX5_missing (wsV RX5 51 RX8 yX8_height wsX8_height) := goodIn_app (goodIn_of _ (by decide +kernel)) ggX5_missing_X8_height
theorem dX5_missing_0 : decode cX5_missing 0 = .ok (.iconst 0, 1) := by decide +kernel
theorem dX5_missing_1 : decode cX5_missing 1 = .ok (.istore_n 3, 1) := by decide +kernel
theorem dX5_missing_2 : decode cX5_missing 2 = .ok (.iconst 0, 1) := by decide +kernel
theorem dX5_missing_3 : decode cX5_missing 3 = .ok (.istore 4, 2) := by decide +kernel
theorem dX5_missing_5 : decode cX5_missing 5 = .ok (.iload 4, 2) := by decide +kernel
theorem dX5_missing_7 : decode cX5_missing 7 = .ok (.iconst 4, 1) := by decide +kernel
theorem dX5_missing_8 : decode cX5_missing 8 = .ok (.if_icmp .ge 59, 3) := by decide +kernel
theorem dX5_missing_11 : decode cX5_missing 11 = .ok (.iload_n 1, 1) := by decide +kernel
theorem dX5_missing_12 : decode cX5_missing 12 = .ok (.getstatic 55, 3) := by decide +kernel
theorem dX5_missing_15 : decode cX5_missing 15 = .ok (.iload 4, 2) := by decide +kernel
theorem dX5_missing_17 : decode cX5_missing 17 = .ok (.iaload, 1) := by decide +kernel
theorem dX5_missing_18 : decode cX5_missing 18 = .ok (.iadd, 1) := by decide +kernel
theorem dX5_missing_19 : decode cX5_missing 19 = .ok (.iload_n 2, 1) := by decide +kernel
theorem dX5_missing_20 : decode cX5_missing 20 = .ok (.getstatic 58, 3) := by decide +kernel
theorem dX5_missing_23 : decode cX5_missing 23 = .ok (.iload 4, 2) := by decide +kernel
theorem dX5_missing_25 : decode cX5_missing 25 = .ok (.iaload, 1) := by decide +kernel
theorem dX5_missing_26 : decode cX5_missing 26 = .ok (.iadd, 1) := by decide +kernel
theorem dX5_missing_27 : decode cX5_missing 27 = .ok (.invokestatic 61, 3) := by decide +kernel
theorem dX5_missing_30 : decode cX5_missing 30 = .ok (.ifCond .eq 31, 3) := by decide +kernel
theorem dX5_missing_33 : decode cX5_missing 33 = .ok (.iload_n 3, 1) := by decide +kernel
theorem dX5_missing_34 : decode cX5_missing 34 = .ok (.aload_n 0, 1) := by decide +kernel
theorem dX5_missing_35 : decode cX5_missing 35 = .ok (.iload_n 1, 1) := by decide +kernel
theorem dX5_missing_36 : decode cX5_missing 36 = .ok (.getstatic 55, 3) := by decide +kernel
theorem dX5_missing_39 : decode cX5_missing 39 = .ok (.iload 4, 2) := by decide +kernel
theorem dX5_missing_41 : decode cX5_missing 41 = .ok (.iaload, 1) := by decide +kernel
theorem dX5_missing_42 : decode cX5_missing 42 = .ok (.iadd, 1) := by decide +kernel
theorem dX5_missing_43 : decode cX5_missing 43 = .ok (.iload_n 2, 1) := by decide +kernel
theorem dX5_missing_44 : decode cX5_missing 44 = .ok (.getstatic 58, 3) := by decide +kernel
theorem dX5_missing_47 : decode cX5_missing 47 = .ok (.iload 4, 2) := by decide +kernel
theorem dX5_missing_49 : decode cX5_missing 49 = .ok (.iaload, 1) := by decide +kernel
theorem dX5_missing_50 : decode cX5_missing 50 = .ok (.iadd, 1) := by decide +kernel
theorem dX5_missing_51 : decode cX5_missing 51 = .ok (.invokevirtual 43, 3) := by decide +kernel
theorem dX5_missing_54 : decode cX5_missing 54 = .ok (.invokevirtual 51, 3) := by decide +kernel
theorem dX5_missing_57 : decode cX5_missing 57 = .ok (.invokestatic 70, 3) := by decide +kernel
theorem dX5_missing_60 : decode cX5_missing 60 = .ok (.istore_n 3, 1) := by decide +kernel
theorem dX5_missing_61 : decode cX5_missing 61 = .ok (.iinc 4 1, 3) := by decide +kernel
theorem dX5_missing_64 : decode cX5_missing 64 = .ok (.goto (-59), 3) := by decide +kernel
theorem dX5_missing_67 : decode cX5_missing 67 = .ok (.sipush 200, 3) := by decide +kernel
theorem dX5_missing_70 : decode cX5_missing 70 = .ok (.iload_n 3, 1) := by decide +kernel
theorem dX5_missing_71 : decode cX5_missing 71 = .ok (.aload_n 0, 1) := by decide +kernel
theorem dX5_missing_72 : decode cX5_missing 72 = .ok (.iload_n 1, 1) := by decide +kernel
theorem dX5_missing_73 : decode cX5_missing 73 = .ok (.iload_n 2, 1) := by decide +kernel
theorem dX5_missing_74 : decode cX5_missing 74 = .ok (.invokevirtual 43, 3) := by decide +kernel
theorem dX5_missing_77 : decode cX5_missing 77 = .ok (.invokevirtual 51, 3) := by decide +kernel
theorem dX5_missing_80 : decode cX5_missing 80 = .ok (.isub, 1) := by decide +kernel
theorem dX5_missing_81 : decode cX5_missing 81 = .ok (.invokestatic 73, 3) := by decide +kernel
theorem dX5_missing_84 : decode cX5_missing 84 = .ok (.ireturn, 1) := by decide +kernel
set_option maxRecDepth 20000 in
theorem ggX5_canBear_X5_at : GoodIn wsX5_canBear wsX5_at := goodIn_r _ [11, 12, 13, 14, 15, 65, 66, 67, 68, 69] (by decide +kernel) (by decide +kernel)
set_option maxRecDepth 20000 in
theorem gX5_canBear_X5_at : GoodIn wsX5_canBear (wsV RX5 43 RX5 yX5_at wsX5_at) := goodIn_app (goodIn_of _ (by decide +kernel)) ggX5_canBear_X5_at
set_option maxRecDepth 20000 in
theorem ggX5_canBear_X5_hasRoom : GoodIn wsX5_canBear wsX5_hasRoom := goodIn_r _ [19, 2, 20, 1, 21, 7, 8, 9, 10, 11, 12, 13, 14, 15, 22, 23, 24, 25, 26, 27, 47, 48, 49, 50, 51, 52, 53, 54, 55, 56, 57, 58, 65, 66, 67, 68, 69, 59, 60, 61] (by decide +kernel) (by decide +kernel)
set_option maxRecDepth 20000 in
theorem gX5_canBear_X5_hasRoom : GoodIn wsX5_canBear (wsV RX5 87 RX5 yX5_hasRoom wsX5_hasRoom) := goodIn_app (goodIn_of _ (by decide +kernel)) ggX5_canBear_X5_hasRoom
set_option maxRecDepth 20000 in
theorem ggX5_canBear_X5_missing : GoodIn wsX5_canBear wsX5_missing := goodIn_ca (goodIn_r _ [31, 32, 33, 34, 35, 36, 37, 38, 39, 14, 40, 7, 8, 9, 10, 11, 12, 13, 15, 41, 42, 43, 25, 44, 27, 45, 46, 65, 66, 67, 68, 69, 59, 60, 61, 70, 71, 72, 73, 74] (by decide +kernel) (by decide +kernel)) (goodIn_sub (fun _ h => List.mem_cons_of_mem _ (List.mem_append_right _ h)) (by decide +kernel))
set_option maxRecDepth 20000 in
theorem gX5_canBear_X5_missing : GoodIn wsX5_canBear (wsV RX5 94 RX5 yX5_missing wsX5_missing) := goodIn_app (goodIn_of _ (by decide +kernel)) ggX5_canBear_X5_missing
set_option maxRecDepth 20000 in
theorem ggX5_canBear_X8_isFull : GoodIn wsX5_canBear wsX8_isFull := goodIn_r _ [26, 27, 59, 60, 61] (by decide +kernel) (by decide +kernel)
set_option maxRecDepth 20000 in
theorem gX5_canBear_X8_isFull : GoodIn wsX5_canBear (wsV RX5 97 RX8 yX8_isFull wsX8_isFull) := goodIn_app (goodIn_of _ (by decide +kernel)) ggX5_canBear_X8_isFull
theorem dX5_canBear_0 : decode cX5_canBear 0 = .ok (.aload_n 0, 1) := by decide +kernel
theorem dX5_canBear_1 : decode cX5_canBear 1 = .ok (.aload_n 1, 1) := by decide +kernel
theorem dX5_canBear_2 : decode cX5_canBear 2 = .ok (.getfield 76, 3) := by decide +kernel
theorem dX5_canBear_5 : decode cX5_canBear 5 = .ok (.aload_n 1, 1) := by decide +kernel
theorem dX5_canBear_6 : decode cX5_canBear 6 = .ok (.getfield 81, 3) := by decide +kernel
theorem dX5_canBear_9 : decode cX5_canBear 9 = .ok (.invokevirtual 43, 3) := by decide +kernel
theorem dX5_canBear_12 : decode cX5_canBear 12 = .ok (.astore_n 2, 1) := by decide +kernel
theorem dX5_canBear_13 : decode cX5_canBear 13 = .ok (.aload_n 1, 1) := by decide +kernel
theorem dX5_canBear_14 : decode cX5_canBear 14 = .ok (.getfield 84, 3) := by decide +kernel
theorem dX5_canBear_17 : decode cX5_canBear 17 = .ok (.tableswitch 147 102 115 #[90, 147, 147, 147, 147, 147, 71, 147, 147, 131, 147, 147, 118, 77], 71) := by decide +kernel
theorem dX5_canBear_88 : decode cX5_canBear 88 = .ok (.aload_n 0, 1) := by decide +kernel
theorem dX5_canBear_89 : decode cX5_canBear 89 = .ok (.aload_n 1, 1) := by decide +kernel
theorem dX5_canBear_90 : decode cX5_canBear 90 = .ok (.invokevirtual 87, 3) := by decide +kernel
theorem dX5_canBear_93 : decode cX5_canBear 93 = .ok (.ireturn, 1) := by decide +kernel
theorem dX5_canBear_94 : decode cX5_canBear 94 = .ok (.aload_n 2, 1) := by decide +kernel
theorem dX5_canBear_95 : decode cX5_canBear 95 = .ok (.getfield 91, 3) := by decide +kernel
theorem dX5_canBear_98 : decode cX5_canBear 98 = .ok (.ifCond .le 7, 3) := by decide +kernel
theorem dX5_canBear_101 : decode cX5_canBear 101 = .ok (.iconst 1, 1) := by decide +kernel
theorem dX5_canBear_102 : decode cX5_canBear 102 = .ok (.goto 4, 3) := by decide +kernel
theorem dX5_canBear_105 : decode cX5_canBear 105 = .ok (.iconst 0, 1) := by decide +kernel
theorem dX5_canBear_106 : decode cX5_canBear 106 = .ok (.ireturn, 1) := by decide +kernel
theorem dX5_canBear_107 : decode cX5_canBear 107 = .ok (.aload_n 0, 1) := by decide +kernel
theorem dX5_canBear_108 : decode cX5_canBear 108 = .ok (.aload_n 1, 1) := by decide +kernel
theorem dX5_canBear_109 : decode cX5_canBear 109 = .ok (.getfield 76, 3) := by decide +kernel
theorem dX5_canBear_112 : decode cX5_canBear 112 = .ok (.aload_n 1, 1) := by decide +kernel
theorem dX5_canBear_113 : decode cX5_canBear 113 = .ok (.getfield 81, 3) := by decide +kernel
theorem dX5_canBear_116 : decode cX5_canBear 116 = .ok (.invokevirtual 94, 3) := by decide +kernel
theorem dX5_canBear_119 : decode cX5_canBear 119 = .ok (.ifCond .le 14, 3) := by decide +kernel
theorem dX5_canBear_122 : decode cX5_canBear 122 = .ok (.aload_n 2, 1) := by decide +kernel
theorem dX5_canBear_123 : decode cX5_canBear 123 = .ok (.invokevirtual 97, 3) := by decide +kernel
theorem dX5_canBear_126 : decode cX5_canBear 126 = .ok (.ifCond .ne 7, 3) := by decide +kernel
theorem dX5_canBear_129 : decode cX5_canBear 129 = .ok (.iconst 1, 1) := by decide +kernel
theorem dX5_canBear_130 : decode cX5_canBear 130 = .ok (.goto 4, 3) := by decide +kernel
theorem dX5_canBear_133 : decode cX5_canBear 133 = .ok (.iconst 0, 1) := by decide +kernel
theorem dX5_canBear_134 : decode cX5_canBear 134 = .ok (.ireturn, 1) := by decide +kernel
theorem dX5_canBear_135 : decode cX5_canBear 135 = .ok (.aload_n 2, 1) := by decide +kernel
theorem dX5_canBear_136 : decode cX5_canBear 136 = .ok (.invokevirtual 97, 3) := by decide +kernel
theorem dX5_canBear_139 : decode cX5_canBear 139 = .ok (.ifCond .ne 7, 3) := by decide +kernel
theorem dX5_canBear_142 : decode cX5_canBear 142 = .ok (.iconst 1, 1) := by decide +kernel
theorem dX5_canBear_143 : decode cX5_canBear 143 = .ok (.goto 4, 3) := by decide +kernel
theorem dX5_canBear_146 : decode cX5_canBear 146 = .ok (.iconst 0, 1) := by decide +kernel
theorem dX5_canBear_147 : decode cX5_canBear 147 = .ok (.ireturn, 1) := by decide +kernel
theorem dX5_canBear_148 : decode cX5_canBear 148 = .ok (.aload_n 1, 1) := by decide +kernel
theorem dX5_canBear_149 : decode cX5_canBear 149 = .ok (.getfield 101, 3) := by decide +kernel
theorem dX5_canBear_152 : decode cX5_canBear 152 = .ok (.getfield 105, 3) := by decide +kernel
theorem dX5_canBear_155 : decode cX5_canBear 155 = .ok (.ifCond .le 7, 3) := by decide +kernel
theorem dX5_canBear_158 : decode cX5_canBear 158 = .ok (.iconst 1, 1) := by decide +kernel
theorem dX5_canBear_159 : decode cX5_canBear 159 = .ok (.goto 4, 3) := by decide +kernel
theorem dX5_canBear_162 : decode cX5_canBear 162 = .ok (.iconst 0, 1) := by decide +kernel
theorem dX5_canBear_163 : decode cX5_canBear 163 = .ok (.ireturn, 1) := by decide +kernel
theorem dX5_canBear_164 : decode cX5_canBear 164 = .ok (.iconst 1, 1) := by decide +kernel
theorem dX5_canBear_165 : decode cX5_canBear 165 = .ok (.ireturn, 1) := by decide +kernel
set_option maxRecDepth 20000 in
theorem ggX5_perform_X5_layBox : GoodIn wsX5_perform wsX5_layBox := goodIn_r _ [7, 8, 9, 10, 11, 12, 13, 14, 15, 16, 17, 6, 18, 19, 20, 21, 22, 23, 24, 25, 26, 27, 28, 29, 30, 31, 32, 33, 34, 35, 273, 274, 275, 276, 277, 278, 279, 280, 281, 282, 283, 284, 285, 286, 287, 288, 289, 290, 291, 292, 293, 294, 295, 296, 297, 298, 299, 300, 301, 302, 303, 304, 305, 306, 307, 308] (by decide +kernel) (by decide +kernel)
set_option maxRecDepth 20000 in
theorem gX5_perform_X5_layBox : GoodIn wsX5_perform (wsV RX5 108 RX5 yX5_layBox wsX5_layBox) := goodIn_app (goodIn_of _ (by decide +kernel)) ggX5_perform_X5_layBox
set_option maxRecDepth 20000 in
theorem ggX5_perform_X5_age : GoodIn wsX5_perform wsX5_age := goodIn_r _ [39, 14, 13, 19, 40, 41, 42, 43, 44, 26, 45, 28, 29, 30, 46, 47, 48, 49, 50, 51, 52, 53, 54, 55, 56, 57, 58, 59, 60, 61, 62, 63, 64, 65, 66, 67, 68, 69, 70, 71, 72, 73, 74, 75, 76, 77, 78, 79, 80, 81, 82, 83, 84, 85, 86, 87, 88, 89, 35, 90, 91, 92, 93, 94, 95, 96, 97, 285, 286, 287, 288, 289, 273, 274, 275, 276, 277, 278, 279, 280, 281, 282, 283, 284, 290, 291, 292, 293, 294, 295, 296, 297, 298, 299, 300, 301, 302, 303, 304, 305, 306, 307, 308] (by decide +kernel) (by decide +kernel)
set_option maxRecDepth 20000 in
theorem gX5_perform_X5_age : GoodIn wsX5_perform (wsV RX5 112 RX5 yX5_age wsX5_age) := goodIn_app (goodIn_of _ (by decide +kernel)) ggX5_perform_X5_age
set_option maxRecDepth 20000 in
theorem ggX5_perform_X5_scratchOff : GoodIn wsX5_perform wsX5_scratchOff := goodIn_ca (goodIn_r _ [101, 10, 8, 13, 102, 103, 104, 105, 15, 16, 17, 6, 18, 19, 20, 21, 22, 106, 107, 108, 26, 109, 28, 29, 30, 51, 31, 110, 70, 67, 71, 273, 274, 275, 276, 277, 278, 279, 280, 281, 282, 283, 284, 285, 286, 287, 288, 289, 290, 291, 292, 293, 294, 295, 296, 297, 298, 299, 300, 301, 302, 303, 304, 305, 306, 307, 308] (by decide +kernel) (by decide +kernel)) (goodIn_sub (fun _ h => List.mem_cons_of_mem _ (List.mem_append_right _ h)) (by decide +kernel))
set_option maxRecDepth 20000 in
theorem gX5_perform_X5_scratchOff : GoodIn wsX5_perform (wsV RX5 115 RX5 yX5_scratchOff wsX5_scratchOff) := goodIn_app (goodIn_of _ (by decide +kernel)) ggX5_perform_X5_scratchOff
set_option maxRecDepth 20000 in
theorem ggX5_perform_X5_swabOff : GoodIn wsX5_perform wsX5_swabOff := goodIn_r _ [114, 10, 8, 115, 13, 116, 105, 117, 15, 16, 17, 6, 18, 19, 20, 21, 22, 118, 119, 120, 26, 121, 28, 29, 30, 31, 85, 66, 67, 68, 122, 123, 124, 55, 125, 126, 127, 128, 129, 130, 131, 132, 133, 134, 135, 136, 137, 138, 139, 140, 141, 142, 143, 144, 145, 146, 147, 148, 149, 150, 151, 152, 153, 154, 155, 156, 70, 71, 157, 158, 159, 160, 161, 162, 163, 164, 165, 166, 167, 168, 169, 170, 171, 172, 173, 174, 175, 176, 177, 178, 179, 180, 181, 182, 183, 184, 185, 186, 187, 188, 189, 190, 191, 192, 193, 194, 195, 196, 197, 198, 199, 200, 201, 202, 203, 204, 205, 206, 207, 208, 209, 210, 211, 106, 107, 108, 109, 51, 110, 212, 95, 96, 97, 213, 214, 215, 216, 217, 81, 82, 83, 84, 273, 274, 275, 276, 277, 278, 279, 280, 281, 282, 283, 284, 290, 291, 292, 293, 294, 295, 296, 297, 285, 286, 287, 288, 289, 298, 299, 300, 301, 302, 303, 304, 305, 306, 307, 308, 309, 310, 311, 312] (by decide +kernel) (by decide +kernel)
set_option maxRecDepth 20000 in
theorem gX5_perform_X5_swabOff : GoodIn wsX5_perform (wsV RX5 118 RX5 yX5_swabOff wsX5_swabOff) := goodIn_app (goodIn_of _ (by decide +kernel)) ggX5_perform_X5_swabOff
set_option maxRecDepth 20000 in
theorem ggX5_perform_X5_fillUp : GoodIn wsX5_perform wsX5_fillUp := goodIn_ca (goodIn_r _ [221, 10, 8, 12, 14, 222, 223, 224, 6, 225, 226, 70, 67, 71, 227, 66, 68, 228, 21, 229, 15, 16, 17, 18, 19, 20, 22, 230, 231, 232, 26, 233, 28, 29, 31, 23, 24, 25, 27, 30, 32, 33, 34, 35, 273, 274, 275, 276, 277, 278, 279, 280, 281, 282, 283, 284, 285, 286, 287, 288, 289, 290, 291, 292, 293, 294, 295, 296, 297, 298, 299, 300, 301, 302, 303, 304, 305, 306, 307, 308] (by decide +kernel) (by decide +kernel)) (goodIn_sub (fun _ h => List.mem_cons_of_mem _ (List.mem_append_right _ h)) (by decide +kernel))
set_option maxRecDepth 20000 in
theorem gX5_perform_X5_fillUp : GoodIn wsX5_perform (wsV RX5 121 RX5 yX5_fillUp wsX5_fillUp) := goodIn_app (goodIn_of _ (by decide +kernel)) ggX5_perform_X5_fillUp
set_option maxRecDepth 20000 in
theorem ggX5_perform_X5_touch : GoodIn wsX5_perform wsX5_touch := goodIn_r _ [237, 10, 8, 12, 14, 238, 239, 13, 240, 77, 67, 78, 15, 16, 17, 6, 18, 19, 20, 21, 22, 23, 24, 25, 26, 27, 28, 29, 30, 31, 32, 33, 34, 35, 212, 95, 96, 97, 241, 242, 243, 244, 245, 246, 247, 62, 248, 249, 250, 251, 252, 253, 254, 255, 256, 64, 273, 274, 275, 276, 277, 278, 279, 280, 281, 282, 283, 284, 285, 286, 287, 288, 289, 293, 294, 295, 296, 297, 290, 291, 292, 298, 299, 300, 301, 302, 303, 304, 305, 306, 307, 308] (by decide +kernel) (by decide +kernel)
set_option maxRecDepth 20000 in
theorem gX5_perform_X5_touch : GoodIn wsX5_perform (wsV RX5 124 RX5 yX5_touch wsX5_touch) := goodIn_app (goodIn_of _ (by decide +kernel)) ggX5_perform_X5_touch
set_option maxRecDepth 20000 in
theorem ggX5_perform_X5_glueDown : GoodIn wsX5_perform wsX5_glueDown := goodIn_r _ [260, 10, 8, 261, 226, 70, 67, 71, 15, 16, 17, 6, 18, 19, 20, 21, 22, 273, 274, 275, 276, 277, 278, 279, 280, 281, 282, 283, 284, 290, 291, 292, 285, 286, 287, 288, 289] (by decide +kernel) (by decide +kernel)
set_option maxRecDepth 20000 in
theorem gX5_perform_X5_glueDown : GoodIn wsX5_perform (wsV RX5 127 RX5 yX5_glueDown wsX5_glueDown) := goodIn_app (goodIn_of _ (by decide +kernel)) ggX5_perform_X5_glueDown
set_option maxRecDepth 20000 in
theorem ggX5_perform_X5_travel : GoodIn wsX5_perform wsX5_travel := goodIn_ca (goodIn_r _ [265, 266, 19, 267, 268, 269, 270, 271, 26, 272, 84, 76, 77, 67, 78, 28, 80, 81, 82, 83, 85, 66, 68, 90, 91, 92, 93, 30, 51, 94, 95, 96, 97, 29, 313, 314, 315, 285, 286, 287, 288, 289, 290, 291, 292, 293, 294, 295, 296, 297, 298, 299, 300, 301, 302, 303, 304, 305, 306, 307, 308] (by decide +kernel) (by decide +kernel)) (goodIn_sub (fun _ h => List.mem_cons_of_mem _ (List.mem_append_right _ h)) (by decide +kernel))
set_option maxRecDepth 20000 in
theorem gX5_perform_X5_travel : GoodIn wsX5_perform (wsV RX5 130 RX5 yX5_travel wsX5_travel) := goodIn_app (goodIn_of _ (by decide +kernel)) ggX5_perform_X5_travel
theorem dX5_perform_0 : decode cX5_perform 0 = .ok (.aload_n 1, 1) := by decide +kernel
theorem dX5_perform_1 : decode cX5_perform 1 = .ok (.getfield 84, 3) := by decide +kernel
theorem dX5_perform_4 : decode cX5_perform 4 = .ok (.tableswitch 138 102 121 #[120, 132, 138, 138, 138, 138, 96, 138, 138, 138, 138, 138, 126, 108, 138, 138, 138, 114, 138, 102], 96) := by decide +kernel
theorem dX5_perform_100 : decode cX5_perform 100 = .ok (.aload_n 0, 1) := by decide +kernel
theorem dX5_perform_101 : decode cX5_perform 101 = .ok (.aload_n 1, 1) := by decide +kernel
theorem dX5_perform_102 : decode cX5_perform 102 = .ok (.invokevirtual 108, 3) := by decide +kernel
theorem dX5_perform_105 : decode cX5_perform 105 = .ok (.ireturn, 1) := by decide +kernel
theorem dX5_perform_106 : decode cX5_perform 106 = .ok (.aload_n 0, 1) := by decide +kernel
theorem dX5_perform_107 : decode cX5_perform 107 = .ok (.aload_n 1, 1) := by decide +kernel
theorem dX5_perform_108 : decode cX5_perform 108 = .ok (.invokevirtual 112, 3) := by decide +kernel
theorem dX5_perform_111 : decode cX5_perform 111 = .ok (.ireturn, 1) := by decide +kernel
theorem dX5_perform_112 : decode cX5_perform 112 = .ok (.aload_n 0, 1) := by decide +kernel
theorem dX5_perform_113 : decode cX5_perform 113 = .ok (.aload_n 1, 1) := by decide +kernel
theorem dX5_perform_114 : decode cX5_perform 114 = .ok (.invokevirtual 115, 3) := by decide +kernel
theorem dX5_perform_117 : decode cX5_perform 117 = .ok (.ireturn, 1) := by decide +kernel
theorem dX5_perform_118 : decode cX5_perform 118 = .ok (.aload_n 0, 1) := by decide +kernel
theorem dX5_perform_119 : decode cX5_perform 119 = .ok (.aload_n 1, 1) := by decide +kernel
theorem dX5_perform_120 : decode cX5_perform 120 = .ok (.invokevirtual 118, 3) := by decide +kernel
theorem dX5_perform_123 : decode cX5_perform 123 = .ok (.ireturn, 1) := by decide +kernel
theorem dX5_perform_124 : decode cX5_perform 124 = .ok (.aload_n 0, 1) := by decide +kernel
theorem dX5_perform_125 : decode cX5_perform 125 = .ok (.aload_n 1, 1) := by decide +kernel
theorem dX5_perform_126 : decode cX5_perform 126 = .ok (.invokevirtual 121, 3) := by decide +kernel
theorem dX5_perform_129 : decode cX5_perform 129 = .ok (.ireturn, 1) := by decide +kernel
theorem dX5_perform_130 : decode cX5_perform 130 = .ok (.aload_n 0, 1) := by decide +kernel
theorem dX5_perform_131 : decode cX5_perform 131 = .ok (.aload_n 1, 1) := by decide +kernel
theorem dX5_perform_132 : decode cX5_perform 132 = .ok (.invokevirtual 124, 3) := by decide +kernel
theorem dX5_perform_135 : decode cX5_perform 135 = .ok (.ireturn, 1) := by decide +kernel
theorem dX5_perform_136 : decode cX5_perform 136 = .ok (.aload_n 0, 1) := by decide +kernel
theorem dX5_perform_137 : decode cX5_perform 137 = .ok (.aload_n 1, 1) := by decide +kernel
theorem dX5_perform_138 : decode cX5_perform 138 = .ok (.invokevirtual 127, 3) := by decide +kernel
theorem dX5_perform_141 : decode cX5_perform 141 = .ok (.ireturn, 1) := by decide +kernel
theorem dX5_perform_142 : decode cX5_perform 142 = .ok (.aload_n 0, 1) := by decide +kernel
theorem dX5_perform_143 : decode cX5_perform 143 = .ok (.aload_n 1, 1) := by decide +kernel
theorem dX5_perform_144 : decode cX5_perform 144 = .ok (.getfield 101, 3) := by decide +kernel
theorem dX5_perform_147 : decode cX5_perform 147 = .ok (.invokevirtual 130, 3) := by decide +kernel
theorem dX5_perform_150 : decode cX5_perform 150 = .ok (.ireturn, 1) := by decide +kernel
set_option maxRecDepth 20000 in
theorem ggX5_hasRoom_X5_at : GoodIn wsX5_hasRoom wsX5_at := goodIn_r _ [9, 10, 11, 12, 13, 32, 33, 34, 35, 36] (by decide +kernel) (by decide +kernel)
set_option maxRecDepth 20000 in
theorem gX5_hasRoom_X5_at : GoodIn wsX5_hasRoom (wsV RX5 43 RX5 yX5_at wsX5_at) := goodIn_app (goodIn_of _ (by decide +kernel)) ggX5_hasRoom_X5_at
set_option maxRecDepth 20000 in
theorem ggX5_hasRoom_X8_isFull : GoodIn wsX5_hasRoom wsX8_isFull := goodIn_r _ [18, 19, 37, 38, 39] (by decide +kernel) (by decide +kernel)
set_option maxRecDepth 20000 in
theorem gX5_hasRoom_X8_isFull : GoodIn wsX5_hasRoom (wsV RX5 97 RX8 yX8_isFull wsX8_isFull) := goodIn_app (goodIn_of _ (by decide +kernel)) ggX5_hasRoom_X8_isFull
theorem dX5_hasRoom_0 : decode cX5_hasRoom 0 = .ok (.aload_n 1, 1) := by decide +kernel
theorem dX5_hasRoom_1 : decode cX5_hasRoom 1 = .ok (.getfield 81, 3) := by decide +kernel
theorem dX5_hasRoom_4 : decode cX5_hasRoom 4 = .ok (.istore_n 2, 1) := by decide +kernel
theorem dX5_hasRoom_5 : decode cX5_hasRoom 5 = .ok (.iload_n 2, 1) := by decide +kernel
theorem dX5_hasRoom_6 : decode cX5_hasRoom 6 = .ok (.aload_n 1, 1) := by decide +kernel
theorem dX5_hasRoom_7 : decode cX5_hasRoom 7 = .ok (.getfield 134, 3) := by decide +kernel
theorem dX5_hasRoom_10 : decode cX5_hasRoom 10 = .ok (.if_icmp .gt 42, 3) := by decide +kernel
theorem dX5_hasRoom_13 : decode cX5_hasRoom 13 = .ok (.aload_n 1, 1) := by decide +kernel
theorem dX5_hasRoom_14 : decode cX5_hasRoom 14 = .ok (.getfield 76, 3) := by decide +kernel
theorem dX5_hasRoom_17 : decode cX5_hasRoom 17 = .ok (.istore_n 3, 1) := by decide +kernel
theorem dX5_hasRoom_18 : decode cX5_hasRoom 18 = .ok (.iload_n 3, 1) := by decide +kernel
theorem dX5_hasRoom_19 : decode cX5_hasRoom 19 = .ok (.aload_n 1, 1) := by decide +kernel
theorem dX5_hasRoom_20 : decode cX5_hasRoom 20 = .ok (.getfield 137, 3) := by decide +kernel
theorem dX5_hasRoom_23 : decode cX5_hasRoom 23 = .ok (.if_icmp .gt 23, 3) := by decide +kernel
theorem dX5_hasRoom_26 : decode cX5_hasRoom 26 = .ok (.aload_n 0, 1) := by decide +kernel
theorem dX5_hasRoom_27 : decode cX5_hasRoom 27 = .ok (.iload_n 3, 1) := by decide +kernel
theorem dX5_hasRoom_28 : decode cX5_hasRoom 28 = .ok (.iload_n 2, 1) := by decide +kernel
theorem dX5_hasRoom_29 : decode cX5_hasRoom 29 = .ok (.invokevirtual 43, 3) := by decide +kernel
theorem dX5_hasRoom_32 : decode cX5_hasRoom 32 = .ok (.invokevirtual 97, 3) := by decide +kernel
theorem dX5_hasRoom_35 : decode cX5_hasRoom 35 = .ok (.ifCond .eq 5, 3) := by decide +kernel
theorem dX5_hasRoom_38 : decode cX5_hasRoom 38 = .ok (.iconst 0, 1) := by decide +kernel
theorem dX5_hasRoom_39 : decode cX5_hasRoom 39 = .ok (.ireturn, 1) := by decide +kernel
theorem dX5_hasRoom_40 : decode cX5_hasRoom 40 = .ok (.iinc 3 1, 3) := by decide +kernel
theorem dX5_hasRoom_43 : decode cX5_hasRoom 43 = .ok (.goto (-25), 3) := by decide +kernel
theorem dX5_hasRoom_46 : decode cX5_hasRoom 46 = .ok (.iinc 2 1, 3) := by decide +kernel
theorem dX5_hasRoom_49 : decode cX5_hasRoom 49 = .ok (.goto (-44), 3) := by decide +kernel
theorem dX5_hasRoom_52 : decode cX5_hasRoom 52 = .ok (.iconst 1, 1) := by decide +kernel
theorem dX5_hasRoom_53 : decode cX5_hasRoom 53 = .ok (.ireturn, 1) := by decide +kernel
set_option maxRecDepth 20000 in
theorem ggX5_layBox_X5_at : GoodIn wsX5_layBox wsX5_at := goodIn_r _ [12, 13, 14, 15, 16, 42, 43, 44, 45, 46] (by decide +kernel) (by decide +kernel)
set_option maxRecDepth 20000 in
theorem gX5_layBox_X5_at : GoodIn wsX5_layBox (wsV RX5 43 RX5 yX5_at wsX5_at) := goodIn_app (goodIn_of _ (by decide +kernel)) ggX5_layBox_X5_at
set_option maxRecDepth 20000 in
theorem ggX5_layBox_X8_put : GoodIn wsX5_layBox wsX8_put := goodIn_r _ [21, 22, 23, 24, 25, 26, 27, 28, 29, 47, 48, 49, 50, 51, 52, 53, 54, 55, 56, 57, 58, 59, 60, 61, 62, 63, 64, 65] (by decide +kernel) (by decide +kernel)
set_option maxRecDepth 20000 in
theorem gX5_layBox_X8_put : GoodIn wsX5_layBox (wsV RX5 147 RX8 yX8_put wsX8_put) := goodIn_app (goodIn_of _ (by decide +kernel)) ggX5_layBox_X8_put
theorem dX5_layBox_0 : decode cX5_layBox 0 = .ok (.iconst 0, 1) := by decide +kernel
theorem dX5_layBox_1 : decode cX5_layBox 1 = .ok (.istore_n 2, 1) := by decide +kernel
theorem dX5_layBox_2 : decode cX5_layBox 2 = .ok (.aload_n 1, 1) := by decide +kernel
theorem dX5_layBox_3 : decode cX5_layBox 3 = .ok (.getfield 81, 3) := by decide +kernel
theorem dX5_layBox_6 : decode cX5_layBox 6 = .ok (.istore_n 3, 1) := by decide +kernel
theorem dX5_layBox_7 : decode cX5_layBox 7 = .ok (.iload_n 3, 1) := by decide +kernel
theorem dX5_layBox_8 : decode cX5_layBox 8 = .ok (.aload_n 1, 1) := by decide +kernel
theorem dX5_layBox_9 : decode cX5_layBox 9 = .ok (.getfield 134, 3) := by decide +kernel
theorem dX5_layBox_12 : decode cX5_layBox 12 = .ok (.if_icmp .gt 55, 3) := by decide +kernel
theorem dX5_layBox_15 : decode cX5_layBox 15 = .ok (.aload_n 1, 1) := by decide +kernel
theorem dX5_layBox_16 : decode cX5_layBox 16 = .ok (.getfield 76, 3) := by decide +kernel
theorem dX5_layBox_19 : decode cX5_layBox 19 = .ok (.istore 4, 2) := by decide +kernel
theorem dX5_layBox_21 : decode cX5_layBox 21 = .ok (.iload 4, 2) := by decide +kernel
theorem dX5_layBox_23 : decode cX5_layBox 23 = .ok (.aload_n 1, 1) := by decide +kernel
theorem dX5_layBox_24 : decode cX5_layBox 24 = .ok (.getfield 137, 3) := by decide +kernel
theorem dX5_layBox_27 : decode cX5_layBox 27 = .ok (.if_icmp .gt 34, 3) := by decide +kernel
theorem dX5_layBox_30 : decode cX5_layBox 30 = .ok (.aload_n 0, 1) := by decide +kernel
theorem dX5_layBox_31 : decode cX5_layBox 31 = .ok (.iload 4, 2) := by decide +kernel
theorem dX5_layBox_33 : decode cX5_layBox 33 = .ok (.iload_n 3, 1) := by decide +kernel
theorem dX5_layBox_34 : decode cX5_layBox 34 = .ok (.invokevirtual 43, 3) := by decide +kernel
theorem dX5_layBox_37 : decode cX5_layBox 37 = .ok (.aload_n 1, 1) := by decide +kernel
theorem dX5_layBox_38 : decode cX5_layBox 38 = .ok (.getfield 140, 3) := by decide +kernel
theorem dX5_layBox_41 : decode cX5_layBox 41 = .ok (.aload_n 1, 1) := by decide +kernel
theorem dX5_layBox_42 : decode cX5_layBox 42 = .ok (.getfield 144, 3) := by decide +kernel
theorem dX5_layBox_45 : decode cX5_layBox 45 = .ok (.aload_n 0, 1) := by decide +kernel
theorem dX5_layBox_46 : decode cX5_layBox 46 = .ok (.getfield 24, 3) := by decide +kernel
theorem dX5_layBox_49 : decode cX5_layBox 49 = .ok (.invokevirtual 147, 3) := by decide +kernel
theorem dX5_layBox_52 : decode cX5_layBox 52 = .ok (.iinc 2 1, 3) := by decide +kernel
theorem dX5_layBox_55 : decode cX5_layBox 55 = .ok (.iinc 4 1, 3) := by decide +kernel
theorem dX5_layBox_58 : decode cX5_layBox 58 = .ok (.goto (-37), 3) := by decide +kernel
theorem dX5_layBox_61 : decode cX5_layBox 61 = .ok (.iinc 3 1, 3) := by decide +kernel
theorem dX5_layBox_64 : decode cX5_layBox 64 = .ok (.goto (-57), 3) := by decide +kernel
theorem dX5_layBox_67 : decode cX5_layBox 67 = .ok (.iload_n 2, 1) := by decide +kernel
theorem dX5_layBox_68 : decode cX5_layBox 68 = .ok (.ireturn, 1) := by decide +kernel
set_option maxRecDepth 20000 in
theorem ggX5_age_X8_age : GoodIn wsX5_age wsX8_age := goodIn_r _ [10, 11, 12, 13, 14, 15, 16, 17, 9, 18, 19, 20, 21, 22, 23, 24, 25, 26, 27, 28, 29, 30, 31, 32, 33, 34, 35, 36, 37, 38, 39, 84, 85, 86, 87, 88, 89, 90, 91, 92, 93, 94, 95, 96, 97, 98, 99, 100, 101, 102] (by decide +kernel) (by decide +kernel)
set_option maxRecDepth 20000 in
theorem gX5_age_X8_age : GoodIn wsX5_age (wsV RX5 154 RX8 yX8_age wsX8_age) := goodIn_app (goodIn_of _ (by decide +kernel)) ggX5_age_X8_age
set_option maxRecDepth 20000 in
theorem ggX5_age_X8_wear : GoodIn wsX5_age wsX8_wear := goodIn_r _ [43, 44, 45, 35, 46, 11, 12, 13, 47, 48, 49, 50, 9, 51, 52, 53, 34, 36, 84, 85, 86, 87, 88, 89, 90, 91, 92, 93, 94, 95, 96, 97, 98, 99, 100, 101, 102] (by decide +kernel) (by decide +kernel)
set_option maxRecDepth 20000 in
theorem gX5_age_X8_wear : GoodIn wsX5_age (wsV RX5 160 RX8 yX8_wear wsX8_wear) := goodIn_app (goodIn_of _ (by decide +kernel)) ggX5_age_X8_wear
set_option maxRecDepth 20000 in
theorem ggX5_age_X8_turnYellow : GoodIn wsX5_age wsX8_turnYellow := goodIn_r _ [57, 58, 53, 34, 35, 36, 59, 60, 61, 9, 62, 11, 13, 19, 63, 64, 65, 66, 12, 87, 88, 89, 90, 91, 84, 85, 86, 92, 93, 94, 95, 96, 97, 98, 99, 100, 101, 102] (by decide +kernel) (by decide +kernel)
set_option maxRecDepth 20000 in
theorem gX5_age_X8_turnYellow : GoodIn wsX5_age (wsV RX5 163 RX8 yX8_turnYellow wsX8_turnYellow) := goodIn_app (goodIn_of _ (by decide +kernel)) ggX5_age_X8_turnYellow
theorem dX5_age_0 : decode cX5_age 0 = .ok (.aload_n 0, 1) := by decide +kernel
theorem dX5_age_1 : decode cX5_age 1 = .ok (.getfield 24, 3) := by decide +kernel
theorem dX5_age_4 : decode cX5_age 4 = .ok (.istore_n 2, 1) := by decide +kernel
theorem dX5_age_5 : decode cX5_age 5 = .ok (.aload_n 0, 1) := by decide +kernel
theorem dX5_age_6 : decode cX5_age 6 = .ok (.dup, 1) := by decide +kernel
theorem dX5_age_7 : decode cX5_age 7 = .ok (.getfield 24, 3) := by decide +kernel
theorem dX5_age_10 : decode cX5_age 10 = .ok (.aload_n 1, 1) := by decide +kernel
theorem dX5_age_11 : decode cX5_age 11 = .ok (.getfield 144, 3) := by decide +kernel
theorem dX5_age_14 : decode cX5_age 14 = .ok (.iadd, 1) := by decide +kernel
theorem dX5_age_15 : decode cX5_age 15 = .ok (.putfield 24, 3) := by decide +kernel
theorem dX5_age_18 : decode cX5_age 18 = .ok (.iconst 0, 1) := by decide +kernel
theorem dX5_age_19 : decode cX5_age 19 = .ok (.istore_n 3, 1) := by decide +kernel
theorem dX5_age_20 : decode cX5_age 20 = .ok (.iload_n 3, 1) := by decide +kernel
theorem dX5_age_21 : decode cX5_age 21 = .ok (.bipush 48, 2) := by decide +kernel
theorem dX5_age_23 : decode cX5_age 23 = .ok (.if_icmp .ge 64, 3) := by decide +kernel
theorem dX5_age_26 : decode cX5_age 26 = .ok (.aload_n 0, 1) := by decide +kernel
theorem dX5_age_27 : decode cX5_age 27 = .ok (.getfield 11, 3) := by decide +kernel
theorem dX5_age_30 : decode cX5_age 30 = .ok (.iload_n 3, 1) := by decide +kernel
theorem dX5_age_31 : decode cX5_age 31 = .ok (.aaload, 1) := by decide +kernel
theorem dX5_age_32 : decode cX5_age 32 = .ok (.aload_n 1, 1) := by decide +kernel
theorem dX5_age_33 : decode cX5_age 33 = .ok (.getfield 144, 3) := by decide +kernel
theorem dX5_age_36 : decode cX5_age 36 = .ok (.aload_n 1, 1) := by decide +kernel
theorem dX5_age_37 : decode cX5_age 37 = .ok (.getfield 151, 3) := by decide +kernel
theorem dX5_age_40 : decode cX5_age 40 = .ok (.invokevirtual 154, 3) := by decide +kernel
theorem dX5_age_43 : decode cX5_age 43 = .ok (.aload_n 0, 1) := by decide +kernel
theorem dX5_age_44 : decode cX5_age 44 = .ok (.getfield 11, 3) := by decide +kernel
theorem dX5_age_47 : decode cX5_age 47 = .ok (.iload_n 3, 1) := by decide +kernel
theorem dX5_age_48 : decode cX5_age 48 = .ok (.aaload, 1) := by decide +kernel
theorem dX5_age_49 : decode cX5_age 49 = .ok (.aload_n 1, 1) := by decide +kernel
theorem dX5_age_50 : decode cX5_age 50 = .ok (.getfield 144, 3) := by decide +kernel
theorem dX5_age_53 : decode cX5_age 53 = .ok (.aload_n 1, 1) := by decide +kernel
theorem dX5_age_54 : decode cX5_age 54 = .ok (.getfield 157, 3) := by decide +kernel
theorem dX5_age_57 : decode cX5_age 57 = .ok (.invokevirtual 160, 3) := by decide +kernel
theorem dX5_age_60 : decode cX5_age 60 = .ok (.aload_n 0, 1) := by decide +kernel
theorem dX5_age_61 : decode cX5_age 61 = .ok (.getfield 11, 3) := by decide +kernel
theorem dX5_age_64 : decode cX5_age 64 = .ok (.iload_n 3, 1) := by decide +kernel
theorem dX5_age_65 : decode cX5_age 65 = .ok (.aaload, 1) := by decide +kernel
theorem dX5_age_66 : decode cX5_age 66 = .ok (.aload_n 0, 1) := by decide +kernel
theorem dX5_age_67 : decode cX5_age 67 = .ok (.getfield 24, 3) := by decide +kernel
theorem dX5_age_70 : decode cX5_age 70 = .ok (.bipush 10, 2) := by decide +kernel
theorem dX5_age_72 : decode cX5_age 72 = .ok (.idiv, 1) := by decide +kernel
theorem dX5_age_73 : decode cX5_age 73 = .ok (.iload_n 2, 1) := by decide +kernel
theorem dX5_age_74 : decode cX5_age 74 = .ok (.bipush 10, 2) := by decide +kernel
theorem dX5_age_76 : decode cX5_age 76 = .ok (.idiv, 1) := by decide +kernel
theorem dX5_age_77 : decode cX5_age 77 = .ok (.isub, 1) := by decide +kernel
theorem dX5_age_78 : decode cX5_age 78 = .ok (.invokevirtual 163, 3) := by decide +kernel
theorem dX5_age_81 : decode cX5_age 81 = .ok (.iinc 3 1, 3) := by decide +kernel
theorem dX5_age_84 : decode cX5_age 84 = .ok (.goto (-64), 3) := by decide +kernel
theorem dX5_age_87 : decode cX5_age 87 = .ok (.aload_n 0, 1) := by decide +kernel
theorem dX5_age_88 : decode cX5_age 88 = .ok (.getfield 24, 3) := by decide +kernel
theorem dX5_age_91 : decode cX5_age 91 = .ok (.ireturn, 1) := by decide +kernel
set_option maxRecDepth 20000 in
theorem ggX5_scratchOff_X5_at : GoodIn wsX5_scratchOff wsX5_at := goodIn_r _ [12, 13, 14, 15, 16, 43, 44, 45, 46, 47] (by decide +kernel) (by decide +kernel)
set_option maxRecDepth 20000 in
theorem gX5_scratchOff_X5_at : GoodIn wsX5_scratchOff (wsV RX5 43 RX5 yX5_at wsX5_at) := goodIn_app (goodIn_of _ (by decide +kernel)) ggX5_scratchOff_X5_at
set_option maxRecDepth 20000 in
theorem ggX5_scratchOff_X8_takeOff : GoodIn wsX5_scratchOff wsX8_takeOff := goodIn_r _ [21, 22, 23, 24, 25, 26, 27, 28, 29, 30, 48, 49, 50, 51, 52, 53, 54, 55, 56, 57, 58, 59, 60, 61, 62, 63, 64, 65, 66] (by decide +kernel) (by decide +kernel)
set_option maxRecDepth 20000 in
theorem gX5_scratchOff_X8_takeOff : GoodIn wsX5_scratchOff (wsV RX5 167 RX8 yX8_takeOff wsX8_takeOff) := goodIn_app (goodIn_of _ (by decide +kernel)) ggX5_scratchOff_X8_takeOff
set_option maxRecDepth 20000 in
theorem ggX5_scratchOff_X11_placeOf : GoodIn wsX5_scratchOff wsX11_placeOf := goodIn_r _ [16] (by decide +kernel) (by decide +kernel)
set_option maxRecDepth 20000 in
theorem gX5_scratchOff_X11_placeOf_n36 : GoodIn wsX5_scratchOff (wsX11_placeOf) := ggX5_scratchOff_X11_placeOf
theorem dX5_scratchOff_0 : decode cX5_scratchOff 0 = .ok (.aload_n 0, 1) := by decide +kernel
theorem dX5_scratchOff_1 : decode cX5_scratchOff 1 = .ok (.aload_n 1, 1) := by decide +kernel
theorem dX5_scratchOff_2 : decode cX5_scratchOff 2 = .ok (.getfield 76, 3) := by decide +kernel
theorem dX5_scratchOff_5 : decode cX5_scratchOff 5 = .ok (.aload_n 1, 1) := by decide +kernel
theorem dX5_scratchOff_6 : decode cX5_scratchOff 6 = .ok (.getfield 81, 3) := by decide +kernel
theorem dX5_scratchOff_9 : decode cX5_scratchOff 9 = .ok (.invokevirtual 43, 3) := by decide +kernel
theorem dX5_scratchOff_12 : decode cX5_scratchOff 12 = .ok (.astore_n 2, 1) := by decide +kernel
theorem dX5_scratchOff_13 : decode cX5_scratchOff 13 = .ok (.aload_n 2, 1) := by decide +kernel
theorem dX5_scratchOff_14 : decode cX5_scratchOff 14 = .ok (.aload_n 1, 1) := by decide +kernel
theorem dX5_scratchOff_15 : decode cX5_scratchOff 15 = .ok (.getfield 144, 3) := by decide +kernel
theorem dX5_scratchOff_18 : decode cX5_scratchOff 18 = .ok (.invokevirtual 167, 3) := by decide +kernel
theorem dX5_scratchOff_21 : decode cX5_scratchOff 21 = .ok (.aload_n 0, 1) := by decide +kernel
theorem dX5_scratchOff_22 : decode cX5_scratchOff 22 = .ok (.getfield 170, 3) := by decide +kernel
theorem dX5_scratchOff_25 : decode cX5_scratchOff 25 = .ok (.bipush 40, 2) := by decide +kernel
theorem dX5_scratchOff_27 : decode cX5_scratchOff 27 = .ok (.if_icmp .ge 46, 3) := by decide +kernel
theorem dX5_scratchOff_30 : decode cX5_scratchOff 30 = .ok (.aload_n 0, 1) := by decide +kernel
theorem dX5_scratchOff_31 : decode cX5_scratchOff 31 = .ok (.getfield 17, 3) := by decide +kernel
theorem dX5_scratchOff_34 : decode cX5_scratchOff 34 = .ok (.aload_n 0, 1) := by decide +kernel
theorem dX5_scratchOff_35 : decode cX5_scratchOff 35 = .ok (.getfield 170, 3) := by decide +kernel
theorem dX5_scratchOff_38 : decode cX5_scratchOff 38 = .ok (.aload_n 1, 1) := by decide +kernel
theorem dX5_scratchOff_39 : decode cX5_scratchOff 39 = .ok (.getfield 76, 3) := by decide +kernel
theorem dX5_scratchOff_42 : decode cX5_scratchOff 42 = .ok (.aload_n 1, 1) := by decide +kernel
theorem dX5_scratchOff_43 : decode cX5_scratchOff 43 = .ok (.getfield 81, 3) := by decide +kernel
theorem dX5_scratchOff_46 : decode cX5_scratchOff 46 = .ok (.invokestatic 36, 3) := by decide +kernel
theorem dX5_scratchOff_49 : decode cX5_scratchOff 49 = .ok (.iastore, 1) := by decide +kernel
theorem dX5_scratchOff_50 : decode cX5_scratchOff 50 = .ok (.aload_n 0, 1) := by decide +kernel
theorem dX5_scratchOff_51 : decode cX5_scratchOff 51 = .ok (.getfield 21, 3) := by decide +kernel
theorem dX5_scratchOff_54 : decode cX5_scratchOff 54 = .ok (.aload_n 0, 1) := by decide +kernel
theorem dX5_scratchOff_55 : decode cX5_scratchOff 55 = .ok (.getfield 170, 3) := by decide +kernel
theorem dX5_scratchOff_58 : decode cX5_scratchOff 58 = .ok (.aload_n 2, 1) := by decide +kernel
theorem dX5_scratchOff_59 : decode cX5_scratchOff 59 = .ok (.getfield 91, 3) := by decide +kernel
theorem dX5_scratchOff_62 : decode cX5_scratchOff 62 = .ok (.iastore, 1) := by decide +kernel
theorem dX5_scratchOff_63 : decode cX5_scratchOff 63 = .ok (.aload_n 0, 1) := by decide +kernel
theorem dX5_scratchOff_64 : decode cX5_scratchOff 64 = .ok (.dup, 1) := by decide +kernel
theorem dX5_scratchOff_65 : decode cX5_scratchOff 65 = .ok (.getfield 170, 3) := by decide +kernel
theorem dX5_scratchOff_68 : decode cX5_scratchOff 68 = .ok (.iconst 1, 1) := by decide +kernel
theorem dX5_scratchOff_69 : decode cX5_scratchOff 69 = .ok (.iadd, 1) := by decide +kernel
theorem dX5_scratchOff_70 : decode cX5_scratchOff 70 = .ok (.putfield 170, 3) := by decide +kernel
theorem dX5_scratchOff_73 : decode cX5_scratchOff 73 = .ok (.aload_n 2, 1) := by decide +kernel
theorem dX5_scratchOff_74 : decode cX5_scratchOff 74 = .ok (.getfield 91, 3) := by decide +kernel
theorem dX5_scratchOff_77 : decode cX5_scratchOff 77 = .ok (.ireturn, 1) := by decide +kernel
set_option maxRecDepth 20000 in
theorem ggX5_swabOff_X5_at : GoodIn wsX5_swabOff wsX5_at := goodIn_r _ [12, 13, 14, 15, 16, 162, 163, 164, 165, 166] (by decide +kernel) (by decide +kernel)
set_option maxRecDepth 20000 in
theorem gX5_swabOff_X5_at : GoodIn wsX5_swabOff (wsV RX5 43 RX5 yX5_at wsX5_at) := goodIn_app (goodIn_of _ (by decide +kernel)) ggX5_swabOff_X5_at
set_option maxRecDepth 20000 in
theorem ggX5_swabOff_X8_soluble : GoodIn wsX5_swabOff wsX8_soluble := goodIn_r _ [21, 22, 23, 24, 25, 26, 27, 28, 29, 30, 31, 32, 33, 34, 35, 36, 37, 38, 39, 40, 41, 42, 43, 44, 45, 46, 47, 48, 49, 50, 51, 52, 53, 54, 55, 56, 57, 58, 59, 60, 61, 62, 63, 64, 65, 66, 67, 68, 69, 70, 71, 72, 73, 74, 75, 76, 77, 78, 79, 80, 81, 82, 83, 84, 85, 86, 87, 88, 89, 90, 91, 92, 93, 94, 95, 96, 97, 98, 99, 100, 101, 102, 103, 104, 105, 106, 107, 108, 109, 110, 111, 112, 113, 114, 115, 116, 117, 118, 119, 120, 121, 122, 154, 155, 156, 157, 158, 159, 160, 161, 167, 168, 169, 170, 171, 172, 173, 174, 175, 176, 177, 178, 179, 180, 181] (by decide +kernel) (by decide +kernel)
set_option maxRecDepth 20000 in
theorem gX5_swabOff_X8_soluble : GoodIn wsX5_swabOff (wsV RX5 179 RX8 yX8_soluble wsX8_soluble) := goodIn_app (goodIn_of _ (by decide +kernel)) ggX5_swabOff_X8_soluble
set_option maxRecDepth 20000 in
theorem ggX5_swabOff_X8_takeOff : GoodIn wsX5_swabOff wsX8_takeOff := goodIn_r _ [126, 22, 23, 24, 127, 25, 128, 66, 28, 67, 154, 155, 156, 157, 158, 159, 160, 161, 167, 168, 169, 170, 171, 172, 173, 174, 175, 176, 177] (by decide +kernel) (by decide +kernel)
set_option maxRecDepth 20000 in
theorem gX5_swabOff_X8_takeOff : GoodIn wsX5_swabOff (wsV RX5 167 RX8 yX8_takeOff wsX8_takeOff) := goodIn_app (goodIn_of _ (by decide +kernel)) ggX5_swabOff_X8_takeOff
set_option maxRecDepth 20000 in
theorem ggX5_swabOff_X8_top : GoodIn wsX5_swabOff wsX8_top := goodIn_r _ [132, 23, 22, 154, 155, 156] (by decide +kernel) (by decide +kernel)
set_option maxRecDepth 20000 in
theorem gX5_swabOff_X8_top : GoodIn wsX5_swabOff (wsV RX5 182 RX8 yX8_top wsX8_top) := goodIn_app (goodIn_of _ (by decide +kernel)) ggX5_swabOff_X8_top
set_option maxRecDepth 20000 in
theorem ggX5_swabOff_X9_swellsBy : GoodIn wsX5_swabOff wsX9_swellsBy := goodIn_r _ [136, 35, 36, 167, 168, 169, 170, 171, 172, 173, 174, 175, 176, 177] (by decide +kernel) (by decide +kernel)
set_option maxRecDepth 20000 in
theorem gX5_swabOff_X9_swellsBy : GoodIn wsX5_swabOff (wsV RX5 188 RX9 yX9_swellsBy wsX9_swellsBy) := goodIn_app (goodIn_of _ (by decide +kernel)) ggX5_swabOff_X9_swellsBy
set_option maxRecDepth 20000 in
theorem ggX5_swabOff_X8_tire : GoodIn wsX5_swabOff wsX8_tire := goodIn_r _ [140, 141, 26, 27, 28, 29, 154, 155, 156] (by decide +kernel) (by decide +kernel)
set_option maxRecDepth 20000 in
theorem gX5_swabOff_X8_tire : GoodIn wsX5_swabOff (wsV RX5 192 RX8 yX8_tire wsX8_tire) := goodIn_app (goodIn_of _ (by decide +kernel)) ggX5_swabOff_X8_tire
theorem dX5_swabOff_0 : decode cX5_swabOff 0 = .ok (.aload_n 0, 1) := by decide +kernel
theorem dX5_swabOff_1 : decode cX5_swabOff 1 = .ok (.aload_n 1, 1) := by decide +kernel
theorem dX5_swabOff_2 : decode cX5_swabOff 2 = .ok (.getfield 76, 3) := by decide +kernel
theorem dX5_swabOff_5 : decode cX5_swabOff 5 = .ok (.aload_n 1, 1) := by decide +kernel
theorem dX5_swabOff_6 : decode cX5_swabOff 6 = .ok (.getfield 81, 3) := by decide +kernel
theorem dX5_swabOff_9 : decode cX5_swabOff 9 = .ok (.invokevirtual 43, 3) := by decide +kernel
theorem dX5_swabOff_12 : decode cX5_swabOff 12 = .ok (.astore_n 2, 1) := by decide +kernel
theorem dX5_swabOff_13 : decode cX5_swabOff 13 = .ok (.aload_n 2, 1) := by decide +kernel
theorem dX5_swabOff_14 : decode cX5_swabOff 14 = .ok (.aload_n 1, 1) := by decide +kernel
theorem dX5_swabOff_15 : decode cX5_swabOff 15 = .ok (.getfield 173, 3) := by decide +kernel
theorem dX5_swabOff_18 : decode cX5_swabOff 18 = .ok (.aload_n 1, 1) := by decide +kernel
theorem dX5_swabOff_19 : decode cX5_swabOff 19 = .ok (.getfield 144, 3) := by decide +kernel
theorem dX5_swabOff_22 : decode cX5_swabOff 22 = .ok (.aload_n 1, 1) := by decide +kernel
theorem dX5_swabOff_23 : decode cX5_swabOff 23 = .ok (.getfield 176, 3) := by decide +kernel
theorem dX5_swabOff_26 : decode cX5_swabOff 26 = .ok (.imul, 1) := by decide +kernel
theorem dX5_swabOff_27 : decode cX5_swabOff 27 = .ok (.invokevirtual 179, 3) := by decide +kernel
theorem dX5_swabOff_30 : decode cX5_swabOff 30 = .ok (.istore_n 3, 1) := by decide +kernel
theorem dX5_swabOff_31 : decode cX5_swabOff 31 = .ok (.aload_n 2, 1) := by decide +kernel
theorem dX5_swabOff_32 : decode cX5_swabOff 32 = .ok (.iload_n 3, 1) := by decide +kernel
theorem dX5_swabOff_33 : decode cX5_swabOff 33 = .ok (.invokevirtual 167, 3) := by decide +kernel
theorem dX5_swabOff_36 : decode cX5_swabOff 36 = .ok (.aload_n 2, 1) := by decide +kernel
theorem dX5_swabOff_37 : decode cX5_swabOff 37 = .ok (.getfield 91, 3) := by decide +kernel
theorem dX5_swabOff_40 : decode cX5_swabOff 40 = .ok (.ifCond .le 28, 3) := by decide +kernel
theorem dX5_swabOff_43 : decode cX5_swabOff 43 = .ok (.aload_n 2, 1) := by decide +kernel
theorem dX5_swabOff_44 : decode cX5_swabOff 44 = .ok (.invokevirtual 182, 3) := by decide +kernel
theorem dX5_swabOff_47 : decode cX5_swabOff 47 = .ok (.getfield 185, 3) := by decide +kernel
theorem dX5_swabOff_50 : decode cX5_swabOff 50 = .ok (.aload_n 1, 1) := by decide +kernel
theorem dX5_swabOff_51 : decode cX5_swabOff 51 = .ok (.getfield 173, 3) := by decide +kernel
theorem dX5_swabOff_54 : decode cX5_swabOff 54 = .ok (.invokevirtual 188, 3) := by decide +kernel
theorem dX5_swabOff_57 : decode cX5_swabOff 57 = .ok (.ifCond .eq 11, 3) := by decide +kernel
theorem dX5_swabOff_60 : decode cX5_swabOff 60 = .ok (.aload_n 2, 1) := by decide +kernel
theorem dX5_swabOff_61 : decode cX5_swabOff 61 = .ok (.aload_n 1, 1) := by decide +kernel
theorem dX5_swabOff_62 : decode cX5_swabOff 62 = .ok (.getfield 144, 3) := by decide +kernel
theorem dX5_swabOff_65 : decode cX5_swabOff 65 = .ok (.invokevirtual 192, 3) := by decide +kernel
theorem dX5_swabOff_68 : decode cX5_swabOff 68 = .ok (.iload_n 3, 1) := by decide +kernel
theorem dX5_swabOff_69 : decode cX5_swabOff 69 = .ok (.ireturn, 1) := by decide +kernel
set_option maxRecDepth 20000 in
theorem ggX5_fillUp_X5_missing : GoodIn wsX5_fillUp wsX5_missing := goodIn_ca (goodIn_r _ [9, 10, 11, 12, 13, 14, 15, 16, 17, 18, 19, 20, 21, 22, 8, 23, 24, 25, 26, 27, 28, 29, 30, 31, 32, 33, 34, 56, 57, 58, 59, 60, 61, 62, 63, 64, 65, 66, 67, 68] (by decide +kernel) (by decide +kernel)) (goodIn_sub (fun _ h => List.mem_cons_of_mem _ (List.mem_append_right _ h)) (by decide +kernel))
set_option maxRecDepth 20000 in
theorem gX5_fillUp_X5_missing : GoodIn wsX5_fillUp (wsV RX5 94 RX5 yX5_missing wsX5_missing) := goodIn_app (goodIn_of _ (by decide +kernel)) ggX5_fillUp_X5_missing
set_option maxRecDepth 20000 in
theorem ggX5_fillUp_X5_at : GoodIn wsX5_fillUp wsX5_at := goodIn_r _ [23, 24, 25, 18, 26, 56, 57, 58, 59, 60] (by decide +kernel) (by decide +kernel)
set_option maxRecDepth 20000 in
theorem gX5_fillUp_X5_at : GoodIn wsX5_fillUp (wsV RX5 43 RX5 yX5_at wsX5_at) := goodIn_app (goodIn_of _ (by decide +kernel)) ggX5_fillUp_X5_at
set_option maxRecDepth 20000 in
theorem ggX5_fillUp_X8_put : GoodIn wsX5_fillUp wsX8_put := goodIn_r _ [38, 32, 33, 39, 34, 40, 41, 42, 43, 61, 62, 63, 64, 65, 66, 67, 68, 69, 70, 71, 72, 73, 74, 75, 76, 77, 78, 79] (by decide +kernel) (by decide +kernel)
set_option maxRecDepth 20000 in
theorem gX5_fillUp_X8_put : GoodIn wsX5_fillUp (wsV RX5 147 RX8 yX8_put wsX8_put) := goodIn_app (goodIn_of _ (by decide +kernel)) ggX5_fillUp_X8_put
theorem dX5_fillUp_0 : decode cX5_fillUp 0 = .ok (.aload_n 0, 1) := by decide +kernel
theorem dX5_fillUp_1 : decode cX5_fillUp 1 = .ok (.aload_n 1, 1) := by decide +kernel
theorem dX5_fillUp_2 : decode cX5_fillUp 2 = .ok (.getfield 76, 3) := by decide +kernel
theorem dX5_fillUp_5 : decode cX5_fillUp 5 = .ok (.aload_n 1, 1) := by decide +kernel
theorem dX5_fillUp_6 : decode cX5_fillUp 6 = .ok (.getfield 81, 3) := by decide +kernel
theorem dX5_fillUp_9 : decode cX5_fillUp 9 = .ok (.invokevirtual 94, 3) := by decide +kernel
theorem dX5_fillUp_12 : decode cX5_fillUp 12 = .ok (.istore_n 2, 1) := by decide +kernel
theorem dX5_fillUp_13 : decode cX5_fillUp 13 = .ok (.aload_n 0, 1) := by decide +kernel
theorem dX5_fillUp_14 : decode cX5_fillUp 14 = .ok (.aload_n 1, 1) := by decide +kernel
theorem dX5_fillUp_15 : decode cX5_fillUp 15 = .ok (.getfield 76, 3) := by decide +kernel
theorem dX5_fillUp_18 : decode cX5_fillUp 18 = .ok (.aload_n 1, 1) := by decide +kernel
theorem dX5_fillUp_19 : decode cX5_fillUp 19 = .ok (.getfield 81, 3) := by decide +kernel
theorem dX5_fillUp_22 : decode cX5_fillUp 22 = .ok (.invokevirtual 43, 3) := by decide +kernel
theorem dX5_fillUp_25 : decode cX5_fillUp 25 = .ok (.aload_n 1, 1) := by decide +kernel
theorem dX5_fillUp_26 : decode cX5_fillUp 26 = .ok (.getfield 140, 3) := by decide +kernel
theorem dX5_fillUp_29 : decode cX5_fillUp 29 = .ok (.iload_n 2, 1) := by decide +kernel
theorem dX5_fillUp_30 : decode cX5_fillUp 30 = .ok (.aload_n 0, 1) := by decide +kernel
theorem dX5_fillUp_31 : decode cX5_fillUp 31 = .ok (.getfield 24, 3) := by decide +kernel
theorem dX5_fillUp_34 : decode cX5_fillUp 34 = .ok (.invokevirtual 147, 3) := by decide +kernel
theorem dX5_fillUp_37 : decode cX5_fillUp 37 = .ok (.iload_n 2, 1) := by decide +kernel
theorem dX5_fillUp_38 : decode cX5_fillUp 38 = .ok (.ireturn, 1) := by decide +kernel
set_option maxRecDepth 20000 in
theorem ggX5_touch_X5_at : GoodIn wsX5_touch wsX5_at := goodIn_r _ [16, 17, 18, 19, 20, 68, 69, 70, 71, 72] (by decide +kernel) (by decide +kernel)
set_option maxRecDepth 20000 in
theorem gX5_touch_X5_at : GoodIn wsX5_touch (wsV RX5 43 RX5 yX5_at wsX5_at) := goodIn_app (goodIn_of _ (by decide +kernel)) ggX5_touch_X5_at
set_option maxRecDepth 20000 in
theorem ggX5_touch_X8_put : GoodIn wsX5_touch wsX8_put := goodIn_r _ [25, 26, 27, 28, 29, 30, 31, 32, 33, 78, 79, 80, 73, 74, 75, 76, 77, 81, 82, 83, 84, 85, 86, 87, 88, 89, 90, 91] (by decide +kernel) (by decide +kernel)
set_option maxRecDepth 20000 in
theorem gX5_touch_X8_put : GoodIn wsX5_touch (wsV RX5 147 RX8 yX8_put wsX8_put) := goodIn_app (goodIn_of _ (by decide +kernel)) ggX5_touch_X8_put
set_option maxRecDepth 20000 in
theorem ggX5_touch_X8_top : GoodIn wsX5_touch wsX8_top := goodIn_r _ [37, 27, 26, 78, 79, 80] (by decide +kernel) (by decide +kernel)
set_option maxRecDepth 20000 in
theorem gX5_touch_X8_top : GoodIn wsX5_touch (wsV RX5 182 RX8 yX8_top wsX8_top) := goodIn_app (goodIn_of _ (by decide +kernel)) ggX5_touch_X8_top
set_option maxRecDepth 20000 in
theorem ggX5_touch_X8_plain : GoodIn wsX5_touch wsX8_plain := goodIn_r _ [41, 26, 27, 42, 43, 44, 45, 46, 47, 48, 49, 50, 51, 52, 53, 54, 55, 78, 79, 80, 73, 74, 75, 76, 77, 81, 82, 83, 84, 85, 86, 87, 88, 89, 90, 91] (by decide +kernel) (by decide +kernel)
set_option maxRecDepth 20000 in
theorem gX5_touch_X8_plain : GoodIn wsX5_touch (wsV RX5 199 RX8 yX8_plain wsX8_plain) := goodIn_app (goodIn_of _ (by decide +kernel)) ggX5_touch_X8_plain
theorem dX5_touch_0 : decode cX5_touch 0 = .ok (.aload_n 0, 1) := by decide +kernel
theorem dX5_touch_1 : decode cX5_touch 1 = .ok (.aload_n 1, 1) := by decide +kernel
theorem dX5_touch_2 : decode cX5_touch 2 = .ok (.getfield 76, 3) := by decide +kernel
theorem dX5_touch_5 : decode cX5_touch 5 = .ok (.aload_n 1, 1) := by decide +kernel
theorem dX5_touch_6 : decode cX5_touch 6 = .ok (.getfield 81, 3) := by decide +kernel
theorem dX5_touch_9 : decode cX5_touch 9 = .ok (.invokevirtual 43, 3) := by decide +kernel
theorem dX5_touch_12 : decode cX5_touch 12 = .ok (.astore_n 2, 1) := by decide +kernel
theorem dX5_touch_13 : decode cX5_touch 13 = .ok (.aload_n 2, 1) := by decide +kernel
theorem dX5_touch_14 : decode cX5_touch 14 = .ok (.aload_n 1, 1) := by decide +kernel
theorem dX5_touch_15 : decode cX5_touch 15 = .ok (.getfield 140, 3) := by decide +kernel
theorem dX5_touch_18 : decode cX5_touch 18 = .ok (.iconst 5, 1) := by decide +kernel
theorem dX5_touch_19 : decode cX5_touch 19 = .ok (.aload_n 0, 1) := by decide +kernel
theorem dX5_touch_20 : decode cX5_touch 20 = .ok (.getfield 24, 3) := by decide +kernel
theorem dX5_touch_23 : decode cX5_touch 23 = .ok (.invokevirtual 147, 3) := by decide +kernel
theorem dX5_touch_26 : decode cX5_touch 26 = .ok (.iconst 0, 1) := by decide +kernel
theorem dX5_touch_27 : decode cX5_touch 27 = .ok (.istore_n 3, 1) := by decide +kernel
theorem dX5_touch_28 : decode cX5_touch 28 = .ok (.ldc 195, 2) := by decide +kernel
theorem dX5_touch_30 : decode cX5_touch 30 = .ok (.istore 4, 2) := by decide +kernel
theorem dX5_touch_32 : decode cX5_touch 32 = .ok (.iconst 0, 1) := by decide +kernel
theorem dX5_touch_33 : decode cX5_touch 33 = .ok (.istore 5, 2) := by decide +kernel
theorem dX5_touch_35 : decode cX5_touch 35 = .ok (.iload 5, 2) := by decide +kernel
theorem dX5_touch_37 : decode cX5_touch 37 = .ok (.bipush 99, 2) := by decide +kernel
theorem dX5_touch_39 : decode cX5_touch 39 = .ok (.if_icmp .gt 46, 3) := by decide +kernel
theorem dX5_touch_42 : decode cX5_touch 42 = .ok (.aload_n 2, 1) := by decide +kernel
theorem dX5_touch_43 : decode cX5_touch 43 = .ok (.invokevirtual 182, 3) := by decide +kernel
theorem dX5_touch_46 : decode cX5_touch 46 = .ok (.iload 5, 2) := by decide +kernel
theorem dX5_touch_48 : decode cX5_touch 48 = .ok (.putfield 196, 3) := by decide +kernel
theorem dX5_touch_51 : decode cX5_touch 51 = .ok (.aload_n 2, 1) := by decide +kernel
theorem dX5_touch_52 : decode cX5_touch 52 = .ok (.invokevirtual 199, 3) := by decide +kernel
theorem dX5_touch_55 : decode cX5_touch 55 = .ok (.aload_n 1, 1) := by decide +kernel
theorem dX5_touch_56 : decode cX5_touch 56 = .ok (.getfield 144, 3) := by decide +kernel
theorem dX5_touch_59 : decode cX5_touch 59 = .ok (.isub, 1) := by decide +kernel
theorem dX5_touch_60 : decode cX5_touch 60 = .ok (.invokestatic 65, 3) := by decide +kernel
theorem dX5_touch_63 : decode cX5_touch 63 = .ok (.istore 6, 2) := by decide +kernel
theorem dX5_touch_65 : decode cX5_touch 65 = .ok (.iload 6, 2) := by decide +kernel
theorem dX5_touch_67 : decode cX5_touch 67 = .ok (.iload 4, 2) := by decide +kernel
theorem dX5_touch_69 : decode cX5_touch 69 = .ok (.if_icmp .ge 10, 3) := by decide +kernel
theorem dX5_touch_72 : decode cX5_touch 72 = .ok (.iload 5, 2) := by decide +kernel
theorem dX5_touch_74 : decode cX5_touch 74 = .ok (.istore_n 3, 1) := by decide +kernel
theorem dX5_touch_75 : decode cX5_touch 75 = .ok (.iload 6, 2) := by decide +kernel
theorem dX5_touch_77 : decode cX5_touch 77 = .ok (.istore 4, 2) := by decide +kernel
theorem dX5_touch_79 : decode cX5_touch 79 = .ok (.iinc 5 1, 3) := by decide +kernel
theorem dX5_touch_82 : decode cX5_touch 82 = .ok (.goto (-47), 3) := by decide +kernel
theorem dX5_touch_85 : decode cX5_touch 85 = .ok (.aload_n 2, 1) := by decide +kernel
theorem dX5_touch_86 : decode cX5_touch 86 = .ok (.invokevirtual 182, 3) := by decide +kernel
theorem dX5_touch_89 : decode cX5_touch 89 = .ok (.iload_n 3, 1) := by decide +kernel
theorem dX5_touch_90 : decode cX5_touch 90 = .ok (.putfield 196, 3) := by decide +kernel
theorem dX5_touch_93 : decode cX5_touch 93 = .ok (.aload_n 2, 1) := by decide +kernel
theorem dX5_touch_94 : decode cX5_touch 94 = .ok (.invokevirtual 199, 3) := by decide +kernel
theorem dX5_touch_97 : decode cX5_touch 97 = .ok (.ireturn, 1) := by decide +kernel
set_option maxRecDepth 20000 in
theorem ggX5_glueDown_X5_at : GoodIn wsX5_glueDown wsX5_at := goodIn_r _ [12, 13, 14, 15, 16, 32, 33, 34, 35, 36] (by decide +kernel) (by decide +kernel)
set_option maxRecDepth 20000 in
theorem gX5_glueDown_X5_at : GoodIn wsX5_glueDown (wsV RX5 43 RX5 yX5_at wsX5_at) := goodIn_app (goodIn_of _ (by decide +kernel)) ggX5_glueDown_X5_at
theorem dX5_glueDown_0 : decode cX5_glueDown 0 = .ok (.aload_n 0, 1) := by decide +kernel
theorem dX5_glueDown_1 : decode cX5_glueDown 1 = .ok (.aload_n 1, 1) := by decide +kernel
theorem dX5_glueDown_2 : decode cX5_glueDown 2 = .ok (.getfield 76, 3) := by decide +kernel
theorem dX5_glueDown_5 : decode cX5_glueDown 5 = .ok (.aload_n 1, 1) := by decide +kernel
theorem dX5_glueDown_6 : decode cX5_glueDown 6 = .ok (.getfield 81, 3) := by decide +kernel
theorem dX5_glueDown_9 : decode cX5_glueDown 9 = .ok (.invokevirtual 43, 3) := by decide +kernel
theorem dX5_glueDown_12 : decode cX5_glueDown 12 = .ok (.astore_n 2, 1) := by decide +kernel
theorem dX5_glueDown_13 : decode cX5_glueDown 13 = .ok (.aload_n 2, 1) := by decide +kernel
theorem dX5_glueDown_14 : decode cX5_glueDown 14 = .ok (.iconst 0, 1) := by decide +kernel
theorem dX5_glueDown_15 : decode cX5_glueDown 15 = .ok (.aload_n 2, 1) := by decide +kernel
theorem dX5_glueDown_16 : decode cX5_glueDown 16 = .ok (.getfield 202, 3) := by decide +kernel
theorem dX5_glueDown_19 : decode cX5_glueDown 19 = .ok (.bipush 30, 2) := by decide +kernel
theorem dX5_glueDown_21 : decode cX5_glueDown 21 = .ok (.isub, 1) := by decide +kernel
theorem dX5_glueDown_22 : decode cX5_glueDown 22 = .ok (.invokestatic 70, 3) := by decide +kernel
theorem dX5_glueDown_25 : decode cX5_glueDown 25 = .ok (.putfield 202, 3) := by decide +kernel
theorem dX5_glueDown_28 : decode cX5_glueDown 28 = .ok (.aload_n 2, 1) := by decide +kernel
theorem dX5_glueDown_29 : decode cX5_glueDown 29 = .ok (.getfield 202, 3) := by decide +kernel
theorem dX5_glueDown_32 : decode cX5_glueDown 32 = .ok (.ireturn, 1) := by decide +kernel
set_option maxRecDepth 20000 in
theorem ggX5_travel_X8_bear : GoodIn wsX5_travel wsX8_bear := goodIn_r _ [9, 10, 11, 12, 13, 14, 15, 16, 17, 18, 8, 19, 20, 21, 22, 23, 24, 25, 26, 27, 28, 29, 30, 31, 32, 33, 42, 43, 44, 45, 46, 47, 48, 49, 50, 51, 52, 53, 54, 55, 56, 57, 58, 59, 60] (by decide +kernel) (by decide +kernel)
set_option maxRecDepth 20000 in
theorem gX5_travel_X8_bear : GoodIn wsX5_travel (wsV RX5 211 RX8 yX8_bear wsX8_bear) := goodIn_app (goodIn_of _ (by decide +kernel)) ggX5_travel_X8_bear
theorem dX5_travel_0 : decode cX5_travel 0 = .ok (.iconst 0, 1) := by decide +kernel
theorem dX5_travel_1 : decode cX5_travel 1 = .ok (.istore_n 2, 1) := by decide +kernel
theorem dX5_travel_2 : decode cX5_travel 2 = .ok (.iconst 0, 1) := by decide +kernel
theorem dX5_travel_3 : decode cX5_travel 3 = .ok (.istore_n 3, 1) := by decide +kernel
theorem dX5_travel_4 : decode cX5_travel 4 = .ok (.iload_n 3, 1) := by decide +kernel
theorem dX5_travel_5 : decode cX5_travel 5 = .ok (.aload_n 1, 1) := by decide +kernel
theorem dX5_travel_6 : decode cX5_travel 6 = .ok (.getfield 105, 3) := by decide +kernel
theorem dX5_travel_9 : decode cX5_travel 9 = .ok (.if_icmp .ge 50, 3) := by decide +kernel
theorem dX5_travel_12 : decode cX5_travel 12 = .ok (.iconst 0, 1) := by decide +kernel
theorem dX5_travel_13 : decode cX5_travel 13 = .ok (.istore 4, 2) := by decide +kernel
theorem dX5_travel_15 : decode cX5_travel 15 = .ok (.iload 4, 2) := by decide +kernel
theorem dX5_travel_17 : decode cX5_travel 17 = .ok (.bipush 48, 2) := by decide +kernel
theorem dX5_travel_19 : decode cX5_travel 19 = .ok (.if_icmp .ge 34, 3) := by decide +kernel
theorem dX5_travel_22 : decode cX5_travel 22 = .ok (.iload_n 2, 1) := by decide +kernel
theorem dX5_travel_23 : decode cX5_travel 23 = .ok (.aload_n 0, 1) := by decide +kernel
theorem dX5_travel_24 : decode cX5_travel 24 = .ok (.getfield 11, 3) := by decide +kernel
theorem dX5_travel_27 : decode cX5_travel 27 = .ok (.iload 4, 2) := by decide +kernel
theorem dX5_travel_29 : decode cX5_travel 29 = .ok (.aaload, 1) := by decide +kernel
theorem dX5_travel_30 : decode cX5_travel 30 = .ok (.aload_n 1, 1) := by decide +kernel
theorem dX5_travel_31 : decode cX5_travel 31 = .ok (.getfield 205, 3) := by decide +kernel
theorem dX5_travel_34 : decode cX5_travel 34 = .ok (.iload_n 3, 1) := by decide +kernel
theorem dX5_travel_35 : decode cX5_travel 35 = .ok (.iaload, 1) := by decide +kernel
theorem dX5_travel_36 : decode cX5_travel 36 = .ok (.aload_n 1, 1) := by decide +kernel
theorem dX5_travel_37 : decode cX5_travel 37 = .ok (.getfield 208, 3) := by decide +kernel
theorem dX5_travel_40 : decode cX5_travel 40 = .ok (.iload_n 3, 1) := by decide +kernel
theorem dX5_travel_41 : decode cX5_travel 41 = .ok (.iaload, 1) := by decide +kernel
theorem dX5_travel_42 : decode cX5_travel 42 = .ok (.invokevirtual 211, 3) := by decide +kernel
theorem dX5_travel_45 : decode cX5_travel 45 = .ok (.iadd, 1) := by decide +kernel
theorem dX5_travel_46 : decode cX5_travel 46 = .ok (.istore_n 2, 1) := by decide +kernel
theorem dX5_travel_47 : decode cX5_travel 47 = .ok (.iinc 4 1, 3) := by decide +kernel
theorem dX5_travel_50 : decode cX5_travel 50 = .ok (.goto (-35), 3) := by decide +kernel
theorem dX5_travel_53 : decode cX5_travel 53 = .ok (.iinc 3 1, 3) := by decide +kernel
theorem dX5_travel_56 : decode cX5_travel 56 = .ok (.goto (-52), 3) := by decide +kernel
theorem dX5_travel_59 : decode cX5_travel 59 = .ok (.iload_n 2, 1) := by decide +kernel
theorem dX5_travel_60 : decode cX5_travel 60 = .ok (.ireturn, 1) := by decide +kernel
set_option maxRecDepth 20000 in
theorem ggX5_hasOriginal_X8_hasOriginal : GoodIn wsX5_hasOriginal wsX8_hasOriginal := goodIn_r _ [6, 7, 8, 9, 10, 11, 17, 18, 19, 20, 21, 22, 23, 24, 25, 26, 27, 28, 29, 30, 31, 32, 33, 34, 35] (by decide +kernel) (by decide +kernel)
set_option maxRecDepth 20000 in
theorem gX5_hasOriginal_X8_hasOriginal : GoodIn wsX5_hasOriginal (wsV RX5 214 RX8 yX8_hasOriginal wsX8_hasOriginal) := goodIn_app (goodIn_of _ (by decide +kernel)) ggX5_hasOriginal_X8_hasOriginal
theorem dX5_hasOriginal_0 : decode cX5_hasOriginal 0 = .ok (.iconst 0, 1) := by decide +kernel
theorem dX5_hasOriginal_1 : decode cX5_hasOriginal 1 = .ok (.istore_n 3, 1) := by decide +kernel
theorem dX5_hasOriginal_2 : decode cX5_hasOriginal 2 = .ok (.iload_n 3, 1) := by decide +kernel
theorem dX5_hasOriginal_3 : decode cX5_hasOriginal 3 = .ok (.bipush 48, 2) := by decide +kernel
theorem dX5_hasOriginal_5 : decode cX5_hasOriginal 5 = .ok (.if_icmp .ge 25, 3) := by decide +kernel
theorem dX5_hasOriginal_8 : decode cX5_hasOriginal 8 = .ok (.aload_n 0, 1) := by decide +kernel
theorem dX5_hasOriginal_9 : decode cX5_hasOriginal 9 = .ok (.getfield 11, 3) := by decide +kernel
theorem dX5_hasOriginal_12 : decode cX5_hasOriginal 12 = .ok (.iload_n 3, 1) := by decide +kernel
theorem dX5_hasOriginal_13 : decode cX5_hasOriginal 13 = .ok (.aaload, 1) := by decide +kernel
theorem dX5_hasOriginal_14 : decode cX5_hasOriginal 14 = .ok (.aload_n 1, 1) := by decide +kernel
theorem dX5_hasOriginal_15 : decode cX5_hasOriginal 15 = .ok (.iload_n 2, 1) := by decide +kernel
theorem dX5_hasOriginal_16 : decode cX5_hasOriginal 16 = .ok (.invokevirtual 214, 3) := by decide +kernel
theorem dX5_hasOriginal_19 : decode cX5_hasOriginal 19 = .ok (.ifCond .eq 5, 3) := by decide +kernel
theorem dX5_hasOriginal_22 : decode cX5_hasOriginal 22 = .ok (.iconst 1, 1) := by decide +kernel
theorem dX5_hasOriginal_23 : decode cX5_hasOriginal 23 = .ok (.ireturn, 1) := by decide +kernel
theorem dX5_hasOriginal_24 : decode cX5_hasOriginal 24 = .ok (.iinc 3 1, 3) := by decide +kernel
theorem dX5_hasOriginal_27 : decode cX5_hasOriginal 27 = .ok (.goto (-25), 3) := by decide +kernel
theorem dX5_hasOriginal_30 : decode cX5_hasOriginal 30 = .ok (.iconst 0, 1) := by decide +kernel
theorem dX5_hasOriginal_31 : decode cX5_hasOriginal 31 = .ok (.ireturn, 1) := by decide +kernel
theorem dX5_covered_0 : decode cX5_covered 0 = .ok (.iconst 0, 1) := by decide +kernel
theorem dX5_covered_1 : decode cX5_covered 1 = .ok (.istore_n 1, 1) := by decide +kernel
theorem dX5_covered_2 : decode cX5_covered 2 = .ok (.iconst 0, 1) := by decide +kernel
theorem dX5_covered_3 : decode cX5_covered 3 = .ok (.istore_n 2, 1) := by decide +kernel
theorem dX5_covered_4 : decode cX5_covered 4 = .ok (.iload_n 2, 1) := by decide +kernel
theorem dX5_covered_5 : decode cX5_covered 5 = .ok (.bipush 48, 2) := by decide +kernel
theorem dX5_covered_7 : decode cX5_covered 7 = .ok (.if_icmp .ge 24, 3) := by decide +kernel
theorem dX5_covered_10 : decode cX5_covered 10 = .ok (.aload_n 0, 1) := by decide +kernel
theorem dX5_covered_11 : decode cX5_covered 11 = .ok (.getfield 11, 3) := by decide +kernel
theorem dX5_covered_14 : decode cX5_covered 14 = .ok (.iload_n 2, 1) := by decide +kernel
theorem dX5_covered_15 : decode cX5_covered 15 = .ok (.aaload, 1) := by decide +kernel
theorem dX5_covered_16 : decode cX5_covered 16 = .ok (.getfield 91, 3) := by decide +kernel
theorem dX5_covered_19 : decode cX5_covered 19 = .ok (.ifCond .le 6, 3) := by decide +kernel
theorem dX5_covered_22 : decode cX5_covered 22 = .ok (.iinc 1 1, 3) := by decide +kernel
theorem dX5_covered_25 : decode cX5_covered 25 = .ok (.iinc 2 1, 3) := by decide +kernel
theorem dX5_covered_28 : decode cX5_covered 28 = .ok (.goto (-24), 3) := by decide +kernel
theorem dX5_covered_31 : decode cX5_covered 31 = .ok (.iload_n 1, 1) := by decide +kernel
theorem dX5_covered_32 : decode cX5_covered 32 = .ok (.ireturn, 1) := by decide +kernel
set_option maxRecDepth 20000 in
theorem ggX5_tonesSeen_X8_plain : GoodIn wsX5_tonesSeen wsX8_plain := goodIn_r _ [7, 8, 9, 10, 11, 12, 13, 14, 15, 16, 17, 18, 19, 20, 21, 22, 23, 29, 30, 31, 32, 33, 34, 35, 36, 37, 38, 39, 40, 41, 42, 43, 44, 45, 46, 47] (by decide +kernel) (by decide +kernel)
set_option maxRecDepth 20000 in
theorem gX5_tonesSeen_X8_plain : GoodIn wsX5_tonesSeen (wsV RX5 199 RX8 yX8_plain wsX8_plain) := goodIn_app (goodIn_of _ (by decide +kernel)) ggX5_tonesSeen_X8_plain
theorem dX5_tonesSeen_0 : decode cX5_tonesSeen 0 = .ok (.iconst 0, 1) := by decide +kernel
theorem dX5_tonesSeen_1 : decode cX5_tonesSeen 1 = .ok (.istore_n 1, 1) := by decide +kernel
theorem dX5_tonesSeen_2 : decode cX5_tonesSeen 2 = .ok (.iconst 0, 1) := by decide +kernel
theorem dX5_tonesSeen_3 : decode cX5_tonesSeen 3 = .ok (.istore_n 2, 1) := by decide +kernel
theorem dX5_tonesSeen_4 : decode cX5_tonesSeen 4 = .ok (.iload_n 2, 1) := by decide +kernel
theorem dX5_tonesSeen_5 : decode cX5_tonesSeen 5 = .ok (.bipush 48, 2) := by decide +kernel
theorem dX5_tonesSeen_7 : decode cX5_tonesSeen 7 = .ok (.if_icmp .ge 33, 3) := by decide +kernel
theorem dX5_tonesSeen_10 : decode cX5_tonesSeen 10 = .ok (.aload_n 0, 1) := by decide +kernel
theorem dX5_tonesSeen_11 : decode cX5_tonesSeen 11 = .ok (.getfield 11, 3) := by decide +kernel
theorem dX5_tonesSeen_14 : decode cX5_tonesSeen 14 = .ok (.iload_n 2, 1) := by decide +kernel
theorem dX5_tonesSeen_15 : decode cX5_tonesSeen 15 = .ok (.aaload, 1) := by decide +kernel
theorem dX5_tonesSeen_16 : decode cX5_tonesSeen 16 = .ok (.getfield 91, 3) := by decide +kernel
theorem dX5_tonesSeen_19 : decode cX5_tonesSeen 19 = .ok (.ifCond .le 15, 3) := by decide +kernel
theorem dX5_tonesSeen_22 : decode cX5_tonesSeen 22 = .ok (.iload_n 1, 1) := by decide +kernel
theorem dX5_tonesSeen_23 : decode cX5_tonesSeen 23 = .ok (.aload_n 0, 1) := by decide +kernel
theorem dX5_tonesSeen_24 : decode cX5_tonesSeen 24 = .ok (.getfield 11, 3) := by decide +kernel
theorem dX5_tonesSeen_27 : decode cX5_tonesSeen 27 = .ok (.iload_n 2, 1) := by decide +kernel
theorem dX5_tonesSeen_28 : decode cX5_tonesSeen 28 = .ok (.aaload, 1) := by decide +kernel
theorem dX5_tonesSeen_29 : decode cX5_tonesSeen 29 = .ok (.invokevirtual 199, 3) := by decide +kernel
theorem dX5_tonesSeen_32 : decode cX5_tonesSeen 32 = .ok (.iadd, 1) := by decide +kernel
theorem dX5_tonesSeen_33 : decode cX5_tonesSeen 33 = .ok (.istore_n 1, 1) := by decide +kernel
theorem dX5_tonesSeen_34 : decode cX5_tonesSeen 34 = .ok (.iinc 2 1, 3) := by decide +kernel
theorem dX5_tonesSeen_37 : decode cX5_tonesSeen 37 = .ok (.goto (-33), 3) := by decide +kernel
theorem dX5_tonesSeen_40 : decode cX5_tonesSeen 40 = .ok (.iload_n 1, 1) := by decide +kernel
theorem dX5_tonesSeen_41 : decode cX5_tonesSeen 41 = .ok (.ireturn, 1) := by decide +kernel
theorem dX5_sumUp_0 : decode cX5_sumUp 0 = .ok (.ldc2_w 218, 3) := by decide +kernel
theorem dX5_sumUp_3 : decode cX5_sumUp 3 = .ok (.lstore_n 1, 1) := by decide +kernel
theorem dX5_sumUp_4 : decode cX5_sumUp 4 = .ok (.iconst 0, 1) := by decide +kernel
theorem dX5_sumUp_5 : decode cX5_sumUp 5 = .ok (.istore_n 3, 1) := by decide +kernel
theorem dX5_sumUp_6 : decode cX5_sumUp 6 = .ok (.iload_n 3, 1) := by decide +kernel
theorem dX5_sumUp_7 : decode cX5_sumUp 7 = .ok (.bipush 48, 2) := by decide +kernel
theorem dX5_sumUp_9 : decode cX5_sumUp 9 = .ok (.if_icmp .ge 92, 3) := by decide +kernel
theorem dX5_sumUp_12 : decode cX5_sumUp 12 = .ok (.iconst 0, 1) := by decide +kernel
theorem dX5_sumUp_13 : decode cX5_sumUp 13 = .ok (.istore 4, 2) := by decide +kernel
theorem dX5_sumUp_15 : decode cX5_sumUp 15 = .ok (.iload 4, 2) := by decide +kernel
theorem dX5_sumUp_17 : decode cX5_sumUp 17 = .ok (.aload_n 0, 1) := by decide +kernel
theorem dX5_sumUp_18 : decode cX5_sumUp 18 = .ok (.getfield 11, 3) := by decide +kernel
theorem dX5_sumUp_21 : decode cX5_sumUp 21 = .ok (.iload_n 3, 1) := by decide +kernel
theorem dX5_sumUp_22 : decode cX5_sumUp 22 = .ok (.aaload, 1) := by decide +kernel
theorem dX5_sumUp_23 : decode cX5_sumUp 23 = .ok (.getfield 91, 3) := by decide +kernel
theorem dX5_sumUp_26 : decode cX5_sumUp 26 = .ok (.if_icmp .ge 69, 3) := by decide +kernel
theorem dX5_sumUp_29 : decode cX5_sumUp 29 = .ok (.aload_n 0, 1) := by decide +kernel
theorem dX5_sumUp_30 : decode cX5_sumUp 30 = .ok (.getfield 11, 3) := by decide +kernel
theorem dX5_sumUp_33 : decode cX5_sumUp 33 = .ok (.iload_n 3, 1) := by decide +kernel
theorem dX5_sumUp_34 : decode cX5_sumUp 34 = .ok (.aaload, 1) := by decide +kernel
theorem dX5_sumUp_35 : decode cX5_sumUp 35 = .ok (.getfield 220, 3) := by decide +kernel
theorem dX5_sumUp_38 : decode cX5_sumUp 38 = .ok (.iload 4, 2) := by decide +kernel
theorem dX5_sumUp_40 : decode cX5_sumUp 40 = .ok (.aaload, 1) := by decide +kernel
theorem dX5_sumUp_41 : decode cX5_sumUp 41 = .ok (.astore 5, 2) := by decide +kernel
theorem dX5_sumUp_43 : decode cX5_sumUp 43 = .ok (.ldc2_w 224, 3) := by decide +kernel
theorem dX5_sumUp_46 : decode cX5_sumUp 46 = .ok (.lload_n 1, 1) := by decide +kernel
theorem dX5_sumUp_47 : decode cX5_sumUp 47 = .ok (.lmul, 1) := by decide +kernel
theorem dX5_sumUp_48 : decode cX5_sumUp 48 = .ok (.aload 5, 2) := by decide +kernel
theorem dX5_sumUp_50 : decode cX5_sumUp 50 = .ok (.getfield 185, 3) := by decide +kernel
theorem dX5_sumUp_53 : decode cX5_sumUp 53 = .ok (.getfield 226, 3) := by decide +kernel
theorem dX5_sumUp_56 : decode cX5_sumUp 56 = .ok (.i2l, 1) := by decide +kernel
theorem dX5_sumUp_57 : decode cX5_sumUp 57 = .ok (.ladd, 1) := by decide +kernel
theorem dX5_sumUp_58 : decode cX5_sumUp 58 = .ok (.bipush 13, 2) := by decide +kernel
theorem dX5_sumUp_60 : decode cX5_sumUp 60 = .ok (.aload 5, 2) := by decide +kernel
theorem dX5_sumUp_62 : decode cX5_sumUp 62 = .ok (.getfield 229, 3) := by decide +kernel
theorem dX5_sumUp_65 : decode cX5_sumUp 65 = .ok (.imul, 1) := by decide +kernel
theorem dX5_sumUp_66 : decode cX5_sumUp 66 = .ok (.i2l, 1) := by decide +kernel
theorem dX5_sumUp_67 : decode cX5_sumUp 67 = .ok (.ladd, 1) := by decide +kernel
theorem dX5_sumUp_68 : decode cX5_sumUp 68 = .ok (.bipush 17, 2) := by decide +kernel
theorem dX5_sumUp_70 : decode cX5_sumUp 70 = .ok (.aload 5, 2) := by decide +kernel
theorem dX5_sumUp_72 : decode cX5_sumUp 72 = .ok (.getfield 196, 3) := by decide +kernel
theorem dX5_sumUp_75 : decode cX5_sumUp 75 = .ok (.imul, 1) := by decide +kernel
theorem dX5_sumUp_76 : decode cX5_sumUp 76 = .ok (.i2l, 1) := by decide +kernel
theorem dX5_sumUp_77 : decode cX5_sumUp 77 = .ok (.ladd, 1) := by decide +kernel
theorem dX5_sumUp_78 : decode cX5_sumUp 78 = .ok (.bipush 19, 2) := by decide +kernel
theorem dX5_sumUp_80 : decode cX5_sumUp 80 = .ok (.aload 5, 2) := by decide +kernel
theorem dX5_sumUp_82 : decode cX5_sumUp 82 = .ok (.getfield 232, 3) := by decide +kernel
theorem dX5_sumUp_85 : decode cX5_sumUp 85 = .ok (.imul, 1) := by decide +kernel
theorem dX5_sumUp_86 : decode cX5_sumUp 86 = .ok (.i2l, 1) := by decide +kernel
theorem dX5_sumUp_87 : decode cX5_sumUp 87 = .ok (.ladd, 1) := by decide +kernel
theorem dX5_sumUp_88 : decode cX5_sumUp 88 = .ok (.lstore_n 1, 1) := by decide +kernel
theorem dX5_sumUp_89 : decode cX5_sumUp 89 = .ok (.iinc 4 1, 3) := by decide +kernel
theorem dX5_sumUp_92 : decode cX5_sumUp 92 = .ok (.goto (-77), 3) := by decide +kernel
theorem dX5_sumUp_95 : decode cX5_sumUp 95 = .ok (.iinc 3 1, 3) := by decide +kernel
theorem dX5_sumUp_98 : decode cX5_sumUp 98 = .ok (.goto (-92), 3) := by decide +kernel
theorem dX5_sumUp_101 : decode cX5_sumUp 101 = .ok (.iconst 0, 1) := by decide +kernel
theorem dX5_sumUp_102 : decode cX5_sumUp 102 = .ok (.istore_n 3, 1) := by decide +kernel
theorem dX5_sumUp_103 : decode cX5_sumUp 103 = .ok (.iload_n 3, 1) := by decide +kernel
theorem dX5_sumUp_104 : decode cX5_sumUp 104 = .ok (.bipush 48, 2) := by decide +kernel
theorem dX5_sumUp_106 : decode cX5_sumUp 106 = .ok (.if_icmp .ge 26, 3) := by decide +kernel
theorem dX5_sumUp_109 : decode cX5_sumUp 109 = .ok (.ldc2_w 224, 3) := by decide +kernel
theorem dX5_sumUp_112 : decode cX5_sumUp 112 = .ok (.lload_n 1, 1) := by decide +kernel
theorem dX5_sumUp_113 : decode cX5_sumUp 113 = .ok (.lmul, 1) := by decide +kernel
theorem dX5_sumUp_114 : decode cX5_sumUp 114 = .ok (.aload_n 0, 1) := by decide +kernel
theorem dX5_sumUp_115 : decode cX5_sumUp 115 = .ok (.getfield 11, 3) := by decide +kernel
theorem dX5_sumUp_118 : decode cX5_sumUp 118 = .ok (.iload_n 3, 1) := by decide +kernel
theorem dX5_sumUp_119 : decode cX5_sumUp 119 = .ok (.aaload, 1) := by decide +kernel
theorem dX5_sumUp_120 : decode cX5_sumUp 120 = .ok (.getfield 202, 3) := by decide +kernel
theorem dX5_sumUp_123 : decode cX5_sumUp 123 = .ok (.i2l, 1) := by decide +kernel
theorem dX5_sumUp_124 : decode cX5_sumUp 124 = .ok (.ladd, 1) := by decide +kernel
theorem dX5_sumUp_125 : decode cX5_sumUp 125 = .ok (.lstore_n 1, 1) := by decide +kernel
theorem dX5_sumUp_126 : decode cX5_sumUp 126 = .ok (.iinc 3 1, 3) := by decide +kernel
theorem dX5_sumUp_129 : decode cX5_sumUp 129 = .ok (.goto (-26), 3) := by decide +kernel
theorem dX5_sumUp_132 : decode cX5_sumUp 132 = .ok (.lload_n 1, 1) := by decide +kernel
theorem dX5_sumUp_133 : decode cX5_sumUp 133 = .ok (.lreturn, 1) := by decide +kernel
theorem dX5_isBounded_0 : decode cX5_isBounded 0 = .ok (.iconst 0, 1) := by decide +kernel
theorem dX5_isBounded_1 : decode cX5_isBounded 1 = .ok (.istore_n 1, 1) := by decide +kernel
theorem dX5_isBounded_2 : decode cX5_isBounded 2 = .ok (.iload_n 1, 1) := by decide +kernel
theorem dX5_isBounded_3 : decode cX5_isBounded 3 = .ok (.bipush 48, 2) := by decide +kernel
theorem dX5_isBounded_5 : decode cX5_isBounded 5 = .ok (.if_icmp .ge 39, 3) := by decide +kernel
theorem dX5_isBounded_8 : decode cX5_isBounded 8 = .ok (.aload_n 0, 1) := by decide +kernel
theorem dX5_isBounded_9 : decode cX5_isBounded 9 = .ok (.getfield 11, 3) := by decide +kernel
theorem dX5_isBounded_12 : decode cX5_isBounded 12 = .ok (.iload_n 1, 1) := by decide +kernel
theorem dX5_isBounded_13 : decode cX5_isBounded 13 = .ok (.aaload, 1) := by decide +kernel
theorem dX5_isBounded_14 : decode cX5_isBounded 14 = .ok (.getfield 202, 3) := by decide +kernel
theorem dX5_isBounded_17 : decode cX5_isBounded 17 = .ok (.bipush 99, 2) := by decide +kernel
theorem dX5_isBounded_19 : decode cX5_isBounded 19 = .ok (.if_icmp .gt 17, 3) := by decide +kernel
theorem dX5_isBounded_22 : decode cX5_isBounded 22 = .ok (.aload_n 0, 1) := by decide +kernel
theorem dX5_isBounded_23 : decode cX5_isBounded 23 = .ok (.getfield 11, 3) := by decide +kernel
theorem dX5_isBounded_26 : decode cX5_isBounded 26 = .ok (.iload_n 1, 1) := by decide +kernel
theorem dX5_isBounded_27 : decode cX5_isBounded 27 = .ok (.aaload, 1) := by decide +kernel
theorem dX5_isBounded_28 : decode cX5_isBounded 28 = .ok (.getfield 91, 3) := by decide +kernel
theorem dX5_isBounded_31 : decode cX5_isBounded 31 = .ok (.bipush 9, 2) := by decide +kernel
theorem dX5_isBounded_33 : decode cX5_isBounded 33 = .ok (.if_icmp .le 5, 3) := by decide +kernel
theorem dX5_isBounded_36 : decode cX5_isBounded 36 = .ok (.iconst 0, 1) := by decide +kernel
theorem dX5_isBounded_37 : decode cX5_isBounded 37 = .ok (.ireturn, 1) := by decide +kernel
theorem dX5_isBounded_38 : decode cX5_isBounded 38 = .ok (.iinc 1 1, 3) := by decide +kernel
theorem dX5_isBounded_41 : decode cX5_isBounded 41 = .ok (.goto (-39), 3) := by decide +kernel
theorem dX5_isBounded_44 : decode cX5_isBounded 44 = .ok (.iconst 1, 1) := by decide +kernel
theorem dX5_isBounded_45 : decode cX5_isBounded 45 = .ok (.ireturn, 1) := by decide +kernel
theorem dX5_empty_0 : decode cX5_empty 0 = .ok (.aload_n 0, 1) := by decide +kernel
theorem dX5_empty_1 : decode cX5_empty 1 = .ok (.sipush 1600, 3) := by decide +kernel
theorem dX5_empty_4 : decode cX5_empty 4 = .ok (.putfield 24, 3) := by decide +kernel
theorem dX5_empty_7 : decode cX5_empty 7 = .ok (.aload_n 0, 1) := by decide +kernel
theorem dX5_empty_8 : decode cX5_empty 8 = .ok (.iconst 0, 1) := by decide +kernel
theorem dX5_empty_9 : decode cX5_empty 9 = .ok (.putfield 170, 3) := by decide +kernel
theorem dX5_empty_12 : decode cX5_empty 12 = .ok (.iconst 0, 1) := by decide +kernel
theorem dX5_empty_13 : decode cX5_empty 13 = .ok (.istore_n 1, 1) := by decide +kernel
theorem dX5_empty_14 : decode cX5_empty 14 = .ok (.iload_n 1, 1) := by decide +kernel
theorem dX5_empty_15 : decode cX5_empty 15 = .ok (.bipush 48, 2) := by decide +kernel
theorem dX5_empty_17 : decode cX5_empty 17 = .ok (.if_icmp .ge 29, 3) := by decide +kernel
theorem dX5_empty_20 : decode cX5_empty 20 = .ok (.aload_n 0, 1) := by decide +kernel
theorem dX5_empty_21 : decode cX5_empty 21 = .ok (.getfield 11, 3) := by decide +kernel
theorem dX5_empty_24 : decode cX5_empty 24 = .ok (.iload_n 1, 1) := by decide +kernel
theorem dX5_empty_25 : decode cX5_empty 25 = .ok (.aaload, 1) := by decide +kernel
theorem dX5_empty_26 : decode cX5_empty 26 = .ok (.iconst 0, 1) := by decide +kernel
theorem dX5_empty_27 : decode cX5_empty 27 = .ok (.putfield 91, 3) := by decide +kernel
theorem dX5_empty_30 : decode cX5_empty 30 = .ok (.aload_n 0, 1) := by decide +kernel
theorem dX5_empty_31 : decode cX5_empty 31 = .ok (.getfield 11, 3) := by decide +kernel
theorem dX5_empty_34 : decode cX5_empty 34 = .ok (.iload_n 1, 1) := by decide +kernel
theorem dX5_empty_35 : decode cX5_empty 35 = .ok (.aaload, 1) := by decide +kernel
theorem dX5_empty_36 : decode cX5_empty 36 = .ok (.iconst 0, 1) := by decide +kernel
theorem dX5_empty_37 : decode cX5_empty 37 = .ok (.putfield 202, 3) := by decide +kernel
theorem dX5_empty_40 : decode cX5_empty 40 = .ok (.iinc 1 1, 3) := by decide +kernel
theorem dX5_empty_43 : decode cX5_empty 43 = .ok (.goto (-29), 3) := by decide +kernel
theorem dX5_empty_46 : decode cX5_empty 46 = .ok (.return_, 1) := by decide +kernel
set_option maxRecDepth 20000 in
theorem ggX5_copyFrom_X8_copyFrom : GoodIn wsX5_copyFrom wsX8_copyFrom := goodIn_r _ [10, 11, 12, 13, 14, 15, 16, 17, 18, 19, 20, 21, 22, 23, 29, 30, 31, 32, 33, 34, 35, 36] (by decide +kernel) (by decide +kernel)
set_option maxRecDepth 20000 in
theorem gX5_copyFrom_X8_copyFrom : GoodIn wsX5_copyFrom (wsV RX5 235 RX8 yX8_copyFrom wsX8_copyFrom) := goodIn_app (goodIn_of _ (by decide +kernel)) ggX5_copyFrom_X8_copyFrom
theorem dX5_copyFrom_0 : decode cX5_copyFrom 0 = .ok (.aload_n 0, 1) := by decide +kernel
theorem dX5_copyFrom_1 : decode cX5_copyFrom 1 = .ok (.aload_n 1, 1) := by decide +kernel
theorem dX5_copyFrom_2 : decode cX5_copyFrom 2 = .ok (.getfield 24, 3) := by decide +kernel
theorem dX5_copyFrom_5 : decode cX5_copyFrom 5 = .ok (.putfield 24, 3) := by decide +kernel
theorem dX5_copyFrom_8 : decode cX5_copyFrom 8 = .ok (.aload_n 0, 1) := by decide +kernel
theorem dX5_copyFrom_9 : decode cX5_copyFrom 9 = .ok (.aload_n 1, 1) := by decide +kernel
theorem dX5_copyFrom_10 : decode cX5_copyFrom 10 = .ok (.getfield 170, 3) := by decide +kernel
theorem dX5_copyFrom_13 : decode cX5_copyFrom 13 = .ok (.putfield 170, 3) := by decide +kernel
theorem dX5_copyFrom_16 : decode cX5_copyFrom 16 = .ok (.iconst 0, 1) := by decide +kernel
theorem dX5_copyFrom_17 : decode cX5_copyFrom 17 = .ok (.istore_n 2, 1) := by decide +kernel
theorem dX5_copyFrom_18 : decode cX5_copyFrom 18 = .ok (.iload_n 2, 1) := by decide +kernel
theorem dX5_copyFrom_19 : decode cX5_copyFrom 19 = .ok (.aload_n 0, 1) := by decide +kernel
theorem dX5_copyFrom_20 : decode cX5_copyFrom 20 = .ok (.getfield 170, 3) := by decide +kernel
theorem dX5_copyFrom_23 : decode cX5_copyFrom 23 = .ok (.if_icmp .ge 33, 3) := by decide +kernel
theorem dX5_copyFrom_26 : decode cX5_copyFrom 26 = .ok (.aload_n 0, 1) := by decide +kernel
theorem dX5_copyFrom_27 : decode cX5_copyFrom 27 = .ok (.getfield 17, 3) := by decide +kernel
theorem dX5_copyFrom_30 : decode cX5_copyFrom 30 = .ok (.iload_n 2, 1) := by decide +kernel
theorem dX5_copyFrom_31 : decode cX5_copyFrom 31 = .ok (.aload_n 1, 1) := by decide +kernel
theorem dX5_copyFrom_32 : decode cX5_copyFrom 32 = .ok (.getfield 17, 3) := by decide +kernel
theorem dX5_copyFrom_35 : decode cX5_copyFrom 35 = .ok (.iload_n 2, 1) := by decide +kernel
theorem dX5_copyFrom_36 : decode cX5_copyFrom 36 = .ok (.iaload, 1) := by decide +kernel
theorem dX5_copyFrom_37 : decode cX5_copyFrom 37 = .ok (.iastore, 1) := by decide +kernel
theorem dX5_copyFrom_38 : decode cX5_copyFrom 38 = .ok (.aload_n 0, 1) := by decide +kernel
theorem dX5_copyFrom_39 : decode cX5_copyFrom 39 = .ok (.getfield 21, 3) := by decide +kernel
theorem dX5_copyFrom_42 : decode cX5_copyFrom 42 = .ok (.iload_n 2, 1) := by decide +kernel
theorem dX5_copyFrom_43 : decode cX5_copyFrom 43 = .ok (.aload_n 1, 1) := by decide +kernel
theorem dX5_copyFrom_44 : decode cX5_copyFrom 44 = .ok (.getfield 21, 3) := by decide +kernel
theorem dX5_copyFrom_47 : decode cX5_copyFrom 47 = .ok (.iload_n 2, 1) := by decide +kernel
theorem dX5_copyFrom_48 : decode cX5_copyFrom 48 = .ok (.iaload, 1) := by decide +kernel
theorem dX5_copyFrom_49 : decode cX5_copyFrom 49 = .ok (.iastore, 1) := by decide +kernel
theorem dX5_copyFrom_50 : decode cX5_copyFrom 50 = .ok (.iinc 2 1, 3) := by decide +kernel
theorem dX5_copyFrom_53 : decode cX5_copyFrom 53 = .ok (.goto (-35), 3) := by decide +kernel
theorem dX5_copyFrom_56 : decode cX5_copyFrom 56 = .ok (.iconst 0, 1) := by decide +kernel
theorem dX5_copyFrom_57 : decode cX5_copyFrom 57 = .ok (.istore_n 2, 1) := by decide +kernel
theorem dX5_copyFrom_58 : decode cX5_copyFrom 58 = .ok (.iload_n 2, 1) := by decide +kernel
theorem dX5_copyFrom_59 : decode cX5_copyFrom 59 = .ok (.bipush 48, 2) := by decide +kernel
theorem dX5_copyFrom_61 : decode cX5_copyFrom 61 = .ok (.if_icmp .ge 24, 3) := by decide +kernel
theorem dX5_copyFrom_64 : decode cX5_copyFrom 64 = .ok (.aload_n 0, 1) := by decide +kernel
theorem dX5_copyFrom_65 : decode cX5_copyFrom 65 = .ok (.getfield 11, 3) := by decide +kernel
theorem dX5_copyFrom_68 : decode cX5_copyFrom 68 = .ok (.iload_n 2, 1) := by decide +kernel
theorem dX5_copyFrom_69 : decode cX5_copyFrom 69 = .ok (.aaload, 1) := by decide +kernel
theorem dX5_copyFrom_70 : decode cX5_copyFrom 70 = .ok (.aload_n 1, 1) := by decide +kernel
theorem dX5_copyFrom_71 : decode cX5_copyFrom 71 = .ok (.getfield 11, 3) := by decide +kernel
theorem dX5_copyFrom_74 : decode cX5_copyFrom 74 = .ok (.iload_n 2, 1) := by decide +kernel
theorem dX5_copyFrom_75 : decode cX5_copyFrom 75 = .ok (.aaload, 1) := by decide +kernel
theorem dX5_copyFrom_76 : decode cX5_copyFrom 76 = .ok (.invokevirtual 235, 3) := by decide +kernel
theorem dX5_copyFrom_79 : decode cX5_copyFrom 79 = .ok (.iinc 2 1, 3) := by decide +kernel
theorem dX5_copyFrom_82 : decode cX5_copyFrom 82 = .ok (.goto (-24), 3) := by decide +kernel
theorem dX5_copyFrom_85 : decode cX5_copyFrom 85 = .ok (.return_, 1) := by decide +kernel
set_option maxRecDepth 20000 in
theorem ggX5_isSameAs_X8_isSameAs : GoodIn wsX5_isSameAs wsX8_isSameAs := goodIn_r _ [10, 11, 12, 13, 14, 15, 16, 17, 18, 19, 20, 21, 22, 23, 24, 30, 31, 32, 33, 34, 35, 36, 37, 38, 39, 40, 41, 42, 43, 44, 45, 46, 47, 48] (by decide +kernel) (by decide +kernel)
set_option maxRecDepth 20000 in
theorem gX5_isSameAs_X8_isSameAs : GoodIn wsX5_isSameAs (wsV RX5 239 RX8 yX8_isSameAs wsX8_isSameAs) := goodIn_app (goodIn_of _ (by decide +kernel)) ggX5_isSameAs_X8_isSameAs
theorem dX5_isSameAs_0 : decode cX5_isSameAs 0 = .ok (.aload_n 0, 1) := by decide +kernel
theorem dX5_isSameAs_1 : decode cX5_isSameAs 1 = .ok (.getfield 24, 3) := by decide +kernel
theorem dX5_isSameAs_4 : decode cX5_isSameAs 4 = .ok (.aload_n 1, 1) := by decide +kernel
theorem dX5_isSameAs_5 : decode cX5_isSameAs 5 = .ok (.getfield 24, 3) := by decide +kernel
theorem dX5_isSameAs_8 : decode cX5_isSameAs 8 = .ok (.if_icmp .ne 14, 3) := by decide +kernel
theorem dX5_isSameAs_11 : decode cX5_isSameAs 11 = .ok (.aload_n 0, 1) := by decide +kernel
theorem dX5_isSameAs_12 : decode cX5_isSameAs 12 = .ok (.getfield 170, 3) := by decide +kernel
theorem dX5_isSameAs_15 : decode cX5_isSameAs 15 = .ok (.aload_n 1, 1) := by decide +kernel
theorem dX5_isSameAs_16 : decode cX5_isSameAs 16 = .ok (.getfield 170, 3) := by decide +kernel
theorem dX5_isSameAs_19 : decode cX5_isSameAs 19 = .ok (.if_icmp .eq 5, 3) := by decide +kernel
theorem dX5_isSameAs_22 : decode cX5_isSameAs 22 = .ok (.iconst 0, 1) := by decide +kernel
theorem dX5_isSameAs_23 : decode cX5_isSameAs 23 = .ok (.ireturn, 1) := by decide +kernel
theorem dX5_isSameAs_24 : decode cX5_isSameAs 24 = .ok (.iconst 0, 1) := by decide +kernel
theorem dX5_isSameAs_25 : decode cX5_isSameAs 25 = .ok (.istore_n 2, 1) := by decide +kernel
theorem dX5_isSameAs_26 : decode cX5_isSameAs 26 = .ok (.iload_n 2, 1) := by decide +kernel
theorem dX5_isSameAs_27 : decode cX5_isSameAs 27 = .ok (.aload_n 0, 1) := by decide +kernel
theorem dX5_isSameAs_28 : decode cX5_isSameAs 28 = .ok (.getfield 170, 3) := by decide +kernel
theorem dX5_isSameAs_31 : decode cX5_isSameAs 31 = .ok (.if_icmp .ge 41, 3) := by decide +kernel
theorem dX5_isSameAs_34 : decode cX5_isSameAs 34 = .ok (.aload_n 0, 1) := by decide +kernel
theorem dX5_isSameAs_35 : decode cX5_isSameAs 35 = .ok (.getfield 17, 3) := by decide +kernel
theorem dX5_isSameAs_38 : decode cX5_isSameAs 38 = .ok (.iload_n 2, 1) := by decide +kernel
theorem dX5_isSameAs_39 : decode cX5_isSameAs 39 = .ok (.iaload, 1) := by decide +kernel
theorem dX5_isSameAs_40 : decode cX5_isSameAs 40 = .ok (.aload_n 1, 1) := by decide +kernel
theorem dX5_isSameAs_41 : decode cX5_isSameAs 41 = .ok (.getfield 17, 3) := by decide +kernel
theorem dX5_isSameAs_44 : decode cX5_isSameAs 44 = .ok (.iload_n 2, 1) := by decide +kernel
theorem dX5_isSameAs_45 : decode cX5_isSameAs 45 = .ok (.iaload, 1) := by decide +kernel
theorem dX5_isSameAs_46 : decode cX5_isSameAs 46 = .ok (.if_icmp .ne 18, 3) := by decide +kernel
theorem dX5_isSameAs_49 : decode cX5_isSameAs 49 = .ok (.aload_n 0, 1) := by decide +kernel
theorem dX5_isSameAs_50 : decode cX5_isSameAs 50 = .ok (.getfield 21, 3) := by decide +kernel
theorem dX5_isSameAs_53 : decode cX5_isSameAs 53 = .ok (.iload_n 2, 1) := by decide +kernel
theorem dX5_isSameAs_54 : decode cX5_isSameAs 54 = .ok (.iaload, 1) := by decide +kernel
theorem dX5_isSameAs_55 : decode cX5_isSameAs 55 = .ok (.aload_n 1, 1) := by decide +kernel
theorem dX5_isSameAs_56 : decode cX5_isSameAs 56 = .ok (.getfield 21, 3) := by decide +kernel
theorem dX5_isSameAs_59 : decode cX5_isSameAs 59 = .ok (.iload_n 2, 1) := by decide +kernel
theorem dX5_isSameAs_60 : decode cX5_isSameAs 60 = .ok (.iaload, 1) := by decide +kernel
theorem dX5_isSameAs_61 : decode cX5_isSameAs 61 = .ok (.if_icmp .eq 5, 3) := by decide +kernel
theorem dX5_isSameAs_64 : decode cX5_isSameAs 64 = .ok (.iconst 0, 1) := by decide +kernel
theorem dX5_isSameAs_65 : decode cX5_isSameAs 65 = .ok (.ireturn, 1) := by decide +kernel
theorem dX5_isSameAs_66 : decode cX5_isSameAs 66 = .ok (.iinc 2 1, 3) := by decide +kernel
theorem dX5_isSameAs_69 : decode cX5_isSameAs 69 = .ok (.goto (-43), 3) := by decide +kernel
theorem dX5_isSameAs_72 : decode cX5_isSameAs 72 = .ok (.iconst 0, 1) := by decide +kernel
theorem dX5_isSameAs_73 : decode cX5_isSameAs 73 = .ok (.istore_n 2, 1) := by decide +kernel
theorem dX5_isSameAs_74 : decode cX5_isSameAs 74 = .ok (.iload_n 2, 1) := by decide +kernel
theorem dX5_isSameAs_75 : decode cX5_isSameAs 75 = .ok (.bipush 48, 2) := by decide +kernel
theorem dX5_isSameAs_77 : decode cX5_isSameAs 77 = .ok (.if_icmp .ge 29, 3) := by decide +kernel
theorem dX5_isSameAs_80 : decode cX5_isSameAs 80 = .ok (.aload_n 0, 1) := by decide +kernel
theorem dX5_isSameAs_81 : decode cX5_isSameAs 81 = .ok (.getfield 11, 3) := by decide +kernel
theorem dX5_isSameAs_84 : decode cX5_isSameAs 84 = .ok (.iload_n 2, 1) := by decide +kernel
theorem dX5_isSameAs_85 : decode cX5_isSameAs 85 = .ok (.aaload, 1) := by decide +kernel
theorem dX5_isSameAs_86 : decode cX5_isSameAs 86 = .ok (.aload_n 1, 1) := by decide +kernel
theorem dX5_isSameAs_87 : decode cX5_isSameAs 87 = .ok (.getfield 11, 3) := by decide +kernel
theorem dX5_isSameAs_90 : decode cX5_isSameAs 90 = .ok (.iload_n 2, 1) := by decide +kernel
theorem dX5_isSameAs_91 : decode cX5_isSameAs 91 = .ok (.aaload, 1) := by decide +kernel
theorem dX5_isSameAs_92 : decode cX5_isSameAs 92 = .ok (.invokevirtual 239, 3) := by decide +kernel
theorem dX5_isSameAs_95 : decode cX5_isSameAs 95 = .ok (.ifCond .ne 5, 3) := by decide +kernel
theorem dX5_isSameAs_98 : decode cX5_isSameAs 98 = .ok (.iconst 0, 1) := by decide +kernel
theorem dX5_isSameAs_99 : decode cX5_isSameAs 99 = .ok (.ireturn, 1) := by decide +kernel
theorem dX5_isSameAs_100 : decode cX5_isSameAs 100 = .ok (.iinc 2 1, 3) := by decide +kernel
theorem dX5_isSameAs_103 : decode cX5_isSameAs 103 = .ok (.goto (-29), 3) := by decide +kernel
theorem dX5_isSameAs_106 : decode cX5_isSameAs 106 = .ok (.iconst 1, 1) := by decide +kernel
theorem dX5_isSameAs_107 : decode cX5_isSameAs 107 = .ok (.ireturn, 1) := by decide +kernel
theorem dX6_init_0 : decode cX6_init 0 = .ok (.aload_n 0, 1) := by decide +kernel
theorem dX6_init_1 : decode cX6_init 1 = .ok (.invokespecial 1, 3) := by decide +kernel
theorem dX6_init_4 : decode cX6_init 4 = .ok (.aload_n 0, 1) := by decide +kernel
theorem dX6_init_5 : decode cX6_init 5 = .ok (.iload_n 1, 1) := by decide +kernel
theorem dX6_init_6 : decode cX6_init 6 = .ok (.newarray .int, 2) := by decide +kernel
theorem dX6_init_8 : decode cX6_init 8 = .ok (.putfield 7, 3) := by decide +kernel
theorem dX6_init_11 : decode cX6_init 11 = .ok (.return_, 1) := by decide +kernel
theorem dX6_add_0 : decode cX6_add 0 = .ok (.aload_n 0, 1) := by decide +kernel
theorem dX6_add_1 : decode cX6_add 1 = .ok (.getfield 13, 3) := by decide +kernel
theorem dX6_add_4 : decode cX6_add 4 = .ok (.aload_n 0, 1) := by decide +kernel
theorem dX6_add_5 : decode cX6_add 5 = .ok (.getfield 7, 3) := by decide +kernel
theorem dX6_add_8 : decode cX6_add 8 = .ok (.arraylength, 1) := by decide +kernel
theorem dX6_add_9 : decode cX6_add 9 = .ok (.if_icmp .ge 23, 3) := by decide +kernel
theorem dX6_add_12 : decode cX6_add 12 = .ok (.aload_n 0, 1) := by decide +kernel
theorem dX6_add_13 : decode cX6_add 13 = .ok (.getfield 7, 3) := by decide +kernel
theorem dX6_add_16 : decode cX6_add 16 = .ok (.aload_n 0, 1) := by decide +kernel
theorem dX6_add_17 : decode cX6_add 17 = .ok (.getfield 13, 3) := by decide +kernel
theorem dX6_add_20 : decode cX6_add 20 = .ok (.iload_n 1, 1) := by decide +kernel
theorem dX6_add_21 : decode cX6_add 21 = .ok (.iastore, 1) := by decide +kernel
theorem dX6_add_22 : decode cX6_add 22 = .ok (.aload_n 0, 1) := by decide +kernel
theorem dX6_add_23 : decode cX6_add 23 = .ok (.dup, 1) := by decide +kernel
theorem dX6_add_24 : decode cX6_add 24 = .ok (.getfield 13, 3) := by decide +kernel
theorem dX6_add_27 : decode cX6_add 27 = .ok (.iconst 1, 1) := by decide +kernel
theorem dX6_add_28 : decode cX6_add 28 = .ok (.iadd, 1) := by decide +kernel
theorem dX6_add_29 : decode cX6_add 29 = .ok (.putfield 13, 3) := by decide +kernel
theorem dX6_add_32 : decode cX6_add 32 = .ok (.aload_n 0, 1) := by decide +kernel
