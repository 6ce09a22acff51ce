abbrev cX1_has : ByteArray := prog_3_method_11_code
def yX1_has : MethodName := ⟨RX1, "has", "(III)I"⟩
abbrev cX1_first : ByteArray := prog_3_method_12_code
def yX1_first : MethodName := ⟨RX1, "first", "(JI)J"⟩
abbrev cX1_beginning : ByteArray := prog_3_method_13_code
def yX1_beginning : MethodName := ⟨RX1, "beginning", "(IIII)J"⟩
abbrev cX1_count : ByteArray := prog_3_method_14_code
def yX1_count : MethodName := ⟨RX1, "count", "(IIII)I"⟩
abbrev cX1_different : ByteArray := prog_3_method_15_code
def yX1_different : MethodName := ⟨RX1, "different", "(III)I"⟩
abbrev cX1_rank : ByteArray := prog_3_method_16_code
def yX1_rank : MethodName := ⟨RX1, "rank", "(III)I"⟩
abbrev cX1_stand : ByteArray := prog_3_method_17_code
def yX1_stand : MethodName := ⟨RX1, "stand", "(I)Z"⟩
abbrev cX1_choose : ByteArray := prog_3_method_18_code
def yX1_choose : MethodName := ⟨RX1, "choose", "(I)Z"⟩
abbrev cX1_seek : ByteArray := prog_3_method_19_code
def yX1_seek : MethodName := ⟨RX1, "seek", "(III)Z"⟩
abbrev cX1_next : ByteArray := prog_3_method_20_code
def yX1_next : MethodName := ⟨RX1, "next", "()Z"⟩
abbrev cX1_previous : ByteArray := prog_3_method_21_code
def yX1_previous : MethodName := ⟨RX1, "previous", "()Z"⟩
abbrev cX1_number : ByteArray := prog_3_method_22_code
def yX1_number : MethodName := ⟨RX1, "number", "(I)I"⟩
abbrev cX1_placeOf : ByteArray := prog_3_method_23_code
def yX1_placeOf : MethodName := ⟨RX1, "placeOf", "(I)I"⟩
abbrev cX1_told : ByteArray := prog_3_method_24_code
def yX1_told : MethodName := ⟨RX1, "told", "(I)I"⟩
abbrev cX1_stands : ByteArray := prog_3_method_25_code
def yX1_stands : MethodName := ⟨RX1, "stands", "()I"⟩
abbrev cX1_size : ByteArray := prog_3_method_26_code
def yX1_size : MethodName := ⟨RX1, "size", "()I"⟩
abbrev cX1_cut : ByteArray := prog_3_method_27_code
def yX1_cut : MethodName := ⟨RX1, "cut", "(IIII)I"⟩
def wsX1_has : List Cond := .code yX1_has cX1_has 6 (some .int) :: ([.methodLink RX1 43 yX1_areNumbers, .static yX1_areNumbers, .initialized RX1, .code yX1_areNumbers cX1_areNumbers 4 (some .boolean), .methodLink RX1 30 yX1_isNumber, .static yX1_isNumber, .code yX1_isNumber cX1_isNumber 1 (some .boolean), .constant RX1 29 (1048576), .methodLink RX1 47 yX1_key, .instanceMethod yX1_key, .selects RX1 yX1_key yX1_key, .code yX1_key cX1_key 4 (some .long), .fieldLink RX1 25 "PageIndexModel" "order" "I", .methodLink RX1 36 yX1_packed, .static yX1_packed, .code yX1_packed cX1_packed 6 (some .long), .constantLong RX1 34 (1048576), .methodLink RX1 51 yX1_below, .instanceMethod yX1_below, .selects RX1 yX1_below yX1_below, .code yX1_below cX1_below 4 (some .int), .fieldLink RX1 40 "PageIndexModel" "size" "I", .fieldLink RX1 7 "PageIndexModel" "keys" "[J", .methodLink RX1 55 yX1_isThere, .instanceMethod yX1_isThere, .selects RX1 yX1_isThere yX1_isThere, .code yX1_isThere cX1_isThere 4 (some .boolean)] ++ wsX10)
def wsX1_first : List Cond := .code yX1_first cX1_first 5 (some .long) :: ([.constantLong RX1 63 (1152921504606846976), .constantLong RX1 65 (1099511627776), .constantLong RX1 34 (1048576)])
def wsX1_beginning : List Cond := .code yX1_beginning cX1_beginning 4 (some .long) :: ([.methodLink RX1 36 yX1_packed, .static yX1_packed, .initialized RX1, .code yX1_packed cX1_packed 6 (some .long), .constantLong RX1 34 (1048576)])
def wsX1_count : List Cond := .code yX1_count cX1_count 9 (some .int) :: ([.methodLink RX1 43 yX1_areNumbers, .static yX1_areNumbers, .initialized RX1, .code yX1_areNumbers cX1_areNumbers 4 (some .boolean), .methodLink RX1 30 yX1_isNumber, .static yX1_isNumber, .code yX1_isNumber cX1_isNumber 1 (some .boolean), .constant RX1 29 (1048576), .methodLink RX1 67 yX1_beginning, .static yX1_beginning, .code yX1_beginning cX1_beginning 4 (some .long), .methodLink RX1 36 yX1_packed, .static yX1_packed, .code yX1_packed cX1_packed 6 (some .long), .constantLong RX1 34 (1048576), .fieldLink RX1 40 "PageIndexModel" "size" "I", .fieldLink RX1 7 "PageIndexModel" "keys" "[J", .methodLink RX1 71 yX1_first, .static yX1_first, .code yX1_first cX1_first 5 (some .long), .constantLong RX1 63 (1152921504606846976), .constantLong RX1 65 (1099511627776)] ++ wsX10)
def wsX1_different : List Cond := .code yX1_different cX1_different 12 (some .int) :: ([.methodLink RX1 43 yX1_areNumbers, .static yX1_areNumbers, .initialized RX1, .code yX1_areNumbers cX1_areNumbers 4 (some .boolean), .methodLink RX1 30 yX1_isNumber, .static yX1_isNumber, .code yX1_isNumber cX1_isNumber 1 (some .boolean), .constant RX1 29 (1048576), .methodLink RX1 67 yX1_beginning, .static yX1_beginning, .code yX1_beginning cX1_beginning 4 (some .long), .methodLink RX1 36 yX1_packed, .static yX1_packed, .code yX1_packed cX1_packed 6 (some .long), .constantLong RX1 34 (1048576), .constantLong RX1 13 (-1), .fieldLink RX1 40 "PageIndexModel" "size" "I", .fieldLink RX1 7 "PageIndexModel" "keys" "[J", .methodLink RX1 71 yX1_first, .static yX1_first, .code yX1_first cX1_first 5 (some .long), .constantLong RX1 63 (1152921504606846976), .constantLong RX1 65 (1099511627776)] ++ wsX10)
def wsX1_rank : List Cond := .code yX1_rank cX1_rank 4 (some .int) :: ([.methodLink RX1 43 yX1_areNumbers, .static yX1_areNumbers, .initialized RX1, .code yX1_areNumbers cX1_areNumbers 4 (some .boolean), .methodLink RX1 30 yX1_isNumber, .static yX1_isNumber, .code yX1_isNumber cX1_isNumber 1 (some .boolean), .constant RX1 29 (1048576), .methodLink RX1 36 yX1_packed, .static yX1_packed, .code yX1_packed cX1_packed 6 (some .long), .constantLong RX1 34 (1048576), .methodLink RX1 51 yX1_below, .instanceMethod yX1_below, .selects RX1 yX1_below yX1_below, .code yX1_below cX1_below 4 (some .int), .fieldLink RX1 40 "PageIndexModel" "size" "I", .fieldLink RX1 7 "PageIndexModel" "keys" "[J"] ++ wsX10)
def wsX1_stand : List Cond := .code yX1_stand cX1_stand 3 (some .boolean) :: ([.fieldLink RX1 40 "PageIndexModel" "size" "I", .fieldLink RX1 7 "PageIndexModel" "keys" "[J", .constantLong RX1 13 (-1), .fieldLink RX1 15 "PageIndexModel" "cursor" "J"] ++ wsX10)
def wsX1_choose : List Cond := .code yX1_choose cX1_choose 2 (some .boolean) :: ([.methodLink RX1 75 yX1_stand, .instanceMethod yX1_stand, .selects RX1 yX1_stand yX1_stand, .initialized RX1, .code yX1_stand cX1_stand 3 (some .boolean), .fieldLink RX1 40 "PageIndexModel" "size" "I", .fieldLink RX1 7 "PageIndexModel" "keys" "[J", .constantLong RX1 13 (-1), .fieldLink RX1 15 "PageIndexModel" "cursor" "J"] ++ wsX10)
def wsX1_seek : List Cond := .code yX1_seek cX1_seek 4 (some .boolean) :: ([.methodLink RX1 43 yX1_areNumbers, .static yX1_areNumbers, .initialized RX1, .code yX1_areNumbers cX1_areNumbers 4 (some .boolean), .methodLink RX1 30 yX1_isNumber, .static yX1_isNumber, .code yX1_isNumber cX1_isNumber 1 (some .boolean), .constant RX1 29 (1048576), .methodLink RX1 36 yX1_packed, .static yX1_packed, .code yX1_packed cX1_packed 6 (some .long), .constantLong RX1 34 (1048576), .methodLink RX1 51 yX1_below, .instanceMethod yX1_below, .selects RX1 yX1_below yX1_below, .code yX1_below cX1_below 4 (some .int), .fieldLink RX1 40 "PageIndexModel" "size" "I", .fieldLink RX1 7 "PageIndexModel" "keys" "[J", .methodLink RX1 75 yX1_stand, .instanceMethod yX1_stand, .selects RX1 yX1_stand yX1_stand, .code yX1_stand cX1_stand 3 (some .boolean), .constantLong RX1 13 (-1), .fieldLink RX1 15 "PageIndexModel" "cursor" "J"] ++ wsX10)
def wsX1_next : List Cond := .code yX1_next cX1_next 1 (some .boolean) :: ([.fieldLink RX1 15 "PageIndexModel" "cursor" "J", .methodLink RX1 51 yX1_below, .instanceMethod yX1_below, .selects RX1 yX1_below yX1_below, .initialized RX1, .code yX1_below cX1_below 4 (some .int), .fieldLink RX1 40 "PageIndexModel" "size" "I", .fieldLink RX1 7 "PageIndexModel" "keys" "[J", .methodLink RX1 75 yX1_stand, .instanceMethod yX1_stand, .selects RX1 yX1_stand yX1_stand, .code yX1_stand cX1_stand 3 (some .boolean), .constantLong RX1 13 (-1)] ++ wsX10)
def wsX1_previous : List Cond := .code yX1_previous cX1_previous 1 (some .boolean) :: ([.fieldLink RX1 15 "PageIndexModel" "cursor" "J", .constantLong RX1 13 (-1), .fieldLink RX1 40 "PageIndexModel" "size" "I", .methodLink RX1 51 yX1_below, .instanceMethod yX1_below, .selects RX1 yX1_below yX1_below, .initialized RX1, .code yX1_below cX1_below 4 (some .int), .fieldLink RX1 7 "PageIndexModel" "keys" "[J", .methodLink RX1 75 yX1_stand, .instanceMethod yX1_stand, .selects RX1 yX1_stand yX1_stand, .code yX1_stand cX1_stand 3 (some .boolean)] ++ wsX10)
def wsX1_number : List Cond := .code yX1_number cX1_number 2 (some .int) :: ([.fieldLink RX1 15 "PageIndexModel" "cursor" "J", .constantLong RX1 34 (1048576)] ++ wsX10)
def wsX1_placeOf : List Cond := .code yX1_placeOf cX1_placeOf 2 (some .int) :: ([.fieldLink RX1 25 "PageIndexModel" "order" "I"] ++ wsX10)
def wsX1_told : List Cond := .code yX1_told cX1_told 2 (some .int) :: ([.fieldLink RX1 15 "PageIndexModel" "cursor" "J", .constantLong RX1 13 (-1), .methodLink RX1 78 yX1_number, .instanceMethod yX1_number, .selects RX1 yX1_number yX1_number, .initialized RX1, .code yX1_number cX1_number 2 (some .int), .constantLong RX1 34 (1048576), .methodLink RX1 82 yX1_placeOf, .instanceMethod yX1_placeOf, .selects RX1 yX1_placeOf yX1_placeOf, .code yX1_placeOf cX1_placeOf 2 (some .int), .fieldLink RX1 25 "PageIndexModel" "order" "I"] ++ wsX10)
def wsX1_stands : List Cond := .code yX1_stands cX1_stands 1 (some .int) :: ([.fieldLink RX1 15 "PageIndexModel" "cursor" "J", .constantLong RX1 13 (-1), .methodLink RX1 51 yX1_below, .instanceMethod yX1_below, .selects RX1 yX1_below yX1_below, .initialized RX1, .code yX1_below cX1_below 4 (some .int), .fieldLink RX1 40 "PageIndexModel" "size" "I", .fieldLink RX1 7 "PageIndexModel" "keys" "[J", .methodLink RX1 55 yX1_isThere, .instanceMethod yX1_isThere, .selects RX1 yX1_isThere yX1_isThere, .code yX1_isThere cX1_isThere 4 (some .boolean)] ++ wsX10)
def wsX1_size : List Cond := .code yX1_size cX1_size 1 (some .int) :: ([.fieldLink RX1 40 "PageIndexModel" "size" "I"] ++ wsX10)
def wsX1_cut : List Cond := .code yX1_cut cX1_cut 9 (some .int) :: ([.methodLink RX1 43 yX1_areNumbers, .static yX1_areNumbers, .initialized RX1, .code yX1_areNumbers cX1_areNumbers 4 (some .boolean), .methodLink RX1 30 yX1_isNumber, .static yX1_isNumber, .code yX1_isNumber cX1_isNumber 1 (some .boolean), .constant RX1 29 (1048576), .methodLink RX1 67 yX1_beginning, .static yX1_beginning, .code yX1_beginning cX1_beginning 4 (some .long), .methodLink RX1 36 yX1_packed, .static yX1_packed, .code yX1_packed cX1_packed 6 (some .long), .constantLong RX1 34 (1048576), .fieldLink RX1 40 "PageIndexModel" "size" "I", .fieldLink RX1 7 "PageIndexModel" "keys" "[J", .methodLink RX1 71 yX1_first, .static yX1_first, .code yX1_first cX1_first 5 (some .long), .constantLong RX1 63 (1152921504606846976), .constantLong RX1 65 (1099511627776)] ++ wsX10)
set_option maxRecDepth 20000 in
theorem gX1_has_X1_areNumbers : GoodIn wsX1_has (va_wsS RX1 43 yX1_areNumbers wsX1_areNumbers) := goodIn_p _ [4, 7] (by decide +kernel) (by decide +kernel)
set_option maxRecDepth 20000 in
theorem gX1_has_X1_key : GoodIn wsX1_has (wsV RX1 47 RX1 yX1_key wsX1_key) := goodIn_p _ [12, 16] (by decide +kernel) (by decide +kernel)
set_option maxRecDepth 20000 in
theorem gX1_has_X1_below : GoodIn wsX1_has (wsV RX1 51 RX1 yX1_below wsX1_below) := goodIn_p _ [21] (by decide +kernel) (by decide +kernel)
set_option maxRecDepth 20000 in
theorem gX1_has_X1_isThere : GoodIn wsX1_has (wsV RX1 55 RX1 yX1_isThere wsX1_isThere) := goodIn_p _ [27] (by decide +kernel) (by decide +kernel)
theorem dX1_has_0 : decode cX1_has 0 = .ok (.iconst 3, 1) := by decide +kernel
theorem dX1_has_1 : decode cX1_has 1 = .ok (.iload_n 1, 1) := by decide +kernel
theorem dX1_has_2 : decode cX1_has 2 = .ok (.iload_n 2, 1) := by decide +kernel
theorem dX1_has_3 : decode cX1_has 3 = .ok (.iload_n 3, 1) := by decide +kernel
theorem dX1_has_4 : decode cX1_has 4 = .ok (.invokestatic 43, 3) := by decide +kernel
theorem dX1_has_7 : decode cX1_has 7 = .ok (.ifCond .ne 5, 3) := by decide +kernel
theorem dX1_has_10 : decode cX1_has 10 = .ok (.iconst (-1), 1) := by decide +kernel
theorem dX1_has_11 : decode cX1_has 11 = .ok (.ireturn, 1) := by decide +kernel
theorem dX1_has_12 : decode cX1_has 12 = .ok (.aload_n 0, 1) := by decide +kernel
theorem dX1_has_13 : decode cX1_has 13 = .ok (.iload_n 1, 1) := by decide +kernel
theorem dX1_has_14 : decode cX1_has 14 = .ok (.iload_n 2, 1) := by decide +kernel
theorem dX1_has_15 : decode cX1_has 15 = .ok (.iload_n 3, 1) := by decide +kernel
theorem dX1_has_16 : decode cX1_has 16 = .ok (.invokevirtual 47, 3) := by decide +kernel
theorem dX1_has_19 : decode cX1_has 19 = .ok (.lstore 4, 2) := by decide +kernel
theorem dX1_has_21 : decode cX1_has 21 = .ok (.aload_n 0, 1) := by decide +kernel
theorem dX1_has_22 : decode cX1_has 22 = .ok (.aload_n 0, 1) := by decide +kernel
theorem dX1_has_23 : decode cX1_has 23 = .ok (.lload 4, 2) := by decide +kernel
theorem dX1_has_25 : decode cX1_has 25 = .ok (.invokevirtual 51, 3) := by decide +kernel
theorem dX1_has_28 : decode cX1_has 28 = .ok (.lload 4, 2) := by decide +kernel
theorem dX1_has_30 : decode cX1_has 30 = .ok (.invokevirtual 55, 3) := by decide +kernel
theorem dX1_has_33 : decode cX1_has 33 = .ok (.ifCond .eq 7, 3) := by decide +kernel
theorem dX1_has_36 : decode cX1_has 36 = .ok (.iconst 1, 1) := by decide +kernel
theorem dX1_has_37 : decode cX1_has 37 = .ok (.goto 4, 3) := by decide +kernel
theorem dX1_has_40 : decode cX1_has 40 = .ok (.iconst 0, 1) := by decide +kernel
theorem dX1_has_41 : decode cX1_has 41 = .ok (.ireturn, 1) := by decide +kernel
theorem dX1_first_0 : decode cX1_first 0 = .ok (.iload_n 2, 1) := by decide +kernel
theorem dX1_first_1 : decode cX1_first 1 = .ok (.ifCond .ne 9, 3) := by decide +kernel
theorem dX1_first_4 : decode cX1_first 4 = .ok (.ldc2_w 63, 3) := by decide +kernel
theorem dX1_first_7 : decode cX1_first 7 = .ok (.goto 26, 3) := by decide +kernel
theorem dX1_first_10 : decode cX1_first 10 = .ok (.iload_n 2, 1) := by decide +kernel
theorem dX1_first_11 : decode cX1_first 11 = .ok (.iconst 1, 1) := by decide +kernel
theorem dX1_first_12 : decode cX1_first 12 = .ok (.if_icmp .ne 9, 3) := by decide +kernel
theorem dX1_first_15 : decode cX1_first 15 = .ok (.ldc2_w 65, 3) := by decide +kernel
theorem dX1_first_18 : decode cX1_first 18 = .ok (.goto 15, 3) := by decide +kernel
theorem dX1_first_21 : decode cX1_first 21 = .ok (.iload_n 2, 1) := by decide +kernel
theorem dX1_first_22 : decode cX1_first 22 = .ok (.iconst 2, 1) := by decide +kernel
theorem dX1_first_23 : decode cX1_first 23 = .ok (.if_icmp .ne 9, 3) := by decide +kernel
theorem dX1_first_26 : decode cX1_first 26 = .ok (.ldc2_w 34, 3) := by decide +kernel
theorem dX1_first_29 : decode cX1_first 29 = .ok (.goto 4, 3) := by decide +kernel
theorem dX1_first_32 : decode cX1_first 32 = .ok (.lconst 1, 1) := by decide +kernel
theorem dX1_first_33 : decode cX1_first 33 = .ok (.lstore_n 3, 1) := by decide +kernel
theorem dX1_first_34 : decode cX1_first 34 = .ok (.iload_n 2, 1) := by decide +kernel
theorem dX1_first_35 : decode cX1_first 35 = .ok (.ifCond .ne 7, 3) := by decide +kernel
theorem dX1_first_38 : decode cX1_first 38 = .ok (.lconst 0, 1) := by decide +kernel
theorem dX1_first_39 : decode cX1_first 39 = .ok (.goto 8, 3) := by decide +kernel
theorem dX1_first_42 : decode cX1_first 42 = .ok (.lload_n 0, 1) := by decide +kernel
theorem dX1_first_43 : decode cX1_first 43 = .ok (.lload_n 0, 1) := by decide +kernel
theorem dX1_first_44 : decode cX1_first 44 = .ok (.lload_n 3, 1) := by decide +kernel
theorem dX1_first_45 : decode cX1_first 45 = .ok (.lrem, 1) := by decide +kernel
theorem dX1_first_46 : decode cX1_first 46 = .ok (.lsub, 1) := by decide +kernel
theorem dX1_first_47 : decode cX1_first 47 = .ok (.lreturn, 1) := by decide +kernel
set_option maxRecDepth 20000 in
theorem gX1_beginning_X1_packed : GoodIn wsX1_beginning (va_wsS RX1 36 yX1_packed wsX1_packed) := goodIn_p _ [4] (by decide +kernel) (by decide +kernel)
theorem dX1_beginning_0 : decode cX1_beginning 0 = .ok (.iload_n 0, 1) := by decide +kernel
theorem dX1_beginning_1 : decode cX1_beginning 1 = .ok (.ifCond .le 8, 3) := by decide +kernel
theorem dX1_beginning_4 : decode cX1_beginning 4 = .ok (.iload_n 1, 1) := by decide +kernel
theorem dX1_beginning_5 : decode cX1_beginning 5 = .ok (.i2l, 1) := by decide +kernel
theorem dX1_beginning_6 : decode cX1_beginning 6 = .ok (.goto 4, 3) := by decide +kernel
theorem dX1_beginning_9 : decode cX1_beginning 9 = .ok (.lconst 0, 1) := by decide +kernel
theorem dX1_beginning_10 : decode cX1_beginning 10 = .ok (.iload_n 0, 1) := by decide +kernel
theorem dX1_beginning_11 : decode cX1_beginning 11 = .ok (.iconst 1, 1) := by decide +kernel
theorem dX1_beginning_12 : decode cX1_beginning 12 = .ok (.if_icmp .le 8, 3) := by decide +kernel
theorem dX1_beginning_15 : decode cX1_beginning 15 = .ok (.iload_n 2, 1) := by decide +kernel
theorem dX1_beginning_16 : decode cX1_beginning 16 = .ok (.i2l, 1) := by decide +kernel
theorem dX1_beginning_17 : decode cX1_beginning 17 = .ok (.goto 4, 3) := by decide +kernel
theorem dX1_beginning_20 : decode cX1_beginning 20 = .ok (.lconst 0, 1) := by decide +kernel
theorem dX1_beginning_21 : decode cX1_beginning 21 = .ok (.iload_n 0, 1) := by decide +kernel
theorem dX1_beginning_22 : decode cX1_beginning 22 = .ok (.iconst 2, 1) := by decide +kernel
theorem dX1_beginning_23 : decode cX1_beginning 23 = .ok (.if_icmp .le 8, 3) := by decide +kernel
theorem dX1_beginning_26 : decode cX1_beginning 26 = .ok (.iload_n 3, 1) := by decide +kernel
theorem dX1_beginning_27 : decode cX1_beginning 27 = .ok (.i2l, 1) := by decide +kernel
theorem dX1_beginning_28 : decode cX1_beginning 28 = .ok (.goto 4, 3) := by decide +kernel
theorem dX1_beginning_31 : decode cX1_beginning 31 = .ok (.lconst 0, 1) := by decide +kernel
theorem dX1_beginning_32 : decode cX1_beginning 32 = .ok (.invokestatic 36, 3) := by decide +kernel
theorem dX1_beginning_35 : decode cX1_beginning 35 = .ok (.lreturn, 1) := by decide +kernel
set_option maxRecDepth 20000 in
theorem gX1_count_X1_areNumbers : GoodIn wsX1_count (va_wsS RX1 43 yX1_areNumbers wsX1_areNumbers) := goodIn_p _ [4, 7] (by decide +kernel) (by decide +kernel)
set_option maxRecDepth 20000 in
theorem gX1_count_X1_beginning : GoodIn wsX1_count (va_wsS RX1 67 yX1_beginning wsX1_beginning) := goodIn_p _ [11, 14] (by decide +kernel) (by decide +kernel)
set_option maxRecDepth 20000 in
theorem gX1_count_X1_first : GoodIn wsX1_count (va_wsS RX1 71 yX1_first wsX1_first) := goodIn_p _ [20] (by decide +kernel) (by decide +kernel)
theorem dX1_count_0 : decode cX1_count 0 = .ok (.iload_n 1, 1) := by decide +kernel
theorem dX1_count_1 : decode cX1_count 1 = .ok (.ifCond .lt 8, 3) := by decide +kernel
theorem dX1_count_4 : decode cX1_count 4 = .ok (.iload_n 1, 1) := by decide +kernel
theorem dX1_count_5 : decode cX1_count 5 = .ok (.iconst 3, 1) := by decide +kernel
theorem dX1_count_6 : decode cX1_count 6 = .ok (.if_icmp .le 5, 3) := by decide +kernel
theorem dX1_count_9 : decode cX1_count 9 = .ok (.iconst (-1), 1) := by decide +kernel
theorem dX1_count_10 : decode cX1_count 10 = .ok (.ireturn, 1) := by decide +kernel
theorem dX1_count_11 : decode cX1_count 11 = .ok (.iload_n 1, 1) := by decide +kernel
theorem dX1_count_12 : decode cX1_count 12 = .ok (.iload_n 2, 1) := by decide +kernel
theorem dX1_count_13 : decode cX1_count 13 = .ok (.iload_n 3, 1) := by decide +kernel
theorem dX1_count_14 : decode cX1_count 14 = .ok (.iload 4, 2) := by decide +kernel
theorem dX1_count_16 : decode cX1_count 16 = .ok (.invokestatic 43, 3) := by decide +kernel
theorem dX1_count_19 : decode cX1_count 19 = .ok (.ifCond .ne 5, 3) := by decide +kernel
theorem dX1_count_22 : decode cX1_count 22 = .ok (.iconst 0, 1) := by decide +kernel
theorem dX1_count_23 : decode cX1_count 23 = .ok (.ireturn, 1) := by decide +kernel
theorem dX1_count_24 : decode cX1_count 24 = .ok (.iload_n 1, 1) := by decide +kernel
theorem dX1_count_25 : decode cX1_count 25 = .ok (.iload_n 2, 1) := by decide +kernel
theorem dX1_count_26 : decode cX1_count 26 = .ok (.iload_n 3, 1) := by decide +kernel
theorem dX1_count_27 : decode cX1_count 27 = .ok (.iload 4, 2) := by decide +kernel
theorem dX1_count_29 : decode cX1_count 29 = .ok (.invokestatic 67, 3) := by decide +kernel
theorem dX1_count_32 : decode cX1_count 32 = .ok (.lstore 5, 2) := by decide +kernel
theorem dX1_count_34 : decode cX1_count 34 = .ok (.iconst 0, 1) := by decide +kernel
theorem dX1_count_35 : decode cX1_count 35 = .ok (.istore 7, 2) := by decide +kernel
theorem dX1_count_37 : decode cX1_count 37 = .ok (.iconst 0, 1) := by decide +kernel
theorem dX1_count_38 : decode cX1_count 38 = .ok (.istore 8, 2) := by decide +kernel
theorem dX1_count_40 : decode cX1_count 40 = .ok (.iload 8, 2) := by decide +kernel
theorem dX1_count_42 : decode cX1_count 42 = .ok (.aload_n 0, 1) := by decide +kernel
theorem dX1_count_43 : decode cX1_count 43 = .ok (.getfield 40, 3) := by decide +kernel
theorem dX1_count_46 : decode cX1_count 46 = .ok (.if_icmp .ge 36, 3) := by decide +kernel
theorem dX1_count_49 : decode cX1_count 49 = .ok (.iload 7, 2) := by decide +kernel
theorem dX1_count_51 : decode cX1_count 51 = .ok (.aload_n 0, 1) := by decide +kernel
theorem dX1_count_52 : decode cX1_count 52 = .ok (.getfield 7, 3) := by decide +kernel
theorem dX1_count_55 : decode cX1_count 55 = .ok (.iload 8, 2) := by decide +kernel
theorem dX1_count_57 : decode cX1_count 57 = .ok (.laload, 1) := by decide +kernel
theorem dX1_count_58 : decode cX1_count 58 = .ok (.iload_n 1, 1) := by decide +kernel
theorem dX1_count_59 : decode cX1_count 59 = .ok (.invokestatic 71, 3) := by decide +kernel
theorem dX1_count_62 : decode cX1_count 62 = .ok (.lload 5, 2) := by decide +kernel
theorem dX1_count_64 : decode cX1_count 64 = .ok (.lcmp, 1) := by decide +kernel
theorem dX1_count_65 : decode cX1_count 65 = .ok (.ifCond .ne 7, 3) := by decide +kernel
theorem dX1_count_68 : decode cX1_count 68 = .ok (.iconst 1, 1) := by decide +kernel
theorem dX1_count_69 : decode cX1_count 69 = .ok (.goto 4, 3) := by decide +kernel
theorem dX1_count_72 : decode cX1_count 72 = .ok (.iconst 0, 1) := by decide +kernel
theorem dX1_count_73 : decode cX1_count 73 = .ok (.iadd, 1) := by decide +kernel
theorem dX1_count_74 : decode cX1_count 74 = .ok (.istore 7, 2) := by decide +kernel
theorem dX1_count_76 : decode cX1_count 76 = .ok (.iinc 8 1, 3) := by decide +kernel
theorem dX1_count_79 : decode cX1_count 79 = .ok (.goto (-39), 3) := by decide +kernel
theorem dX1_count_82 : decode cX1_count 82 = .ok (.iload 7, 2) := by decide +kernel
theorem dX1_count_84 : decode cX1_count 84 = .ok (.ireturn, 1) := by decide +kernel
set_option maxRecDepth 20000 in
theorem gX1_different_X1_areNumbers : GoodIn wsX1_different (va_wsS RX1 43 yX1_areNumbers wsX1_areNumbers) := goodIn_p _ [4, 7] (by decide +kernel) (by decide +kernel)
set_option maxRecDepth 20000 in
theorem gX1_different_X1_beginning : GoodIn wsX1_different (va_wsS RX1 67 yX1_beginning wsX1_beginning) := goodIn_p _ [11, 14] (by decide +kernel) (by decide +kernel)
set_option maxRecDepth 20000 in
theorem gX1_different_X1_first : GoodIn wsX1_different (va_wsS RX1 71 yX1_first wsX1_first) := goodIn_p _ [21] (by decide +kernel) (by decide +kernel)
theorem dX1_different_0 : decode cX1_different 0 = .ok (.iload_n 1, 1) := by decide +kernel
theorem dX1_different_1 : decode cX1_different 1 = .ok (.ifCond .lt 8, 3) := by decide +kernel
theorem dX1_different_4 : decode cX1_different 4 = .ok (.iload_n 1, 1) := by decide +kernel
theorem dX1_different_5 : decode cX1_different 5 = .ok (.iconst 2, 1) := by decide +kernel
theorem dX1_different_6 : decode cX1_different 6 = .ok (.if_icmp .le 5, 3) := by decide +kernel
theorem dX1_different_9 : decode cX1_different 9 = .ok (.iconst (-1), 1) := by decide +kernel
theorem dX1_different_10 : decode cX1_different 10 = .ok (.ireturn, 1) := by decide +kernel
theorem dX1_different_11 : decode cX1_different 11 = .ok (.iload_n 1, 1) := by decide +kernel
theorem dX1_different_12 : decode cX1_different 12 = .ok (.iload_n 2, 1) := by decide +kernel
theorem dX1_different_13 : decode cX1_different 13 = .ok (.iload_n 3, 1) := by decide +kernel
theorem dX1_different_14 : decode cX1_different 14 = .ok (.iconst 0, 1) := by decide +kernel
theorem dX1_different_15 : decode cX1_different 15 = .ok (.invokestatic 43, 3) := by decide +kernel
theorem dX1_different_18 : decode cX1_different 18 = .ok (.ifCond .ne 5, 3) := by decide +kernel
theorem dX1_different_21 : decode cX1_different 21 = .ok (.iconst 0, 1) := by decide +kernel
theorem dX1_different_22 : decode cX1_different 22 = .ok (.ireturn, 1) := by decide +kernel
theorem dX1_different_23 : decode cX1_different 23 = .ok (.iload_n 1, 1) := by decide +kernel
theorem dX1_different_24 : decode cX1_different 24 = .ok (.iload_n 2, 1) := by decide +kernel
theorem dX1_different_25 : decode cX1_different 25 = .ok (.iload_n 3, 1) := by decide +kernel
theorem dX1_different_26 : decode cX1_different 26 = .ok (.iconst 0, 1) := by decide +kernel
theorem dX1_different_27 : decode cX1_different 27 = .ok (.invokestatic 67, 3) := by decide +kernel
theorem dX1_different_30 : decode cX1_different 30 = .ok (.lstore 4, 2) := by decide +kernel
theorem dX1_different_32 : decode cX1_different 32 = .ok (.iconst 0, 1) := by decide +kernel
theorem dX1_different_33 : decode cX1_different 33 = .ok (.istore 6, 2) := by decide +kernel
theorem dX1_different_35 : decode cX1_different 35 = .ok (.ldc2_w 13, 3) := by decide +kernel
theorem dX1_different_38 : decode cX1_different 38 = .ok (.lstore 7, 2) := by decide +kernel
theorem dX1_different_40 : decode cX1_different 40 = .ok (.iconst 0, 1) := by decide +kernel
theorem dX1_different_41 : decode cX1_different 41 = .ok (.istore 9, 2) := by decide +kernel
theorem dX1_different_43 : decode cX1_different 43 = .ok (.iload 9, 2) := by decide +kernel
theorem dX1_different_45 : decode cX1_different 45 = .ok (.aload_n 0, 1) := by decide +kernel
theorem dX1_different_46 : decode cX1_different 46 = .ok (.getfield 40, 3) := by decide +kernel
theorem dX1_different_49 : decode cX1_different 49 = .ok (.if_icmp .ge 59, 3) := by decide +kernel
theorem dX1_different_52 : decode cX1_different 52 = .ok (.aload_n 0, 1) := by decide +kernel
theorem dX1_different_53 : decode cX1_different 53 = .ok (.getfield 7, 3) := by decide +kernel
theorem dX1_different_56 : decode cX1_different 56 = .ok (.iload 9, 2) := by decide +kernel
theorem dX1_different_58 : decode cX1_different 58 = .ok (.laload, 1) := by decide +kernel
theorem dX1_different_59 : decode cX1_different 59 = .ok (.iload_n 1, 1) := by decide +kernel
theorem dX1_different_60 : decode cX1_different 60 = .ok (.iconst 1, 1) := by decide +kernel
theorem dX1_different_61 : decode cX1_different 61 = .ok (.iadd, 1) := by decide +kernel
theorem dX1_different_62 : decode cX1_different 62 = .ok (.invokestatic 71, 3) := by decide +kernel
theorem dX1_different_65 : decode cX1_different 65 = .ok (.lstore 10, 2) := by decide +kernel
theorem dX1_different_67 : decode cX1_different 67 = .ok (.aload_n 0, 1) := by decide +kernel
theorem dX1_different_68 : decode cX1_different 68 = .ok (.getfield 7, 3) := by decide +kernel
theorem dX1_different_71 : decode cX1_different 71 = .ok (.iload 9, 2) := by decide +kernel
theorem dX1_different_73 : decode cX1_different 73 = .ok (.laload, 1) := by decide +kernel
theorem dX1_different_74 : decode cX1_different 74 = .ok (.iload_n 1, 1) := by decide +kernel
theorem dX1_different_75 : decode cX1_different 75 = .ok (.invokestatic 71, 3) := by decide +kernel
theorem dX1_different_78 : decode cX1_different 78 = .ok (.lload 4, 2) := by decide +kernel
theorem dX1_different_80 : decode cX1_different 80 = .ok (.lcmp, 1) := by decide +kernel
theorem dX1_different_81 : decode cX1_different 81 = .ok (.ifCond .ne 21, 3) := by decide +kernel
theorem dX1_different_84 : decode cX1_different 84 = .ok (.lload 10, 2) := by decide +kernel
theorem dX1_different_86 : decode cX1_different 86 = .ok (.lload 7, 2) := by decide +kernel
theorem dX1_different_88 : decode cX1_different 88 = .ok (.lcmp, 1) := by decide +kernel
theorem dX1_different_89 : decode cX1_different 89 = .ok (.ifCond .ne 6, 3) := by decide +kernel
theorem dX1_different_92 : decode cX1_different 92 = .ok (.goto 10, 3) := by decide +kernel
theorem dX1_different_95 : decode cX1_different 95 = .ok (.iinc 6 1, 3) := by decide +kernel
theorem dX1_different_98 : decode cX1_different 98 = .ok (.lload 10, 2) := by decide +kernel
theorem dX1_different_100 : decode cX1_different 100 = .ok (.lstore 7, 2) := by decide +kernel
theorem dX1_different_102 : decode cX1_different 102 = .ok (.iinc 9 1, 3) := by decide +kernel
theorem dX1_different_105 : decode cX1_different 105 = .ok (.goto (-62), 3) := by decide +kernel
theorem dX1_different_108 : decode cX1_different 108 = .ok (.iload 6, 2) := by decide +kernel
theorem dX1_different_110 : decode cX1_different 110 = .ok (.ireturn, 1) := by decide +kernel
set_option maxRecDepth 20000 in
theorem gX1_rank_X1_areNumbers : GoodIn wsX1_rank (va_wsS RX1 43 yX1_areNumbers wsX1_areNumbers) := goodIn_p _ [4, 7] (by decide +kernel) (by decide +kernel)
set_option maxRecDepth 20000 in
theorem gX1_rank_X1_packed : GoodIn wsX1_rank (va_wsS RX1 36 yX1_packed wsX1_packed) := goodIn_p _ [11] (by decide +kernel) (by decide +kernel)
set_option maxRecDepth 20000 in
theorem gX1_rank_X1_below : GoodIn wsX1_rank (wsV RX1 51 RX1 yX1_below wsX1_below) := goodIn_p _ [16] (by decide +kernel) (by decide +kernel)
theorem dX1_rank_0 : decode cX1_rank 0 = .ok (.iconst 3, 1) := by decide +kernel
theorem dX1_rank_1 : decode cX1_rank 1 = .ok (.iload_n 1, 1) := by decide +kernel
theorem dX1_rank_2 : decode cX1_rank 2 = .ok (.iload_n 2, 1) := by decide +kernel
theorem dX1_rank_3 : decode cX1_rank 3 = .ok (.iload_n 3, 1) := by decide +kernel
theorem dX1_rank_4 : decode cX1_rank 4 = .ok (.invokestatic 43, 3) := by decide +kernel
theorem dX1_rank_7 : decode cX1_rank 7 = .ok (.ifCond .eq 19, 3) := by decide +kernel
theorem dX1_rank_10 : decode cX1_rank 10 = .ok (.aload_n 0, 1) := by decide +kernel
theorem dX1_rank_11 : decode cX1_rank 11 = .ok (.iload_n 1, 1) := by decide +kernel
theorem dX1_rank_12 : decode cX1_rank 12 = .ok (.i2l, 1) := by decide +kernel
theorem dX1_rank_13 : decode cX1_rank 13 = .ok (.iload_n 2, 1) := by decide +kernel
theorem dX1_rank_14 : decode cX1_rank 14 = .ok (.i2l, 1) := by decide +kernel
theorem dX1_rank_15 : decode cX1_rank 15 = .ok (.iload_n 3, 1) := by decide +kernel
theorem dX1_rank_16 : decode cX1_rank 16 = .ok (.i2l, 1) := by decide +kernel
theorem dX1_rank_17 : decode cX1_rank 17 = .ok (.invokestatic 36, 3) := by decide +kernel
theorem dX1_rank_20 : decode cX1_rank 20 = .ok (.invokevirtual 51, 3) := by decide +kernel
theorem dX1_rank_23 : decode cX1_rank 23 = .ok (.goto 4, 3) := by decide +kernel
theorem dX1_rank_26 : decode cX1_rank 26 = .ok (.iconst (-1), 1) := by decide +kernel
theorem dX1_rank_27 : decode cX1_rank 27 = .ok (.ireturn, 1) := by decide +kernel
theorem dX1_stand_0 : decode cX1_stand 0 = .ok (.iload_n 1, 1) := by decide +kernel
theorem dX1_stand_1 : decode cX1_stand 1 = .ok (.ifCond .lt 15, 3) := by decide +kernel
theorem dX1_stand_4 : decode cX1_stand 4 = .ok (.iload_n 1, 1) := by decide +kernel
theorem dX1_stand_5 : decode cX1_stand 5 = .ok (.aload_n 0, 1) := by decide +kernel
theorem dX1_stand_6 : decode cX1_stand 6 = .ok (.getfield 40, 3) := by decide +kernel
theorem dX1_stand_9 : decode cX1_stand 9 = .ok (.if_icmp .ge 7, 3) := by decide +kernel
theorem dX1_stand_12 : decode cX1_stand 12 = .ok (.iconst 1, 1) := by decide +kernel
theorem dX1_stand_13 : decode cX1_stand 13 = .ok (.goto 4, 3) := by decide +kernel
theorem dX1_stand_16 : decode cX1_stand 16 = .ok (.iconst 0, 1) := by decide +kernel
theorem dX1_stand_17 : decode cX1_stand 17 = .ok (.istore_n 2, 1) := by decide +kernel
theorem dX1_stand_18 : decode cX1_stand 18 = .ok (.aload_n 0, 1) := by decide +kernel
theorem dX1_stand_19 : decode cX1_stand 19 = .ok (.iload_n 2, 1) := by decide +kernel
theorem dX1_stand_20 : decode cX1_stand 20 = .ok (.ifCond .eq 12, 3) := by decide +kernel
theorem dX1_stand_23 : decode cX1_stand 23 = .ok (.aload_n 0, 1) := by decide +kernel
theorem dX1_stand_24 : decode cX1_stand 24 = .ok (.getfield 7, 3) := by decide +kernel
theorem dX1_stand_27 : decode cX1_stand 27 = .ok (.iload_n 1, 1) := by decide +kernel
theorem dX1_stand_28 : decode cX1_stand 28 = .ok (.laload, 1) := by decide +kernel
theorem dX1_stand_29 : decode cX1_stand 29 = .ok (.goto 6, 3) := by decide +kernel
theorem dX1_stand_32 : decode cX1_stand 32 = .ok (.ldc2_w 13, 3) := by decide +kernel
theorem dX1_stand_35 : decode cX1_stand 35 = .ok (.putfield 15, 3) := by decide +kernel
theorem dX1_stand_38 : decode cX1_stand 38 = .ok (.iload_n 2, 1) := by decide +kernel
theorem dX1_stand_39 : decode cX1_stand 39 = .ok (.ireturn, 1) := by decide +kernel
set_option maxRecDepth 20000 in
theorem gX1_choose_X1_stand : GoodIn wsX1_choose (wsV RX1 75 RX1 yX1_stand wsX1_stand) := goodIn_p _ [5] (by decide +kernel) (by decide +kernel)
theorem dX1_choose_0 : decode cX1_choose 0 = .ok (.aload_n 0, 1) := by decide +kernel
theorem dX1_choose_1 : decode cX1_choose 1 = .ok (.iload_n 1, 1) := by decide +kernel
theorem dX1_choose_2 : decode cX1_choose 2 = .ok (.invokevirtual 75, 3) := by decide +kernel
theorem dX1_choose_5 : decode cX1_choose 5 = .ok (.ireturn, 1) := by decide +kernel
set_option maxRecDepth 20000 in
theorem gX1_seek_X1_areNumbers : GoodIn wsX1_seek (va_wsS RX1 43 yX1_areNumbers wsX1_areNumbers) := goodIn_p _ [4, 7] (by decide +kernel) (by decide +kernel)
set_option maxRecDepth 20000 in
theorem gX1_seek_X1_packed : GoodIn wsX1_seek (va_wsS RX1 36 yX1_packed wsX1_packed) := goodIn_p _ [11] (by decide +kernel) (by decide +kernel)
set_option maxRecDepth 20000 in
theorem gX1_seek_X1_below : GoodIn wsX1_seek (wsV RX1 51 RX1 yX1_below wsX1_below) := goodIn_p _ [16] (by decide +kernel) (by decide +kernel)
set_option maxRecDepth 20000 in
theorem gX1_seek_X1_stand : GoodIn wsX1_seek (wsV RX1 75 RX1 yX1_stand wsX1_stand) := goodIn_p _ [22] (by decide +kernel) (by decide +kernel)
theorem dX1_seek_0 : decode cX1_seek 0 = .ok (.iconst 3, 1) := by decide +kernel
theorem dX1_seek_1 : decode cX1_seek 1 = .ok (.iload_n 1, 1) := by decide +kernel
theorem dX1_seek_2 : decode cX1_seek 2 = .ok (.iload_n 2, 1) := by decide +kernel
theorem dX1_seek_3 : decode cX1_seek 3 = .ok (.iload_n 3, 1) := by decide +kernel
theorem dX1_seek_4 : decode cX1_seek 4 = .ok (.invokestatic 43, 3) := by decide +kernel
theorem dX1_seek_7 : decode cX1_seek 7 = .ok (.ifCond .eq 27, 3) := by decide +kernel
theorem dX1_seek_10 : decode cX1_seek 10 = .ok (.aload_n 0, 1) := by decide +kernel
theorem dX1_seek_11 : decode cX1_seek 11 = .ok (.aload_n 0, 1) := by decide +kernel
theorem dX1_seek_12 : decode cX1_seek 12 = .ok (.iload_n 1, 1) := by decide +kernel
theorem dX1_seek_13 : decode cX1_seek 13 = .ok (.i2l, 1) := by decide +kernel
theorem dX1_seek_14 : decode cX1_seek 14 = .ok (.iload_n 2, 1) := by decide +kernel
theorem dX1_seek_15 : decode cX1_seek 15 = .ok (.i2l, 1) := by decide +kernel
theorem dX1_seek_16 : decode cX1_seek 16 = .ok (.iload_n 3, 1) := by decide +kernel
theorem dX1_seek_17 : decode cX1_seek 17 = .ok (.i2l, 1) := by decide +kernel
theorem dX1_seek_18 : decode cX1_seek 18 = .ok (.invokestatic 36, 3) := by decide +kernel
theorem dX1_seek_21 : decode cX1_seek 21 = .ok (.invokevirtual 51, 3) := by decide +kernel
theorem dX1_seek_24 : decode cX1_seek 24 = .ok (.invokevirtual 75, 3) := by decide +kernel
theorem dX1_seek_27 : decode cX1_seek 27 = .ok (.ifCond .eq 7, 3) := by decide +kernel
theorem dX1_seek_30 : decode cX1_seek 30 = .ok (.iconst 1, 1) := by decide +kernel
theorem dX1_seek_31 : decode cX1_seek 31 = .ok (.goto 4, 3) := by decide +kernel
theorem dX1_seek_34 : decode cX1_seek 34 = .ok (.iconst 0, 1) := by decide +kernel
theorem dX1_seek_35 : decode cX1_seek 35 = .ok (.ireturn, 1) := by decide +kernel
set_option maxRecDepth 20000 in
theorem gX1_next_X1_below : GoodIn wsX1_next (wsV RX1 51 RX1 yX1_below wsX1_below) := goodIn_p _ [6] (by decide +kernel) (by decide +kernel)
set_option maxRecDepth 20000 in
theorem gX1_next_X1_stand : GoodIn wsX1_next (wsV RX1 75 RX1 yX1_stand wsX1_stand) := goodIn_p _ [12] (by decide +kernel) (by decide +kernel)
theorem dX1_next_0 : decode cX1_next 0 = .ok (.aload_n 0, 1) := by decide +kernel
theorem dX1_next_1 : decode cX1_next 1 = .ok (.aload_n 0, 1) := by decide +kernel
theorem dX1_next_2 : decode cX1_next 2 = .ok (.aload_n 0, 1) := by decide +kernel
theorem dX1_next_3 : decode cX1_next 3 = .ok (.getfield 15, 3) := by decide +kernel
theorem dX1_next_6 : decode cX1_next 6 = .ok (.lconst 1, 1) := by decide +kernel
theorem dX1_next_7 : decode cX1_next 7 = .ok (.ladd, 1) := by decide +kernel
theorem dX1_next_8 : decode cX1_next 8 = .ok (.invokevirtual 51, 3) := by decide +kernel
theorem dX1_next_11 : decode cX1_next 11 = .ok (.invokevirtual 75, 3) := by decide +kernel
theorem dX1_next_14 : decode cX1_next 14 = .ok (.ireturn, 1) := by decide +kernel
set_option maxRecDepth 20000 in
theorem gX1_previous_X1_below : GoodIn wsX1_previous (wsV RX1 51 RX1 yX1_below wsX1_below) := goodIn_p _ [8] (by decide +kernel) (by decide +kernel)
set_option maxRecDepth 20000 in
theorem gX1_previous_X1_stand : GoodIn wsX1_previous (wsV RX1 75 RX1 yX1_stand wsX1_stand) := goodIn_p _ [13] (by decide +kernel) (by decide +kernel)
theorem dX1_previous_0 : decode cX1_previous 0 = .ok (.aload_n 0, 1) := by decide +kernel
theorem dX1_previous_1 : decode cX1_previous 1 = .ok (.aload_n 0, 1) := by decide +kernel
theorem dX1_previous_2 : decode cX1_previous 2 = .ok (.getfield 15, 3) := by decide +kernel
theorem dX1_previous_5 : decode cX1_previous 5 = .ok (.ldc2_w 13, 3) := by decide +kernel
theorem dX1_previous_8 : decode cX1_previous 8 = .ok (.lcmp, 1) := by decide +kernel
theorem dX1_previous_9 : decode cX1_previous 9 = .ok (.ifCond .ne 12, 3) := by decide +kernel
theorem dX1_previous_12 : decode cX1_previous 12 = .ok (.aload_n 0, 1) := by decide +kernel
theorem dX1_previous_13 : decode cX1_previous 13 = .ok (.getfield 40, 3) := by decide +kernel
theorem dX1_previous_16 : decode cX1_previous 16 = .ok (.iconst 1, 1) := by decide +kernel
theorem dX1_previous_17 : decode cX1_previous 17 = .ok (.isub, 1) := by decide +kernel
theorem dX1_previous_18 : decode cX1_previous 18 = .ok (.goto 13, 3) := by decide +kernel
theorem dX1_previous_21 : decode cX1_previous 21 = .ok (.aload_n 0, 1) := by decide +kernel
theorem dX1_previous_22 : decode cX1_previous 22 = .ok (.aload_n 0, 1) := by decide +kernel
theorem dX1_previous_23 : decode cX1_previous 23 = .ok (.getfield 15, 3) := by decide +kernel
theorem dX1_previous_26 : decode cX1_previous 26 = .ok (.invokevirtual 51, 3) := by decide +kernel
theorem dX1_previous_29 : decode cX1_previous 29 = .ok (.iconst 1, 1) := by decide +kernel
theorem dX1_previous_30 : decode cX1_previous 30 = .ok (.isub, 1) := by decide +kernel
theorem dX1_previous_31 : decode cX1_previous 31 = .ok (.invokevirtual 75, 3) := by decide +kernel
theorem dX1_previous_34 : decode cX1_previous 34 = .ok (.ireturn, 1) := by decide +kernel
theorem dX1_number_0 : decode cX1_number 0 = .ok (.iload_n 1, 1) := by decide +kernel
theorem dX1_number_1 : decode cX1_number 1 = .ok (.ifCond .ne 18, 3) := by decide +kernel
theorem dX1_number_4 : decode cX1_number 4 = .ok (.aload_n 0, 1) := by decide +kernel
theorem dX1_number_5 : decode cX1_number 5 = .ok (.getfield 15, 3) := by decide +kernel
theorem dX1_number_8 : decode cX1_number 8 = .ok (.ldc2_w 34, 3) := by decide +kernel
theorem dX1_number_11 : decode cX1_number 11 = .ok (.ldiv, 1) := by decide +kernel
theorem dX1_number_12 : decode cX1_number 12 = .ok (.ldc2_w 34, 3) := by decide +kernel
theorem dX1_number_15 : decode cX1_number 15 = .ok (.ldiv, 1) := by decide +kernel
theorem dX1_number_16 : decode cX1_number 16 = .ok (.goto 31, 3) := by decide +kernel
theorem dX1_number_19 : decode cX1_number 19 = .ok (.iload_n 1, 1) := by decide +kernel
theorem dX1_number_20 : decode cX1_number 20 = .ok (.iconst 1, 1) := by decide +kernel
theorem dX1_number_21 : decode cX1_number 21 = .ok (.if_icmp .ne 18, 3) := by decide +kernel
theorem dX1_number_24 : decode cX1_number 24 = .ok (.aload_n 0, 1) := by decide +kernel
theorem dX1_number_25 : decode cX1_number 25 = .ok (.getfield 15, 3) := by decide +kernel
theorem dX1_number_28 : decode cX1_number 28 = .ok (.ldc2_w 34, 3) := by decide +kernel
theorem dX1_number_31 : decode cX1_number 31 = .ok (.ldiv, 1) := by decide +kernel
theorem dX1_number_32 : decode cX1_number 32 = .ok (.ldc2_w 34, 3) := by decide +kernel
theorem dX1_number_35 : decode cX1_number 35 = .ok (.lrem, 1) := by decide +kernel
theorem dX1_number_36 : decode cX1_number 36 = .ok (.goto 11, 3) := by decide +kernel
theorem dX1_number_39 : decode cX1_number 39 = .ok (.aload_n 0, 1) := by decide +kernel
theorem dX1_number_40 : decode cX1_number 40 = .ok (.getfield 15, 3) := by decide +kernel
theorem dX1_number_43 : decode cX1_number 43 = .ok (.ldc2_w 34, 3) := by decide +kernel
theorem dX1_number_46 : decode cX1_number 46 = .ok (.lrem, 1) := by decide +kernel
theorem dX1_number_47 : decode cX1_number 47 = .ok (.l2i, 1) := by decide +kernel
theorem dX1_number_48 : decode cX1_number 48 = .ok (.ireturn, 1) := by decide +kernel
theorem dX1_placeOf_0 : decode cX1_placeOf 0 = .ok (.aload_n 0, 1) := by decide +kernel
theorem dX1_placeOf_1 : decode cX1_placeOf 1 = .ok (.getfield 25, 3) := by decide +kernel
theorem dX1_placeOf_4 : decode cX1_placeOf 4 = .ok (.tableswitch 88 0 4 #[36, 38, 50, 63, 75], 36) := by decide +kernel
theorem dX1_placeOf_40 : decode cX1_placeOf 40 = .ok (.iload_n 1, 1) := by decide +kernel
theorem dX1_placeOf_41 : decode cX1_placeOf 41 = .ok (.ireturn, 1) := by decide +kernel
theorem dX1_placeOf_42 : decode cX1_placeOf 42 = .ok (.iload_n 1, 1) := by decide +kernel
theorem dX1_placeOf_43 : decode cX1_placeOf 43 = .ok (.ifCond .ne 7, 3) := by decide +kernel
theorem dX1_placeOf_46 : decode cX1_placeOf 46 = .ok (.iconst 0, 1) := by decide +kernel
theorem dX1_placeOf_47 : decode cX1_placeOf 47 = .ok (.goto 6, 3) := by decide +kernel
theorem dX1_placeOf_50 : decode cX1_placeOf 50 = .ok (.iconst 3, 1) := by decide +kernel
theorem dX1_placeOf_51 : decode cX1_placeOf 51 = .ok (.iload_n 1, 1) := by decide +kernel
theorem dX1_placeOf_52 : decode cX1_placeOf 52 = .ok (.isub, 1) := by decide +kernel
theorem dX1_placeOf_53 : decode cX1_placeOf 53 = .ok (.ireturn, 1) := by decide +kernel
theorem dX1_placeOf_54 : decode cX1_placeOf 54 = .ok (.iload_n 1, 1) := by decide +kernel
theorem dX1_placeOf_55 : decode cX1_placeOf 55 = .ok (.iconst 2, 1) := by decide +kernel
theorem dX1_placeOf_56 : decode cX1_placeOf 56 = .ok (.if_icmp .ne 7, 3) := by decide +kernel
theorem dX1_placeOf_59 : decode cX1_placeOf 59 = .ok (.iconst 2, 1) := by decide +kernel
theorem dX1_placeOf_60 : decode cX1_placeOf 60 = .ok (.goto 6, 3) := by decide +kernel
theorem dX1_placeOf_63 : decode cX1_placeOf 63 = .ok (.iconst 1, 1) := by decide +kernel
theorem dX1_placeOf_64 : decode cX1_placeOf 64 = .ok (.iload_n 1, 1) := by decide +kernel
theorem dX1_placeOf_65 : decode cX1_placeOf 65 = .ok (.isub, 1) := by decide +kernel
theorem dX1_placeOf_66 : decode cX1_placeOf 66 = .ok (.ireturn, 1) := by decide +kernel
theorem dX1_placeOf_67 : decode cX1_placeOf 67 = .ok (.iload_n 1, 1) := by decide +kernel
theorem dX1_placeOf_68 : decode cX1_placeOf 68 = .ok (.ifCond .ne 7, 3) := by decide +kernel
theorem dX1_placeOf_71 : decode cX1_placeOf 71 = .ok (.iconst 2, 1) := by decide +kernel
theorem dX1_placeOf_72 : decode cX1_placeOf 72 = .ok (.goto 6, 3) := by decide +kernel
theorem dX1_placeOf_75 : decode cX1_placeOf 75 = .ok (.iload_n 1, 1) := by decide +kernel
theorem dX1_placeOf_76 : decode cX1_placeOf 76 = .ok (.iconst 1, 1) := by decide +kernel
theorem dX1_placeOf_77 : decode cX1_placeOf 77 = .ok (.isub, 1) := by decide +kernel
theorem dX1_placeOf_78 : decode cX1_placeOf 78 = .ok (.ireturn, 1) := by decide +kernel
theorem dX1_placeOf_79 : decode cX1_placeOf 79 = .ok (.iload_n 1, 1) := by decide +kernel
theorem dX1_placeOf_80 : decode cX1_placeOf 80 = .ok (.iconst 2, 1) := by decide +kernel
theorem dX1_placeOf_81 : decode cX1_placeOf 81 = .ok (.if_icmp .ne 7, 3) := by decide +kernel
theorem dX1_placeOf_84 : decode cX1_placeOf 84 = .ok (.iconst 0, 1) := by decide +kernel
theorem dX1_placeOf_85 : decode cX1_placeOf 85 = .ok (.goto 6, 3) := by decide +kernel
theorem dX1_placeOf_88 : decode cX1_placeOf 88 = .ok (.iload_n 1, 1) := by decide +kernel
theorem dX1_placeOf_89 : decode cX1_placeOf 89 = .ok (.iconst 1, 1) := by decide +kernel
theorem dX1_placeOf_90 : decode cX1_placeOf 90 = .ok (.iadd, 1) := by decide +kernel
theorem dX1_placeOf_91 : decode cX1_placeOf 91 = .ok (.ireturn, 1) := by decide +kernel
theorem dX1_placeOf_92 : decode cX1_placeOf 92 = .ok (.iconst 2, 1) := by decide +kernel
theorem dX1_placeOf_93 : decode cX1_placeOf 93 = .ok (.iload_n 1, 1) := by decide +kernel
theorem dX1_placeOf_94 : decode cX1_placeOf 94 = .ok (.isub, 1) := by decide +kernel
theorem dX1_placeOf_95 : decode cX1_placeOf 95 = .ok (.ireturn, 1) := by decide +kernel
set_option maxRecDepth 20000 in
theorem gX1_told_X1_number : GoodIn wsX1_told (wsV RX1 78 RX1 yX1_number wsX1_number) := goodIn_p _ [7] (by decide +kernel) (by decide +kernel)
set_option maxRecDepth 20000 in
theorem gX1_told_X1_placeOf : GoodIn wsX1_told (wsV RX1 82 RX1 yX1_placeOf wsX1_placeOf) := goodIn_p _ [12] (by decide +kernel) (by decide +kernel)
theorem dX1_told_0 : decode cX1_told 0 = .ok (.aload_n 0, 1) := by decide +kernel
theorem dX1_told_1 : decode cX1_told 1 = .ok (.getfield 15, 3) := by decide +kernel
theorem dX1_told_4 : decode cX1_told 4 = .ok (.ldc2_w 13, 3) := by decide +kernel
theorem dX1_told_7 : decode cX1_told 7 = .ok (.lcmp, 1) := by decide +kernel
theorem dX1_told_8 : decode cX1_told 8 = .ok (.ifCond .eq 12, 3) := by decide +kernel
theorem dX1_told_11 : decode cX1_told 11 = .ok (.iload_n 1, 1) := by decide +kernel
theorem dX1_told_12 : decode cX1_told 12 = .ok (.ifCond .lt 8, 3) := by decide +kernel
theorem dX1_told_15 : decode cX1_told 15 = .ok (.iload_n 1, 1) := by decide +kernel
theorem dX1_told_16 : decode cX1_told 16 = .ok (.iconst 5, 1) := by decide +kernel
theorem dX1_told_17 : decode cX1_told 17 = .ok (.if_icmp .le 5, 3) := by decide +kernel
theorem dX1_told_20 : decode cX1_told 20 = .ok (.iconst (-1), 1) := by decide +kernel
theorem dX1_told_21 : decode cX1_told 21 = .ok (.ireturn, 1) := by decide +kernel
theorem dX1_told_22 : decode cX1_told 22 = .ok (.iload_n 1, 1) := by decide +kernel
theorem dX1_told_23 : decode cX1_told 23 = .ok (.iconst 3, 1) := by decide +kernel
theorem dX1_told_24 : decode cX1_told 24 = .ok (.if_icmp .ge 11, 3) := by decide +kernel
theorem dX1_told_27 : decode cX1_told 27 = .ok (.aload_n 0, 1) := by decide +kernel
theorem dX1_told_28 : decode cX1_told 28 = .ok (.iload_n 1, 1) := by decide +kernel
theorem dX1_told_29 : decode cX1_told 29 = .ok (.invokevirtual 78, 3) := by decide +kernel
theorem dX1_told_32 : decode cX1_told 32 = .ok (.goto 14, 3) := by decide +kernel
theorem dX1_told_35 : decode cX1_told 35 = .ok (.aload_n 0, 1) := by decide +kernel
theorem dX1_told_36 : decode cX1_told 36 = .ok (.aload_n 0, 1) := by decide +kernel
theorem dX1_told_37 : decode cX1_told 37 = .ok (.iload_n 1, 1) := by decide +kernel
theorem dX1_told_38 : decode cX1_told 38 = .ok (.iconst 3, 1) := by decide +kernel
theorem dX1_told_39 : decode cX1_told 39 = .ok (.isub, 1) := by decide +kernel
theorem dX1_told_40 : decode cX1_told 40 = .ok (.invokevirtual 82, 3) := by decide +kernel
theorem dX1_told_43 : decode cX1_told 43 = .ok (.invokevirtual 78, 3) := by decide +kernel
theorem dX1_told_46 : decode cX1_told 46 = .ok (.ireturn, 1) := by decide +kernel
set_option maxRecDepth 20000 in
theorem gX1_stands_X1_below : GoodIn wsX1_stands (wsV RX1 51 RX1 yX1_below wsX1_below) := goodIn_p _ [7] (by decide +kernel) (by decide +kernel)
set_option maxRecDepth 20000 in
theorem gX1_stands_X1_isThere : GoodIn wsX1_stands (wsV RX1 55 RX1 yX1_isThere wsX1_isThere) := goodIn_p _ [13] (by decide +kernel) (by decide +kernel)
theorem dX1_stands_0 : decode cX1_stands 0 = .ok (.aload_n 0, 1) := by decide +kernel
theorem dX1_stands_1 : decode cX1_stands 1 = .ok (.getfield 15, 3) := by decide +kernel
theorem dX1_stands_4 : decode cX1_stands 4 = .ok (.ldc2_w 13, 3) := by decide +kernel
theorem dX1_stands_7 : decode cX1_stands 7 = .ok (.lcmp, 1) := by decide +kernel
theorem dX1_stands_8 : decode cX1_stands 8 = .ok (.ifCond .eq 26, 3) := by decide +kernel
theorem dX1_stands_11 : decode cX1_stands 11 = .ok (.aload_n 0, 1) := by decide +kernel
theorem dX1_stands_12 : decode cX1_stands 12 = .ok (.aload_n 0, 1) := by decide +kernel
theorem dX1_stands_13 : decode cX1_stands 13 = .ok (.aload_n 0, 1) := by decide +kernel
theorem dX1_stands_14 : decode cX1_stands 14 = .ok (.getfield 15, 3) := by decide +kernel
theorem dX1_stands_17 : decode cX1_stands 17 = .ok (.invokevirtual 51, 3) := by decide +kernel
theorem dX1_stands_20 : decode cX1_stands 20 = .ok (.aload_n 0, 1) := by decide +kernel
theorem dX1_stands_21 : decode cX1_stands 21 = .ok (.getfield 15, 3) := by decide +kernel
theorem dX1_stands_24 : decode cX1_stands 24 = .ok (.invokevirtual 55, 3) := by decide +kernel
theorem dX1_stands_27 : decode cX1_stands 27 = .ok (.ifCond .eq 7, 3) := by decide +kernel
theorem dX1_stands_30 : decode cX1_stands 30 = .ok (.iconst 1, 1) := by decide +kernel
theorem dX1_stands_31 : decode cX1_stands 31 = .ok (.goto 4, 3) := by decide +kernel
theorem dX1_stands_34 : decode cX1_stands 34 = .ok (.iconst 0, 1) := by decide +kernel
theorem dX1_stands_35 : decode cX1_stands 35 = .ok (.ireturn, 1) := by decide +kernel
theorem dX1_size_0 : decode cX1_size 0 = .ok (.aload_n 0, 1) := by decide +kernel
theorem dX1_size_1 : decode cX1_size 1 = .ok (.getfield 40, 3) := by decide +kernel
theorem dX1_size_4 : decode cX1_size 4 = .ok (.ireturn, 1) := by decide +kernel
set_option maxRecDepth 20000 in
theorem gX1_cut_X1_areNumbers : GoodIn wsX1_cut (va_wsS RX1 43 yX1_areNumbers wsX1_areNumbers) := goodIn_p _ [4, 7] (by decide +kernel) (by decide +kernel)
set_option maxRecDepth 20000 in
theorem gX1_cut_X1_beginning : GoodIn wsX1_cut (va_wsS RX1 67 yX1_beginning wsX1_beginning) := goodIn_p _ [11, 14] (by decide +kernel) (by decide +kernel)
set_option maxRecDepth 20000 in
theorem gX1_cut_X1_first : GoodIn wsX1_cut (va_wsS RX1 71 yX1_first wsX1_first) := goodIn_p _ [20] (by decide +kernel) (by decide +kernel)
theorem dX1_cut_0 : decode cX1_cut 0 = .ok (.iload_n 1, 1) := by decide +kernel
theorem dX1_cut_1 : decode cX1_cut 1 = .ok (.ifCond .lt 8, 3) := by decide +kernel
theorem dX1_cut_4 : decode cX1_cut 4 = .ok (.iload_n 1, 1) := by decide +kernel
theorem dX1_cut_5 : decode cX1_cut 5 = .ok (.iconst 3, 1) := by decide +kernel
theorem dX1_cut_6 : decode cX1_cut 6 = .ok (.if_icmp .le 5, 3) := by decide +kernel
theorem dX1_cut_9 : decode cX1_cut 9 = .ok (.iconst (-1), 1) := by decide +kernel
theorem dX1_cut_10 : decode cX1_cut 10 = .ok (.ireturn, 1) := by decide +kernel
theorem dX1_cut_11 : decode cX1_cut 11 = .ok (.iload_n 1, 1) := by decide +kernel
theorem dX1_cut_12 : decode cX1_cut 12 = .ok (.iload_n 2, 1) := by decide +kernel
theorem dX1_cut_13 : decode cX1_cut 13 = .ok (.iload_n 3, 1) := by decide +kernel
theorem dX1_cut_14 : decode cX1_cut 14 = .ok (.iload 4, 2) := by decide +kernel
theorem dX1_cut_16 : decode cX1_cut 16 = .ok (.invokestatic 43, 3) := by decide +kernel
theorem dX1_cut_19 : decode cX1_cut 19 = .ok (.ifCond .ne 5, 3) := by decide +kernel
theorem dX1_cut_22 : decode cX1_cut 22 = .ok (.iconst 0, 1) := by decide +kernel
theorem dX1_cut_23 : decode cX1_cut 23 = .ok (.ireturn, 1) := by decide +kernel
theorem dX1_cut_24 : decode cX1_cut 24 = .ok (.iload_n 1, 1) := by decide +kernel
theorem dX1_cut_25 : decode cX1_cut 25 = .ok (.iload_n 2, 1) := by decide +kernel
theorem dX1_cut_26 : decode cX1_cut 26 = .ok (.iload_n 3, 1) := by decide +kernel
theorem dX1_cut_27 : decode cX1_cut 27 = .ok (.iload 4, 2) := by decide +kernel
theorem dX1_cut_29 : decode cX1_cut 29 = .ok (.invokestatic 67, 3) := by decide +kernel
theorem dX1_cut_32 : decode cX1_cut 32 = .ok (.lstore 5, 2) := by decide +kernel
theorem dX1_cut_34 : decode cX1_cut 34 = .ok (.iconst 0, 1) := by decide +kernel
theorem dX1_cut_35 : decode cX1_cut 35 = .ok (.istore 7, 2) := by decide +kernel
theorem dX1_cut_37 : decode cX1_cut 37 = .ok (.iconst 0, 1) := by decide +kernel
theorem dX1_cut_38 : decode cX1_cut 38 = .ok (.istore 8, 2) := by decide +kernel
theorem dX1_cut_40 : decode cX1_cut 40 = .ok (.iload 8, 2) := by decide +kernel
theorem dX1_cut_42 : decode cX1_cut 42 = .ok (.aload_n 0, 1) := by decide +kernel
theorem dX1_cut_43 : decode cX1_cut 43 = .ok (.getfield 40, 3) := by decide +kernel
theorem dX1_cut_46 : decode cX1_cut 46 = .ok (.if_icmp .ge 46, 3) := by decide +kernel
theorem dX1_cut_49 : decode cX1_cut 49 = .ok (.aload_n 0, 1) := by decide +kernel
theorem dX1_cut_50 : decode cX1_cut 50 = .ok (.getfield 7, 3) := by decide +kernel
theorem dX1_cut_53 : decode cX1_cut 53 = .ok (.iload 8, 2) := by decide +kernel
theorem dX1_cut_55 : decode cX1_cut 55 = .ok (.laload, 1) := by decide +kernel
theorem dX1_cut_56 : decode cX1_cut 56 = .ok (.iload_n 1, 1) := by decide +kernel
theorem dX1_cut_57 : decode cX1_cut 57 = .ok (.invokestatic 71, 3) := by decide +kernel
theorem dX1_cut_60 : decode cX1_cut 60 = .ok (.lload 5, 2) := by decide +kernel
theorem dX1_cut_62 : decode cX1_cut 62 = .ok (.lcmp, 1) := by decide +kernel
theorem dX1_cut_63 : decode cX1_cut 63 = .ok (.ifCond .ne 6, 3) := by decide +kernel
theorem dX1_cut_66 : decode cX1_cut 66 = .ok (.goto 20, 3) := by decide +kernel
theorem dX1_cut_69 : decode cX1_cut 69 = .ok (.aload_n 0, 1) := by decide +kernel
theorem dX1_cut_70 : decode cX1_cut 70 = .ok (.getfield 7, 3) := by decide +kernel
theorem dX1_cut_73 : decode cX1_cut 73 = .ok (.iload 7, 2) := by decide +kernel
theorem dX1_cut_75 : decode cX1_cut 75 = .ok (.aload_n 0, 1) := by decide +kernel
theorem dX1_cut_76 : decode cX1_cut 76 = .ok (.getfield 7, 3) := by decide +kernel
theorem dX1_cut_79 : decode cX1_cut 79 = .ok (.iload 8, 2) := by decide +kernel
theorem dX1_cut_81 : decode cX1_cut 81 = .ok (.laload, 1) := by decide +kernel
theorem dX1_cut_82 : decode cX1_cut 82 = .ok (.lastore, 1) := by decide +kernel
theorem dX1_cut_83 : decode cX1_cut 83 = .ok (.iinc 7 1, 3) := by decide +kernel
theorem dX1_cut_86 : decode cX1_cut 86 = .ok (.iinc 8 1, 3) := by decide +kernel
theorem dX1_cut_89 : decode cX1_cut 89 = .ok (.goto (-49), 3) := by decide +kernel
theorem dX1_cut_92 : decode cX1_cut 92 = .ok (.aload_n 0, 1) := by decide +kernel
theorem dX1_cut_93 : decode cX1_cut 93 = .ok (.getfield 40, 3) := by decide +kernel
theorem dX1_cut_96 : decode cX1_cut 96 = .ok (.iload 7, 2) := by decide +kernel
theorem dX1_cut_98 : decode cX1_cut 98 = .ok (.isub, 1) := by decide +kernel
theorem dX1_cut_99 : decode cX1_cut 99 = .ok (.istore 8, 2) := by decide +kernel
theorem dX1_cut_101 : decode cX1_cut 101 = .ok (.aload_n 0, 1) := by decide +kernel
theorem dX1_cut_102 : decode cX1_cut 102 = .ok (.iload 7, 2) := by decide +kernel
theorem dX1_cut_104 : decode cX1_cut 104 = .ok (.putfield 40, 3) := by decide +kernel
theorem dX1_cut_107 : decode cX1_cut 107 = .ok (.iload 8, 2) := by decide +kernel
theorem dX1_cut_109 : decode cX1_cut 109 = .ok (.ireturn, 1) := by decide +kernel
set_option maxRecDepth 20000 in
theorem gL_law_X1_has : GoodIn lw_tbl (wsV RL 33 RX1 yX1_has wsX1_has) := goodIn_p _ [260, 228, 231, 236, 239, 244, 248] (by decide +kernel) (by decide +kernel)
set_option maxRecDepth 20000 in
theorem gL_law_X1_count : GoodIn lw_tbl (wsV RL 38 RX1 yX1_count wsX1_count) := goodIn_p _ [264, 228, 231, 267, 239, 270] (by decide +kernel) (by decide +kernel)
set_option maxRecDepth 20000 in
theorem gL_law_X1_different : GoodIn lw_tbl (wsV RL 42 RX1 yX1_different wsX1_different) := goodIn_p _ [276, 228, 231, 267, 239, 270] (by decide +kernel) (by decide +kernel)
set_option maxRecDepth 20000 in
theorem gL_law_X1_rank : GoodIn lw_tbl (wsV RL 46 RX1 yX1_rank wsX1_rank) := goodIn_p _ [280, 228, 231, 239, 244] (by decide +kernel) (by decide +kernel)
set_option maxRecDepth 20000 in
theorem gL_law_X1_choose : GoodIn lw_tbl (wsV RL 51 RX1 yX1_choose wsX1_choose) := goodIn_p _ [284, 288] (by decide +kernel) (by decide +kernel)
set_option maxRecDepth 20000 in
theorem gL_law_X1_seek : GoodIn lw_tbl (wsV RL 56 RX1 yX1_seek wsX1_seek) := goodIn_p _ [292, 228, 231, 239, 244, 288] (by decide +kernel) (by decide +kernel)
set_option maxRecDepth 20000 in
theorem gL_law_X1_next : GoodIn lw_tbl (wsV RL 61 RX1 yX1_next wsX1_next) := goodIn_p _ [296, 244, 288] (by decide +kernel) (by decide +kernel)
set_option maxRecDepth 20000 in
theorem gL_law_X1_previous : GoodIn lw_tbl (wsV RL 65 RX1 yX1_previous wsX1_previous) := goodIn_p _ [300, 244, 288] (by decide +kernel) (by decide +kernel)
set_option maxRecDepth 20000 in
theorem gL_law_X1_told : GoodIn lw_tbl (wsV RL 70 RX1 yX1_told wsX1_told) := goodIn_p _ [304, 308, 312] (by decide +kernel) (by decide +kernel)
set_option maxRecDepth 20000 in
theorem gL_law_X1_stands : GoodIn lw_tbl (wsV RL 75 RX1 yX1_stands wsX1_stands) := goodIn_p _ [316, 244, 248] (by decide +kernel) (by decide +kernel)
set_option maxRecDepth 20000 in
theorem gL_law_X1_size : GoodIn lw_tbl (wsV RL 79 RX1 yX1_size wsX1_size) := goodIn_p _ [320] (by decide +kernel) (by decide +kernel)
set_option maxRecDepth 20000 in
theorem gL_law_X1_cut : GoodIn lw_tbl (wsV RL 83 RX1 yX1_cut wsX1_cut) := goodIn_p _ [324, 228, 231, 267, 239, 270] (by decide +kernel) (by decide +kernel)
