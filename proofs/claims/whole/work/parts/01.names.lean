-- ===== PART A: goes FIRST, ahead of the names: the tables' words, and 'selects' of the private methods out of them =====
/-- a private method of a class that the tables say can be made, by its rows of tables_1 -/
def lw_okq (q : MethodName × Nat) : Prop := (q.1.cls ≠ "java/lang/invoke/MethodHandle" ∧ q.1.cls ≠ "java/lang/invoke/VarHandle") ∧ Cond.instantiable q.1.cls q.2 ∈ tables_1 ∧ Cond.privateMethod q.1 ∈ tables_1 ∧ Cond.instanceMethod q.1 ∈ tables_1
theorem lw_p0 : lw_okq (⟨"PageIndex", "keyOfTriple", "(III)J"⟩, 6) := ⟨⟨by decide +kernel, by decide +kernel⟩, List.mem_of_getElem? (i := 7) (by decide +kernel), List.mem_of_getElem? (i := 52) (by decide +kernel), List.mem_of_getElem? (i := 53) (by decide +kernel)⟩
theorem lw_p1 : lw_okq (⟨"PageIndex", "keysBefore", "(J)I"⟩, 6) := ⟨⟨by decide +kernel, by decide +kernel⟩, List.mem_of_getElem? (i := 7) (by decide +kernel), List.mem_of_getElem? (i := 59) (by decide +kernel), List.mem_of_getElem? (i := 60) (by decide +kernel)⟩
theorem lw_p2 : lw_okq (⟨"PageIndex", "isKeyAt", "(IJ)Z"⟩, 6) := ⟨⟨by decide +kernel, by decide +kernel⟩, List.mem_of_getElem? (i := 7) (by decide +kernel), List.mem_of_getElem? (i := 63) (by decide +kernel), List.mem_of_getElem? (i := 64) (by decide +kernel)⟩
theorem lw_p3 : lw_okq (⟨"PageIndex", "putIn", "(IJ)V"⟩, 6) := ⟨⟨by decide +kernel, by decide +kernel⟩, List.mem_of_getElem? (i := 7) (by decide +kernel), List.mem_of_getElem? (i := 67) (by decide +kernel), List.mem_of_getElem? (i := 68) (by decide +kernel)⟩
theorem lw_p4 : lw_okq (⟨"PageIndex", "takeOut", "(II)V"⟩, 6) := ⟨⟨by decide +kernel, by decide +kernel⟩, List.mem_of_getElem? (i := 7) (by decide +kernel), List.mem_of_getElem? (i := 93) (by decide +kernel), List.mem_of_getElem? (i := 94) (by decide +kernel)⟩
theorem lw_p5 : lw_okq (⟨"PageIndex", "isHeld", "(J)Z"⟩, 6) := ⟨⟨by decide +kernel, by decide +kernel⟩, List.mem_of_getElem? (i := 7) (by decide +kernel), List.mem_of_getElem? (i := 101) (by decide +kernel), List.mem_of_getElem? (i := 102) (by decide +kernel)⟩
theorem lw_p6 : lw_okq (⟨"PageIndex", "endOf", "(IIII)I"⟩, 6) := ⟨⟨by decide +kernel, by decide +kernel⟩, List.mem_of_getElem? (i := 7) (by decide +kernel), List.mem_of_getElem? (i := 109) (by decide +kernel), List.mem_of_getElem? (i := 110) (by decide +kernel)⟩
theorem lw_p7 : lw_okq (⟨"PageIndex", "startOf", "(IIII)I"⟩, 6) := ⟨⟨by decide +kernel, by decide +kernel⟩, List.mem_of_getElem? (i := 7) (by decide +kernel), List.mem_of_getElem? (i := 125) (by decide +kernel), List.mem_of_getElem? (i := 126) (by decide +kernel)⟩
theorem lw_p8 : lw_okq (⟨"PageIndex", "beginnings", "(III)I"⟩, 6) := ⟨⟨by decide +kernel, by decide +kernel⟩, List.mem_of_getElem? (i := 7) (by decide +kernel), List.mem_of_getElem? (i := 133) (by decide +kernel), List.mem_of_getElem? (i := 134) (by decide +kernel)⟩
theorem lw_p9 : lw_okq (⟨"PageIndex", "standAt", "(I)Z"⟩, 6) := ⟨⟨by decide +kernel, by decide +kernel⟩, List.mem_of_getElem? (i := 7) (by decide +kernel), List.mem_of_getElem? (i := 145) (by decide +kernel), List.mem_of_getElem? (i := 146) (by decide +kernel)⟩
theorem lw_p10 : lw_okq (⟨"PageIndex", "cursorNumber", "(I)I"⟩, 6) := ⟨⟨by decide +kernel, by decide +kernel⟩, List.mem_of_getElem? (i := 7) (by decide +kernel), List.mem_of_getElem? (i := 165) (by decide +kernel), List.mem_of_getElem? (i := 166) (by decide +kernel)⟩
theorem lw_p11 : lw_okq (⟨"PageIndexModel", "key", "(III)J"⟩, 4) := ⟨⟨by decide +kernel, by decide +kernel⟩, List.mem_of_getElem? (i := 184) (by decide +kernel), List.mem_of_getElem? (i := 216) (by decide +kernel), List.mem_of_getElem? (i := 217) (by decide +kernel)⟩
theorem lw_p12 : lw_okq (⟨"PageIndexModel", "below", "(J)I"⟩, 4) := ⟨⟨by decide +kernel, by decide +kernel⟩, List.mem_of_getElem? (i := 184) (by decide +kernel), List.mem_of_getElem? (i := 224) (by decide +kernel), List.mem_of_getElem? (i := 225) (by decide +kernel)⟩
theorem lw_p13 : lw_okq (⟨"PageIndexModel", "isThere", "(IJ)Z"⟩, 4) := ⟨⟨by decide +kernel, by decide +kernel⟩, List.mem_of_getElem? (i := 184) (by decide +kernel), List.mem_of_getElem? (i := 228) (by decide +kernel), List.mem_of_getElem? (i := 229) (by decide +kernel)⟩
theorem lw_p14 : lw_okq (⟨"PageIndexModel", "take", "(I)V"⟩, 4) := ⟨⟨by decide +kernel, by decide +kernel⟩, List.mem_of_getElem? (i := 184) (by decide +kernel), List.mem_of_getElem? (i := 236) (by decide +kernel), List.mem_of_getElem? (i := 237) (by decide +kernel)⟩
theorem lw_p15 : lw_okq (⟨"PageIndexModel", "stand", "(I)Z"⟩, 4) := ⟨⟨by decide +kernel, by decide +kernel⟩, List.mem_of_getElem? (i := 184) (by decide +kernel), List.mem_of_getElem? (i := 268) (by decide +kernel), List.mem_of_getElem? (i := 269) (by decide +kernel)⟩
def lw_privs_1 : List (MethodName × Nat) := [(⟨"PageIndex", "keyOfTriple", "(III)J"⟩, 6), (⟨"PageIndex", "keysBefore", "(J)I"⟩, 6), (⟨"PageIndex", "isKeyAt", "(IJ)Z"⟩, 6), (⟨"PageIndex", "putIn", "(IJ)V"⟩, 6), (⟨"PageIndex", "takeOut", "(II)V"⟩, 6), (⟨"PageIndex", "isHeld", "(J)Z"⟩, 6), (⟨"PageIndex", "endOf", "(IIII)I"⟩, 6), (⟨"PageIndex", "startOf", "(IIII)I"⟩, 6), (⟨"PageIndex", "beginnings", "(III)I"⟩, 6), (⟨"PageIndex", "standAt", "(I)Z"⟩, 6), (⟨"PageIndex", "cursorNumber", "(I)I"⟩, 6), (⟨"PageIndexModel", "key", "(III)J"⟩, 4), (⟨"PageIndexModel", "below", "(J)I"⟩, 4), (⟨"PageIndexModel", "isThere", "(IJ)Z"⟩, 4), (⟨"PageIndexModel", "take", "(I)V"⟩, 4), (⟨"PageIndexModel", "stand", "(I)Z"⟩, 4)]
theorem lw_r1 : ∀ q ∈ lw_privs_1, lw_okq q := List.forall_mem_cons.mpr ⟨lw_p0, List.forall_mem_cons.mpr ⟨lw_p1, List.forall_mem_cons.mpr ⟨lw_p2, List.forall_mem_cons.mpr ⟨lw_p3, List.forall_mem_cons.mpr ⟨lw_p4, List.forall_mem_cons.mpr ⟨lw_p5, List.forall_mem_cons.mpr ⟨lw_p6, List.forall_mem_cons.mpr ⟨lw_p7, List.forall_mem_cons.mpr ⟨lw_p8, List.forall_mem_cons.mpr ⟨lw_p9, List.forall_mem_cons.mpr ⟨lw_p10, List.forall_mem_cons.mpr ⟨lw_p11, List.forall_mem_cons.mpr ⟨lw_p12, List.forall_mem_cons.mpr ⟨lw_p13, List.forall_mem_cons.mpr ⟨lw_p14, List.forall_mem_cons.mpr ⟨lw_p15, fun _ h => absurd h List.not_mem_nil⟩⟩⟩⟩⟩⟩⟩⟩⟩⟩⟩⟩⟩⟩⟩⟩
theorem lw_p16 : lw_okq (⟨"PageIndexModel", "number", "(I)I"⟩, 4) := ⟨⟨by decide +kernel, by decide +kernel⟩, List.mem_of_getElem? (i := 184) (by decide +kernel), List.mem_of_getElem? (i := 288) (by decide +kernel), List.mem_of_getElem? (i := 289) (by decide +kernel)⟩
theorem lw_p17 : lw_okq (⟨"PageIndexModel", "placeOf", "(I)I"⟩, 4) := ⟨⟨by decide +kernel, by decide +kernel⟩, List.mem_of_getElem? (i := 184) (by decide +kernel), List.mem_of_getElem? (i := 292) (by decide +kernel), List.mem_of_getElem? (i := 293) (by decide +kernel)⟩
def lw_privs_2 : List (MethodName × Nat) := [(⟨"PageIndexModel", "number", "(I)I"⟩, 4), (⟨"PageIndexModel", "placeOf", "(I)I"⟩, 4)]
theorem lw_r2 : ∀ q ∈ lw_privs_2, lw_okq q := List.forall_mem_cons.mpr ⟨lw_p16, List.forall_mem_cons.mpr ⟨lw_p17, fun _ h => absurd h List.not_mem_nil⟩⟩
def lw_privs : List (MethodName × Nat) := lw_privs_1 ++ (lw_privs_2)
def lw_tbl : List Cond := k2_sels lw_privs ++ tables_1
theorem lw_privs_ok : ∀ q ∈ lw_privs, lw_okq q := by
  show ∀ q ∈ lw_privs_1 ++ (lw_privs_2), lw_okq q
  exact List.forall_mem_append.mpr ⟨lw_r1, lw_r2⟩
/-! ===== BEGIN words of one list among another's, by their places ===== -/
theorem goodIn_r {big : List Cond} (ws : List Cond) (ps : List Nat) (hp : ws = ps.filterMap (fun i => big[i]?)) (h : ws.all goodWord = true) : GoodIn big ws := by
  intro w hw
  have h1 := List.all_eq_true.mp h w hw
  rw [hp] at hw
  obtain ⟨i, -, hi⟩ := List.mem_filterMap.mp hw
  have hm : w ∈ big := by first | exact List.mem_of_getElem? hi | exact List.getElem?_mem hi
  exact ⟨hm, good_of_word h1⟩
theorem goodIn_app {big a b : List Cond} (ha : GoodIn big a) (hb : GoodIn big b) : GoodIn big (a ++ b) := fun w h => (List.mem_append.mp h).elim (ha w) (hb w)
theorem goodIn_ca {big a b : List Cond} {c : Cond} (ha : GoodIn big (c :: a)) (hb : GoodIn big b) : GoodIn big (c :: (a ++ b)) := fun w h => (List.mem_cons.mp h).elim (fun e => ha w (List.mem_cons.mpr (Or.inl e))) (fun h => (List.mem_append.mp h).elim (fun h => ha w (List.mem_cons.mpr (Or.inr h))) (hb w))
theorem goodIn_sub {big ws : List Cond} (hm : ∀ w ∈ ws, w ∈ big) (h : ws.all goodWord = true) : GoodIn big ws := fun w hw => ⟨hm w hw, good_of_word (List.all_eq_true.mp h w hw)⟩
/-! ===== END ===== -/

/-! ===== BEGIN printed: names, fields, word lists, decode rows ===== -/
def RX0 : String := "PageIndex"
def TX0 : u_T := fun k => match k with
  | 0 => ("PageIndex", "placeOfX", "I", true)
  | 1 => ("PageIndex", "placeOfY", "I", true)
  | 2 => ("PageIndex", "placeOfZ", "I", true)
  | 3 => ("PageIndex", "keys", "[J", false)
  | 4 => ("PageIndex", "held", "I", false)
  | _ => ("PageIndex", "cursor", "J", false)
def tyX0 : Nat → FieldType := fun k => match k with
  | 0 => .int
  | 1 => .int
  | 2 => .int
  | 3 => .array .long
  | 4 => .int
  | _ => .long
abbrev wsX00 : List Cond := u_ws RX0 TX0 6
theorem nmX0 : ∀ a, a < 6 → ∀ b, b < 6 → a ≠ b → (TX0 a).2.1 ≠ (TX0 b).2.1 := by decide +kernel
theorem tyX0_ok : ∀ k, k < 6 → parseFieldDescriptor (TX0 k).2.2.1 = some (tyX0 k) := by decide +kernel
abbrev cX0_init : ByteArray := prog_1_method_1_code
def yX0_init : MethodName := ⟨RX0, "<init>", "(I)V"⟩
abbrev cX0_insert : ByteArray := prog_1_method_2_code
def yX0_insert : MethodName := ⟨RX0, "insert", "(III)I"⟩
abbrev cX0_remove : ByteArray := prog_1_method_3_code
def yX0_remove : MethodName := ⟨RX0, "remove", "(III)I"⟩
abbrev cX0_has : ByteArray := prog_1_method_4_code
def yX0_has : MethodName := ⟨RX0, "has", "(III)I"⟩
abbrev cX0_count : ByteArray := prog_1_method_5_code
def yX0_count : MethodName := ⟨RX0, "count", "(IIII)I"⟩
abbrev cX0_different : ByteArray := prog_1_method_6_code
def yX0_different : MethodName := ⟨RX0, "different", "(III)I"⟩
abbrev cX0_rank : ByteArray := prog_1_method_7_code
def yX0_rank : MethodName := ⟨RX0, "rank", "(III)I"⟩
abbrev cX0_choose : ByteArray := prog_1_method_8_code
def yX0_choose : MethodName := ⟨RX0, "choose", "(I)Z"⟩
abbrev cX0_seek : ByteArray := prog_1_method_9_code
def yX0_seek : MethodName := ⟨RX0, "seek", "(III)Z"⟩
abbrev cX0_next : ByteArray := prog_1_method_10_code
def yX0_next : MethodName := ⟨RX0, "next", "()Z"⟩
abbrev cX0_previous : ByteArray := prog_1_method_11_code
def yX0_previous : MethodName := ⟨RX0, "previous", "()Z"⟩
abbrev cX0_told : ByteArray := prog_1_method_12_code
def yX0_told : MethodName := ⟨RX0, "told", "(I)I"⟩
abbrev cX0_stands : ByteArray := prog_1_method_13_code
def yX0_stands : MethodName := ⟨RX0, "stands", "()I"⟩
abbrev cX0_size : ByteArray := prog_1_method_14_code
def yX0_size : MethodName := ⟨RX0, "size", "()I"⟩
abbrev cX0_cut : ByteArray := prog_1_method_15_code
def yX0_cut : MethodName := ⟨RX0, "cut", "(IIII)I"⟩
abbrev cX0_isNumber : ByteArray := prog_1_method_16_code
def yX0_isNumber : MethodName := ⟨RX0, "isNumber", "(I)Z"⟩
abbrev cX0_areNumbers : ByteArray := prog_1_method_17_code
def yX0_areNumbers : MethodName := ⟨RX0, "areNumbers", "(III)Z"⟩
abbrev cX0_areFirstNumbers : ByteArray := prog_1_method_18_code
def yX0_areFirstNumbers : MethodName := ⟨RX0, "areFirstNumbers", "(IIII)Z"⟩
abbrev cX0_shiftOf : ByteArray := prog_1_method_19_code
def yX0_shiftOf : MethodName := ⟨RX0, "shiftOf", "(I)I"⟩
abbrev cX0_keyOf : ByteArray := prog_1_method_20_code
def yX0_keyOf : MethodName := ⟨RX0, "keyOf", "(III)J"⟩
abbrev cX0_keyOfTriple : ByteArray := prog_1_method_21_code
def yX0_keyOfTriple : MethodName := ⟨RX0, "keyOfTriple", "(III)J"⟩
abbrev cX0_firstKey : ByteArray := prog_1_method_22_code
def yX0_firstKey : MethodName := ⟨RX0, "firstKey", "(IIII)J"⟩
abbrev cX0_keysInAll : ByteArray := prog_1_method_23_code
def yX0_keysInAll : MethodName := ⟨RX0, "keysInAll", "(I)J"⟩
abbrev cX0_startOf : ByteArray := prog_1_method_24_code
def yX0_startOf : MethodName := ⟨RX0, "startOf", "(IIII)I"⟩
abbrev cX0_endOf : ByteArray := prog_1_method_25_code
def yX0_endOf : MethodName := ⟨RX0, "endOf", "(IIII)I"⟩
abbrev cX0_keysBefore : ByteArray := prog_1_method_26_code
def yX0_keysBefore : MethodName := ⟨RX0, "keysBefore", "(J)I"⟩
abbrev cX0_isKeyAt : ByteArray := prog_1_method_27_code
def yX0_isKeyAt : MethodName := ⟨RX0, "isKeyAt", "(IJ)Z"⟩
abbrev cX0_isHeld : ByteArray := prog_1_method_28_code
def yX0_isHeld : MethodName := ⟨RX0, "isHeld", "(J)Z"⟩
abbrev cX0_beginnings : ByteArray := prog_1_method_29_code
def yX0_beginnings : MethodName := ⟨RX0, "beginnings", "(III)I"⟩
abbrev cX0_putIn : ByteArray := prog_1_method_30_code
def yX0_putIn : MethodName := ⟨RX0, "putIn", "(IJ)V"⟩
abbrev cX0_takeOut : ByteArray := prog_1_method_31_code
def yX0_takeOut : MethodName := ⟨RX0, "takeOut", "(II)V"⟩
abbrev cX0_standAt : ByteArray := prog_1_method_32_code
def yX0_standAt : MethodName := ⟨RX0, "standAt", "(I)Z"⟩
abbrev cX0_cursorNumber : ByteArray := prog_1_method_33_code
def yX0_cursorNumber : MethodName := ⟨RX0, "cursorNumber", "(I)I"⟩
def RX1 : String := "PageIndexModel"
def TX1 : u_T := fun k => match k with
  | 0 => ("PageIndexModel", "keys", "[J", true)
  | 1 => ("PageIndexModel", "size", "I", false)
  | 2 => ("PageIndexModel", "order", "I", true)
  | _ => ("PageIndexModel", "cursor", "J", false)
def tyX1 : Nat → FieldType := fun k => match k with
  | 0 => .array .long
  | 1 => .int
  | 2 => .int
  | _ => .long
abbrev wsX10 : List Cond := u_ws RX1 TX1 4
theorem nmX1 : ∀ a, a < 4 → ∀ b, b < 4 → a ≠ b → (TX1 a).2.1 ≠ (TX1 b).2.1 := by decide +kernel
theorem tyX1_ok : ∀ k, k < 4 → parseFieldDescriptor (TX1 k).2.2.1 = some (tyX1 k) := by decide +kernel
abbrev cX1_init : ByteArray := prog_3_method_1_code
def yX1_init : MethodName := ⟨RX1, "<init>", "(I)V"⟩
abbrev cX1_isNumber : ByteArray := prog_3_method_2_code
def yX1_isNumber : MethodName := ⟨RX1, "isNumber", "(I)Z"⟩
abbrev cX1_areNumbers : ByteArray := prog_3_method_3_code
def yX1_areNumbers : MethodName := ⟨RX1, "areNumbers", "(IIII)Z"⟩
abbrev cX1_packed : ByteArray := prog_3_method_4_code
def yX1_packed : MethodName := ⟨RX1, "packed", "(JJJ)J"⟩
abbrev cX1_key : ByteArray := prog_3_method_5_code
def yX1_key : MethodName := ⟨RX1, "key", "(III)J"⟩
abbrev cX1_below : ByteArray := prog_3_method_6_code
def yX1_below : MethodName := ⟨RX1, "below", "(J)I"⟩
abbrev cX1_isThere : ByteArray := prog_3_method_7_code
def yX1_isThere : MethodName := ⟨RX1, "isThere", "(IJ)Z"⟩
abbrev cX1_insert : ByteArray := prog_3_method_8_code
def yX1_insert : MethodName := ⟨RX1, "insert", "(III)I"⟩
abbrev cX1_take : ByteArray := prog_3_method_9_code
def yX1_take : MethodName := ⟨RX1, "take", "(I)V"⟩
abbrev cX1_remove : ByteArray := prog_3_method_10_code
def yX1_remove : MethodName := ⟨RX1, "remove", "(III)I"⟩
def RJx8e188 : String := "java/lang/Cloneable"
def TJx8e188 : u_T := fun k => match k with
  | _ => ("", "", "", false)
def tyJx8e188 : Nat → FieldType := fun k => match k with
  | _ => .int
abbrev wsJx8e1880 : List Cond := u_ws RJx8e188 TJx8e188 0
theorem nmJx8e188 : ∀ a, a < 0 → ∀ b, b < 0 → a ≠ b → (TJx8e188 a).2.1 ≠ (TJx8e188 b).2.1 := by decide +kernel
theorem tyJx8e188_ok : ∀ k, k < 0 → parseFieldDescriptor (TJx8e188 k).2.2.1 = some (tyJx8e188 k) := by decide +kernel
def RJ9 : String := "java/lang/Math"
def TJ9 : u_T := fun k => match k with
  | _ => ("", "", "", false)
def tyJ9 : Nat → FieldType := fun k => match k with
  | _ => .int
abbrev wsJ90 : List Cond := u_ws RJ9 TJ9 0
theorem nmJ9 : ∀ a, a < 0 → ∀ b, b < 0 → a ≠ b → (TJ9 a).2.1 ≠ (TJ9 b).2.1 := by decide +kernel
theorem tyJ9_ok : ∀ k, k < 0 → parseFieldDescriptor (TJ9 k).2.2.1 = some (tyJ9 k) := by decide +kernel
abbrev cJ9_floorMod_7cf53 : ByteArray := prog_5_method_50_code
def yJ9_floorMod_7cf53 : MethodName := ⟨RJ9, "floorMod", "(II)I"⟩
abbrev cJ9_min_7cf53 : ByteArray := prog_5_method_69_code
def yJ9_min_7cf53 : MethodName := ⟨RJ9, "min", "(II)I"⟩
def RJ10 : String := "java/lang/System"
def TJ10 : u_T := fun k => match k with
  | _ => ("", "", "", false)
def tyJ10 : Nat → FieldType := fun k => match k with
  | _ => .int
abbrev wsJ100 : List Cond := u_ws RJ10 TJ10 0
theorem nmJ10 : ∀ a, a < 0 → ∀ b, b < 0 → a ≠ b → (TJ10 a).2.1 ≠ (TJ10 b).2.1 := by decide +kernel
theorem tyJ10_ok : ∀ k, k < 0 → parseFieldDescriptor (TJ10 k).2.2.1 = some (tyJ10 k) := by decide +kernel
def RJ7 : String := "java/util/Arrays"
def TJ7 : u_T := fun k => match k with
  | _ => ("", "", "", false)
def tyJ7 : Nat → FieldType := fun k => match k with
  | _ => .int
abbrev wsJ70 : List Cond := u_ws RJ7 TJ7 0
theorem nmJ7 : ∀ a, a < 0 → ∀ b, b < 0 → a ≠ b → (TJ7 a).2.1 ≠ (TJ7 b).2.1 := by decide +kernel
theorem tyJ7_ok : ∀ k, k < 0 → parseFieldDescriptor (TJ7 k).2.2.1 = some (tyJ7 k) := by decide +kernel
abbrev cJ7_copyOf_c38d5 : ByteArray := prog_7_method_124_code
def yJ7_copyOf_c38d5 : MethodName := ⟨RJ7, "copyOf", "([JI)[J"⟩
def RL : String := "PageIndexLaw"
abbrev cL_cell : ByteArray := method_2_code
def yL_cell : MethodName := ⟨RL, "cell", "([II)I"⟩
abbrev cL_law : ByteArray := code
def yL_law : MethodName := ⟨RL, "law", "([I)Z"⟩
def wsJ9_floorMod_7cf53 : List Cond := .code yJ9_floorMod_7cf53 cJ9_floorMod_7cf53 3 (some .int) :: ([])
def wsX0_init : List Cond := .code yX0_init cX0_init 3 none :: ([.methodLink RX0 3 objectInit, .instanceMethod objectInit, .code objectInit ⟨#[0xb1]⟩ 1 none, .fieldLink RX0 15 "PageIndex" "PLACES" "[I", .fieldLink RX0 19 "PageIndex" "placeOfX" "I", .fieldLink RX0 23 "PageIndex" "placeOfY" "I", .fieldLink RX0 26 "PageIndex" "placeOfZ" "I", .arrayClass .long, .fieldLink RX0 29 "PageIndex" "keys" "[J", .fieldLink RX0 33 "PageIndex" "held" "I", .constantLong RX0 36 (-1), .fieldLink RX0 38 "PageIndex" "cursor" "J", .methodLink RX0 9 yJ9_floorMod_7cf53, .static yJ9_floorMod_7cf53, .initialized RJ9, .code yJ9_floorMod_7cf53 cJ9_floorMod_7cf53 3 (some .int)] ++ wsX00)
def wsX0_isNumber : List Cond := .code yX0_isNumber cX0_isNumber 1 (some .boolean) :: ([.constant RX0 95 (1048575)])
def wsX0_areNumbers : List Cond := .code yX0_areNumbers cX0_areNumbers 3 (some .boolean) :: ([.methodLink RX0 96 yX0_isNumber, .static yX0_isNumber, .initialized RX0, .code yX0_isNumber cX0_isNumber 1 (some .boolean), .constant RX0 95 (1048575)])
def wsX0_shiftOf : List Cond := .code yX0_shiftOf cX0_shiftOf 1 (some .int) :: ([])
def wsX0_keyOfTriple : List Cond := .code yX0_keyOfTriple cX0_keyOfTriple 4 (some .long) :: ([.fieldLink RX0 19 "PageIndex" "placeOfX" "I", .fieldLink RX0 23 "PageIndex" "placeOfY" "I", .fieldLink RX0 26 "PageIndex" "placeOfZ" "I", .methodLink RX0 77 yX0_shiftOf, .static yX0_shiftOf, .initialized RX0, .code yX0_shiftOf cX0_shiftOf 1 (some .int)] ++ wsX00)
def wsX0_keysBefore : List Cond := .code yX0_keysBefore cX0_keysBefore 6 (some .int) :: ([.fieldLink RX0 33 "PageIndex" "held" "I", .fieldLink RX0 29 "PageIndex" "keys" "[J"] ++ wsX00)
def wsX0_isKeyAt : List Cond := .code yX0_isKeyAt cX0_isKeyAt 4 (some .boolean) :: ([.fieldLink RX0 33 "PageIndex" "held" "I", .fieldLink RX0 29 "PageIndex" "keys" "[J"] ++ wsX00)
def wsJ7_copyOf_c38d5 : List Cond := .code yJ7_copyOf_c38d5 cJ7_copyOf_c38d5 3 (some (.array .long)) :: ([.methodLink RJ7 319 ⟨"[J", "clone", "()Ljava/lang/Object;"⟩, .sameMethod "[J" "java/lang/Object" "clone" "()Ljava/lang/Object;", .native ⟨"java/lang/Object", "clone", "()Ljava/lang/Object;"⟩, .instanceMethod ⟨"java/lang/Object", "clone", "()Ljava/lang/Object;"⟩, .selects "[J" ⟨"[J", "clone", "()Ljava/lang/Object;"⟩ ⟨"java/lang/Object", "clone", "()Ljava/lang/Object;"⟩, .classLink RJ7 320 "[J", .arrayClass .long, .methodLink RJ7 304 Lib.Math.min.name, .static Lib.Math.min.name, .initialized "java/lang/Math", .code Lib.Math.min.name Lib.Math.min.code 2 (some .int), .methodLink RJ7 150 arraycopyName, .native arraycopyName, .static arraycopyName, .initialized "java/lang/System"])
def wsX0_putIn : List Cond := .code yX0_putIn cX0_putIn 4 none :: ([.fieldLink RX0 33 "PageIndex" "held" "I", .fieldLink RX0 29 "PageIndex" "keys" "[J", .methodLink RX0 111 Lib.Math.min.name, .static Lib.Math.min.name, .initialized "java/lang/Math", .code Lib.Math.min.name Lib.Math.min.code 2 (some .int), .methodLink RX0 120 arraycopyName, .native arraycopyName, .static arraycopyName, .initialized "java/lang/System", .methodLink RX0 114 yJ7_copyOf_c38d5, .static yJ7_copyOf_c38d5, .initialized RJ7, .code yJ7_copyOf_c38d5 cJ7_copyOf_c38d5 3 (some (.array .long)), .methodLink RJ7 319 ⟨"[J", "clone", "()Ljava/lang/Object;"⟩, .sameMethod "[J" "java/lang/Object" "clone" "()Ljava/lang/Object;", .native ⟨"java/lang/Object", "clone", "()Ljava/lang/Object;"⟩, .instanceMethod ⟨"java/lang/Object", "clone", "()Ljava/lang/Object;"⟩, .selects "[J" ⟨"[J", "clone", "()Ljava/lang/Object;"⟩ ⟨"java/lang/Object", "clone", "()Ljava/lang/Object;"⟩, .classLink RJ7 320 "[J", .arrayClass .long, .methodLink RJ7 304 Lib.Math.min.name, .methodLink RJ7 150 arraycopyName] ++ wsX00)
def wsX0_insert_r1 : List Cond := [Cond.fieldLink RX0 33 "PageIndex" "held" "I", Cond.methodLink RX0 42 yX0_areNumbers, Cond.static yX0_areNumbers, Cond.initialized RX0, Cond.code yX0_areNumbers cX0_areNumbers 3 (some .boolean), Cond.methodLink RX0 96 yX0_isNumber, Cond.static yX0_isNumber, Cond.code yX0_isNumber cX0_isNumber 1 (some .boolean), Cond.constant RX0 95 (1048575), Cond.methodLink RX0 46 yX0_keyOfTriple, Cond.instanceMethod yX0_keyOfTriple, Cond.selects RX0 yX0_keyOfTriple yX0_keyOfTriple, Cond.code yX0_keyOfTriple cX0_keyOfTriple 4 (some .long), Cond.fieldLink RX0 19 "PageIndex" "placeOfX" "I", Cond.fieldLink RX0 23 "PageIndex" "placeOfY" "I", Cond.fieldLink RX0 26 "PageIndex" "placeOfZ" "I", Cond.methodLink RX0 77 yX0_shiftOf, Cond.static yX0_shiftOf, Cond.code yX0_shiftOf cX0_shiftOf 1 (some .int), Cond.methodLink RX0 50 yX0_keysBefore, Cond.instanceMethod yX0_keysBefore, Cond.selects RX0 yX0_keysBefore yX0_keysBefore, Cond.code yX0_keysBefore cX0_keysBefore 6 (some .int), Cond.fieldLink RX0 29 "PageIndex" "keys" "[J"]
def wsX0_insert_r2 : List Cond := [Cond.methodLink RX0 54 yX0_isKeyAt, Cond.instanceMethod yX0_isKeyAt, Cond.selects RX0 yX0_isKeyAt yX0_isKeyAt, Cond.code yX0_isKeyAt cX0_isKeyAt 4 (some .boolean), Cond.methodLink RX0 58 yX0_putIn, Cond.instanceMethod yX0_putIn, Cond.selects RX0 yX0_putIn yX0_putIn, Cond.code yX0_putIn cX0_putIn 4 none, Cond.methodLink RX0 111 Lib.Math.min.name, Cond.static Lib.Math.min.name, Cond.initialized "java/lang/Math", Cond.code Lib.Math.min.name Lib.Math.min.code 2 (some .int), Cond.methodLink RX0 120 arraycopyName, Cond.native arraycopyName, Cond.static arraycopyName, Cond.initialized "java/lang/System", Cond.methodLink RX0 114 yJ7_copyOf_c38d5, Cond.static yJ7_copyOf_c38d5, Cond.initialized RJ7, Cond.code yJ7_copyOf_c38d5 cJ7_copyOf_c38d5 3 (some (.array .long)), Cond.methodLink RJ7 319 ⟨"[J", "clone", "()Ljava/lang/Object;"⟩, Cond.sameMethod "[J" "java/lang/Object" "clone" "()Ljava/lang/Object;", Cond.native ⟨"java/lang/Object", "clone", "()Ljava/lang/Object;"⟩, Cond.instanceMethod ⟨"java/lang/Object", "clone", "()Ljava/lang/Object;"⟩]
def wsX0_insert_r3 : List Cond := [Cond.selects "[J" ⟨"[J", "clone", "()Ljava/lang/Object;"⟩ ⟨"java/lang/Object", "clone", "()Ljava/lang/Object;"⟩, Cond.classLink RJ7 320 "[J", Cond.arrayClass .long, Cond.methodLink RJ7 304 Lib.Math.min.name, Cond.methodLink RJ7 150 arraycopyName]
def wsX0_insert : List Cond := .code yX0_insert cX0_insert 7 (some .int) :: ((wsX0_insert_r1 ++ (wsX0_insert_r2 ++ wsX0_insert_r3)) ++ wsX00)
def wsX0_takeOut : List Cond := .code yX0_takeOut cX0_takeOut 3 none :: ([.fieldLink RX0 29 "PageIndex" "keys" "[J", .fieldLink RX0 33 "PageIndex" "held" "I", .methodLink RX0 120 arraycopyName, .native arraycopyName, .static arraycopyName, .initialized "java/lang/System"] ++ wsX00)
def wsX0_remove_r1 : List Cond := [Cond.methodLink RX0 42 yX0_areNumbers, Cond.static yX0_areNumbers, Cond.initialized RX0, Cond.code yX0_areNumbers cX0_areNumbers 3 (some .boolean), Cond.methodLink RX0 96 yX0_isNumber, Cond.static yX0_isNumber, Cond.code yX0_isNumber cX0_isNumber 1 (some .boolean), Cond.constant RX0 95 (1048575), Cond.methodLink RX0 46 yX0_keyOfTriple, Cond.instanceMethod yX0_keyOfTriple, Cond.selects RX0 yX0_keyOfTriple yX0_keyOfTriple, Cond.code yX0_keyOfTriple cX0_keyOfTriple 4 (some .long), Cond.fieldLink RX0 19 "PageIndex" "placeOfX" "I", Cond.fieldLink RX0 23 "PageIndex" "placeOfY" "I", Cond.fieldLink RX0 26 "PageIndex" "placeOfZ" "I", Cond.methodLink RX0 77 yX0_shiftOf, Cond.static yX0_shiftOf, Cond.code yX0_shiftOf cX0_shiftOf 1 (some .int), Cond.methodLink RX0 50 yX0_keysBefore, Cond.instanceMethod yX0_keysBefore, Cond.selects RX0 yX0_keysBefore yX0_keysBefore, Cond.code yX0_keysBefore cX0_keysBefore 6 (some .int), Cond.fieldLink RX0 33 "PageIndex" "held" "I", Cond.fieldLink RX0 29 "PageIndex" "keys" "[J"]
def wsX0_remove_r2 : List Cond := [Cond.methodLink RX0 54 yX0_isKeyAt, Cond.instanceMethod yX0_isKeyAt, Cond.selects RX0 yX0_isKeyAt yX0_isKeyAt, Cond.code yX0_isKeyAt cX0_isKeyAt 4 (some .boolean), Cond.methodLink RX0 62 yX0_takeOut, Cond.instanceMethod yX0_takeOut, Cond.selects RX0 yX0_takeOut yX0_takeOut, Cond.code yX0_takeOut cX0_takeOut 3 none, Cond.methodLink RX0 120 arraycopyName, Cond.native arraycopyName, Cond.static arraycopyName, Cond.initialized "java/lang/System"]
def wsX0_remove : List Cond := .code yX0_remove cX0_remove 7 (some .int) :: ((wsX0_remove_r1 ++ wsX0_remove_r2) ++ wsX00)
def wsX0_isHeld : List Cond := .code yX0_isHeld cX0_isHeld 3 (some .boolean) :: ([.methodLink RX0 50 yX0_keysBefore, .instanceMethod yX0_keysBefore, .selects RX0 yX0_keysBefore yX0_keysBefore, .initialized RX0, .code yX0_keysBefore cX0_keysBefore 6 (some .int), .fieldLink RX0 33 "PageIndex" "held" "I", .fieldLink RX0 29 "PageIndex" "keys" "[J", .methodLink RX0 54 yX0_isKeyAt, .instanceMethod yX0_isKeyAt, .selects RX0 yX0_isKeyAt yX0_isKeyAt, .code yX0_isKeyAt cX0_isKeyAt 4 (some .boolean)] ++ wsX00)
def wsX0_has_r1 : List Cond := [Cond.methodLink RX0 42 yX0_areNumbers, Cond.static yX0_areNumbers, Cond.initialized RX0, Cond.code yX0_areNumbers cX0_areNumbers 3 (some .boolean), Cond.methodLink RX0 96 yX0_isNumber, Cond.static yX0_isNumber, Cond.code yX0_isNumber cX0_isNumber 1 (some .boolean), Cond.constant RX0 95 (1048575), Cond.methodLink RX0 46 yX0_keyOfTriple, Cond.instanceMethod yX0_keyOfTriple, Cond.selects RX0 yX0_keyOfTriple yX0_keyOfTriple, Cond.code yX0_keyOfTriple cX0_keyOfTriple 4 (some .long), Cond.fieldLink RX0 19 "PageIndex" "placeOfX" "I", Cond.fieldLink RX0 23 "PageIndex" "placeOfY" "I", Cond.fieldLink RX0 26 "PageIndex" "placeOfZ" "I", Cond.methodLink RX0 77 yX0_shiftOf, Cond.static yX0_shiftOf, Cond.code yX0_shiftOf cX0_shiftOf 1 (some .int), Cond.methodLink RX0 66 yX0_isHeld, Cond.instanceMethod yX0_isHeld, Cond.selects RX0 yX0_isHeld yX0_isHeld, Cond.code yX0_isHeld cX0_isHeld 3 (some .boolean), Cond.methodLink RX0 50 yX0_keysBefore, Cond.instanceMethod yX0_keysBefore]
def wsX0_has_r2 : List Cond := [Cond.selects RX0 yX0_keysBefore yX0_keysBefore, Cond.code yX0_keysBefore cX0_keysBefore 6 (some .int), Cond.fieldLink RX0 33 "PageIndex" "held" "I", Cond.fieldLink RX0 29 "PageIndex" "keys" "[J", Cond.methodLink RX0 54 yX0_isKeyAt, Cond.instanceMethod yX0_isKeyAt, Cond.selects RX0 yX0_isKeyAt yX0_isKeyAt, Cond.code yX0_isKeyAt cX0_isKeyAt 4 (some .boolean)]
def wsX0_has : List Cond := .code yX0_has cX0_has 4 (some .int) :: ((wsX0_has_r1 ++ wsX0_has_r2) ++ wsX00)
def wsX0_areFirstNumbers : List Cond := .code yX0_areFirstNumbers cX0_areFirstNumbers 4 (some .boolean) :: ([.methodLink RX0 96 yX0_isNumber, .static yX0_isNumber, .initialized RX0, .code yX0_isNumber cX0_isNumber 1 (some .boolean), .constant RX0 95 (1048575)])
def wsX0_keyOf : List Cond := .code yX0_keyOf cX0_keyOf 3 (some .long) :: ([.methodLink RX0 77 yX0_shiftOf, .static yX0_shiftOf, .initialized RX0, .code yX0_shiftOf cX0_shiftOf 1 (some .int)])
def wsX0_firstKey : List Cond := .code yX0_firstKey cX0_firstKey 4 (some .long) :: ([.methodLink RX0 85 yX0_keyOf, .static yX0_keyOf, .initialized RX0, .code yX0_keyOf cX0_keyOf 3 (some .long), .methodLink RX0 77 yX0_shiftOf, .static yX0_shiftOf, .code yX0_shiftOf cX0_shiftOf 1 (some .int)])
def wsX0_keysInAll : List Cond := .code yX0_keysInAll cX0_keysInAll 1 (some .long) :: ([])
def wsX0_endOf_r1 : List Cond := [Cond.methodLink RX0 99 yX0_areFirstNumbers, Cond.static yX0_areFirstNumbers, Cond.initialized RX0, Cond.code yX0_areFirstNumbers cX0_areFirstNumbers 4 (some .boolean), Cond.methodLink RX0 96 yX0_isNumber, Cond.static yX0_isNumber, Cond.code yX0_isNumber cX0_isNumber 1 (some .boolean), Cond.constant RX0 95 (1048575), Cond.methodLink RX0 103 yX0_firstKey, Cond.static yX0_firstKey, Cond.code yX0_firstKey cX0_firstKey 4 (some .long), Cond.methodLink RX0 85 yX0_keyOf, Cond.static yX0_keyOf, Cond.code yX0_keyOf cX0_keyOf 3 (some .long), Cond.methodLink RX0 77 yX0_shiftOf, Cond.static yX0_shiftOf, Cond.code yX0_shiftOf cX0_shiftOf 1 (some .int), Cond.methodLink RX0 107 yX0_keysInAll, Cond.static yX0_keysInAll, Cond.code yX0_keysInAll cX0_keysInAll 1 (some .long), Cond.methodLink RX0 50 yX0_keysBefore, Cond.instanceMethod yX0_keysBefore, Cond.selects RX0 yX0_keysBefore yX0_keysBefore, Cond.code yX0_keysBefore cX0_keysBefore 6 (some .int)]
def wsX0_endOf_r2 : List Cond := [Cond.fieldLink RX0 33 "PageIndex" "held" "I", Cond.fieldLink RX0 29 "PageIndex" "keys" "[J"]
def wsX0_endOf : List Cond := .code yX0_endOf cX0_endOf 5 (some .int) :: ((wsX0_endOf_r1 ++ wsX0_endOf_r2) ++ wsX00)
def wsX0_startOf : List Cond := .code yX0_startOf cX0_startOf 5 (some .int) :: ([.methodLink RX0 99 yX0_areFirstNumbers, .static yX0_areFirstNumbers, .initialized RX0, .code yX0_areFirstNumbers cX0_areFirstNumbers 4 (some .boolean), .methodLink RX0 96 yX0_isNumber, .static yX0_isNumber, .code yX0_isNumber cX0_isNumber 1 (some .boolean), .constant RX0 95 (1048575), .methodLink RX0 103 yX0_firstKey, .static yX0_firstKey, .code yX0_firstKey cX0_firstKey 4 (some .long), .methodLink RX0 85 yX0_keyOf, .static yX0_keyOf, .code yX0_keyOf cX0_keyOf 3 (some .long), .methodLink RX0 77 yX0_shiftOf, .static yX0_shiftOf, .code yX0_shiftOf cX0_shiftOf 1 (some .int), .methodLink RX0 50 yX0_keysBefore, .instanceMethod yX0_keysBefore, .selects RX0 yX0_keysBefore yX0_keysBefore, .code yX0_keysBefore cX0_keysBefore 6 (some .int), .fieldLink RX0 33 "PageIndex" "held" "I", .fieldLink RX0 29 "PageIndex" "keys" "[J"] ++ wsX00)
def wsX0_count_r1 : List Cond := [Cond.methodLink RX0 70 yX0_endOf, Cond.instanceMethod yX0_endOf, Cond.selects RX0 yX0_endOf yX0_endOf, Cond.initialized RX0, Cond.code yX0_endOf cX0_endOf 5 (some .int), Cond.methodLink RX0 99 yX0_areFirstNumbers, Cond.static yX0_areFirstNumbers, Cond.code yX0_areFirstNumbers cX0_areFirstNumbers 4 (some .boolean), Cond.methodLink RX0 96 yX0_isNumber, Cond.static yX0_isNumber, Cond.code yX0_isNumber cX0_isNumber 1 (some .boolean), Cond.constant RX0 95 (1048575), Cond.methodLink RX0 103 yX0_firstKey, Cond.static yX0_firstKey, Cond.code yX0_firstKey cX0_firstKey 4 (some .long), Cond.methodLink RX0 85 yX0_keyOf, Cond.static yX0_keyOf, Cond.code yX0_keyOf cX0_keyOf 3 (some .long), Cond.methodLink RX0 77 yX0_shiftOf, Cond.static yX0_shiftOf, Cond.code yX0_shiftOf cX0_shiftOf 1 (some .int), Cond.methodLink RX0 107 yX0_keysInAll, Cond.static yX0_keysInAll, Cond.code yX0_keysInAll cX0_keysInAll 1 (some .long)]
def wsX0_count_r2 : List Cond := [Cond.methodLink RX0 50 yX0_keysBefore, Cond.instanceMethod yX0_keysBefore, Cond.selects RX0 yX0_keysBefore yX0_keysBefore, Cond.code yX0_keysBefore cX0_keysBefore 6 (some .int), Cond.fieldLink RX0 33 "PageIndex" "held" "I", Cond.fieldLink RX0 29 "PageIndex" "keys" "[J", Cond.methodLink RX0 74 yX0_startOf, Cond.instanceMethod yX0_startOf, Cond.selects RX0 yX0_startOf yX0_startOf, Cond.code yX0_startOf cX0_startOf 5 (some .int)]
def wsX0_count : List Cond := .code yX0_count cX0_count 5 (some .int) :: ((wsX0_count_r1 ++ wsX0_count_r2) ++ wsX00)
def wsX0_beginnings : List Cond := .code yX0_beginnings cX0_beginnings 10 (some .int) :: ([.constantLong RX0 36 (-1), .fieldLink RX0 29 "PageIndex" "keys" "[J"] ++ wsX00)
def wsX0_different_r1 : List Cond := [Cond.methodLink RX0 74 yX0_startOf, Cond.instanceMethod yX0_startOf, Cond.selects RX0 yX0_startOf yX0_startOf, Cond.initialized RX0, Cond.code yX0_startOf cX0_startOf 5 (some .int), Cond.methodLink RX0 99 yX0_areFirstNumbers, Cond.static yX0_areFirstNumbers, Cond.code yX0_areFirstNumbers cX0_areFirstNumbers 4 (some .boolean), Cond.methodLink RX0 96 yX0_isNumber, Cond.static yX0_isNumber, Cond.code yX0_isNumber cX0_isNumber 1 (some .boolean), Cond.constant RX0 95 (1048575), Cond.methodLink RX0 103 yX0_firstKey, Cond.static yX0_firstKey, Cond.code yX0_firstKey cX0_firstKey 4 (some .long), Cond.methodLink RX0 85 yX0_keyOf, Cond.static yX0_keyOf, Cond.code yX0_keyOf cX0_keyOf 3 (some .long), Cond.methodLink RX0 77 yX0_shiftOf, Cond.static yX0_shiftOf, Cond.code yX0_shiftOf cX0_shiftOf 1 (some .int), Cond.methodLink RX0 50 yX0_keysBefore, Cond.instanceMethod yX0_keysBefore, Cond.selects RX0 yX0_keysBefore yX0_keysBefore]
def wsX0_different_r2 : List Cond := [Cond.code yX0_keysBefore cX0_keysBefore 6 (some .int), Cond.fieldLink RX0 33 "PageIndex" "held" "I", Cond.fieldLink RX0 29 "PageIndex" "keys" "[J", Cond.methodLink RX0 70 yX0_endOf, Cond.instanceMethod yX0_endOf, Cond.selects RX0 yX0_endOf yX0_endOf, Cond.code yX0_endOf cX0_endOf 5 (some .int), Cond.methodLink RX0 107 yX0_keysInAll, Cond.static yX0_keysInAll, Cond.code yX0_keysInAll cX0_keysInAll 1 (some .long), Cond.methodLink RX0 81 yX0_beginnings, Cond.instanceMethod yX0_beginnings, Cond.selects RX0 yX0_beginnings yX0_beginnings, Cond.code yX0_beginnings cX0_beginnings 10 (some .int), Cond.constantLong RX0 36 (-1)]
def wsX0_different : List Cond := .code yX0_different cX0_different 4 (some .int) :: ((wsX0_different_r1 ++ wsX0_different_r2) ++ wsX00)
def wsX0_rank : List Cond := .code yX0_rank cX0_rank 4 (some .int) :: ([.methodLink RX0 42 yX0_areNumbers, .static yX0_areNumbers, .initialized RX0, .code yX0_areNumbers cX0_areNumbers 3 (some .boolean), .methodLink RX0 96 yX0_isNumber, .static yX0_isNumber, .code yX0_isNumber cX0_isNumber 1 (some .boolean), .constant RX0 95 (1048575), .methodLink RX0 85 yX0_keyOf, .static yX0_keyOf, .code yX0_keyOf cX0_keyOf 3 (some .long), .methodLink RX0 77 yX0_shiftOf, .static yX0_shiftOf, .code yX0_shiftOf cX0_shiftOf 1 (some .int), .methodLink RX0 50 yX0_keysBefore, .instanceMethod yX0_keysBefore, .selects RX0 yX0_keysBefore yX0_keysBefore, .code yX0_keysBefore cX0_keysBefore 6 (some .int), .fieldLink RX0 33 "PageIndex" "held" "I", .fieldLink RX0 29 "PageIndex" "keys" "[J"] ++ wsX00)
def wsX0_standAt : List Cond := .code yX0_standAt cX0_standAt 3 (some .boolean) :: ([.fieldLink RX0 33 "PageIndex" "held" "I", .fieldLink RX0 29 "PageIndex" "keys" "[J", .constantLong RX0 36 (-1), .fieldLink RX0 38 "PageIndex" "cursor" "J"] ++ wsX00)
def wsX0_choose : List Cond := .code yX0_choose cX0_choose 2 (some .boolean) :: ([.methodLink RX0 88 yX0_standAt, .instanceMethod yX0_standAt, .selects RX0 yX0_standAt yX0_standAt, .initialized RX0, .code yX0_standAt cX0_standAt 3 (some .boolean), .fieldLink RX0 33 "PageIndex" "held" "I", .fieldLink RX0 29 "PageIndex" "keys" "[J", .constantLong RX0 36 (-1), .fieldLink RX0 38 "PageIndex" "cursor" "J"] ++ wsX00)
def wsX0_seek_r1 : List Cond := [Cond.methodLink RX0 42 yX0_areNumbers, Cond.static yX0_areNumbers, Cond.initialized RX0, Cond.code yX0_areNumbers cX0_areNumbers 3 (some .boolean), Cond.methodLink RX0 96 yX0_isNumber, Cond.static yX0_isNumber, Cond.code yX0_isNumber cX0_isNumber 1 (some .boolean), Cond.constant RX0 95 (1048575), Cond.methodLink RX0 85 yX0_keyOf, Cond.static yX0_keyOf, Cond.code yX0_keyOf cX0_keyOf 3 (some .long), Cond.methodLink RX0 77 yX0_shiftOf, Cond.static yX0_shiftOf, Cond.code yX0_shiftOf cX0_shiftOf 1 (some .int), Cond.methodLink RX0 50 yX0_keysBefore, Cond.instanceMethod yX0_keysBefore, Cond.selects RX0 yX0_keysBefore yX0_keysBefore, Cond.code yX0_keysBefore cX0_keysBefore 6 (some .int), Cond.fieldLink RX0 33 "PageIndex" "held" "I", Cond.fieldLink RX0 29 "PageIndex" "keys" "[J", Cond.methodLink RX0 88 yX0_standAt, Cond.instanceMethod yX0_standAt, Cond.selects RX0 yX0_standAt yX0_standAt, Cond.code yX0_standAt cX0_standAt 3 (some .boolean)]
def wsX0_seek_r2 : List Cond := [Cond.constantLong RX0 36 (-1), Cond.fieldLink RX0 38 "PageIndex" "cursor" "J"]
def wsX0_seek : List Cond := .code yX0_seek cX0_seek 4 (some .boolean) :: ((wsX0_seek_r1 ++ wsX0_seek_r2) ++ wsX00)
def wsX0_next : List Cond := .code yX0_next cX0_next 1 (some .boolean) :: ([.fieldLink RX0 38 "PageIndex" "cursor" "J", .methodLink RX0 50 yX0_keysBefore, .instanceMethod yX0_keysBefore, .selects RX0 yX0_keysBefore yX0_keysBefore, .initialized RX0, .code yX0_keysBefore cX0_keysBefore 6 (some .int), .fieldLink RX0 33 "PageIndex" "held" "I", .fieldLink RX0 29 "PageIndex" "keys" "[J", .methodLink RX0 88 yX0_standAt, .instanceMethod yX0_standAt, .selects RX0 yX0_standAt yX0_standAt, .code yX0_standAt cX0_standAt 3 (some .boolean), .constantLong RX0 36 (-1)] ++ wsX00)
def wsX0_previous : List Cond := .code yX0_previous cX0_previous 2 (some .boolean) :: ([.fieldLink RX0 38 "PageIndex" "cursor" "J", .constantLong RX0 36 (-1), .fieldLink RX0 33 "PageIndex" "held" "I", .methodLink RX0 50 yX0_keysBefore, .instanceMethod yX0_keysBefore, .selects RX0 yX0_keysBefore yX0_keysBefore, .initialized RX0, .code yX0_keysBefore cX0_keysBefore 6 (some .int), .fieldLink RX0 29 "PageIndex" "keys" "[J", .methodLink RX0 88 yX0_standAt, .instanceMethod yX0_standAt, .selects RX0 yX0_standAt yX0_standAt, .code yX0_standAt cX0_standAt 3 (some .boolean)] ++ wsX00)
def wsX0_cursorNumber : List Cond := .code yX0_cursorNumber cX0_cursorNumber 2 (some .int) :: ([.fieldLink RX0 38 "PageIndex" "cursor" "J", .constant RX0 95 (1048575), .methodLink RX0 77 yX0_shiftOf, .static yX0_shiftOf, .initialized RX0, .code yX0_shiftOf cX0_shiftOf 1 (some .int)] ++ wsX00)
def wsX0_told : List Cond := .code yX0_told cX0_told 2 (some .int) :: ([.fieldLink RX0 38 "PageIndex" "cursor" "J", .constantLong RX0 36 (-1), .fieldLink RX0 19 "PageIndex" "placeOfX" "I", .fieldLink RX0 23 "PageIndex" "placeOfY" "I", .fieldLink RX0 26 "PageIndex" "placeOfZ" "I", .methodLink RX0 92 yX0_cursorNumber, .instanceMethod yX0_cursorNumber, .selects RX0 yX0_cursorNumber yX0_cursorNumber, .initialized RX0, .code yX0_cursorNumber cX0_cursorNumber 2 (some .int), .constant RX0 95 (1048575), .methodLink RX0 77 yX0_shiftOf, .static yX0_shiftOf, .code yX0_shiftOf cX0_shiftOf 1 (some .int)] ++ wsX00)
def wsX0_stands : List Cond := .code yX0_stands cX0_stands 1 (some .int) :: ([.fieldLink RX0 38 "PageIndex" "cursor" "J", .constantLong RX0 36 (-1), .methodLink RX0 66 yX0_isHeld, .instanceMethod yX0_isHeld, .selects RX0 yX0_isHeld yX0_isHeld, .initialized RX0, .code yX0_isHeld cX0_isHeld 3 (some .boolean), .methodLink RX0 50 yX0_keysBefore, .instanceMethod yX0_keysBefore, .selects RX0 yX0_keysBefore yX0_keysBefore, .code yX0_keysBefore cX0_keysBefore 6 (some .int), .fieldLink RX0 33 "PageIndex" "held" "I", .fieldLink RX0 29 "PageIndex" "keys" "[J", .methodLink RX0 54 yX0_isKeyAt, .instanceMethod yX0_isKeyAt, .selects RX0 yX0_isKeyAt yX0_isKeyAt, .code yX0_isKeyAt cX0_isKeyAt 4 (some .boolean)] ++ wsX00)
def wsX0_size : List Cond := .code yX0_size cX0_size 1 (some .int) :: ([.fieldLink RX0 33 "PageIndex" "held" "I"] ++ wsX00)
def wsX0_cut_r1 : List Cond := [Cond.methodLink RX0 74 yX0_startOf, Cond.instanceMethod yX0_startOf, Cond.selects RX0 yX0_startOf yX0_startOf, Cond.initialized RX0, Cond.code yX0_startOf cX0_startOf 5 (some .int), Cond.methodLink RX0 99 yX0_areFirstNumbers, Cond.static yX0_areFirstNumbers, Cond.code yX0_areFirstNumbers cX0_areFirstNumbers 4 (some .boolean), Cond.methodLink RX0 96 yX0_isNumber, Cond.static yX0_isNumber, Cond.code yX0_isNumber cX0_isNumber 1 (some .boolean), Cond.constant RX0 95 (1048575), Cond.methodLink RX0 103 yX0_firstKey, Cond.static yX0_firstKey, Cond.code yX0_firstKey cX0_firstKey 4 (some .long), Cond.methodLink RX0 85 yX0_keyOf, Cond.static yX0_keyOf, Cond.code yX0_keyOf cX0_keyOf 3 (some .long), Cond.methodLink RX0 77 yX0_shiftOf, Cond.static yX0_shiftOf, Cond.code yX0_shiftOf cX0_shiftOf 1 (some .int), Cond.methodLink RX0 50 yX0_keysBefore, Cond.instanceMethod yX0_keysBefore, Cond.selects RX0 yX0_keysBefore yX0_keysBefore]
def wsX0_cut_r2 : List Cond := [Cond.code yX0_keysBefore cX0_keysBefore 6 (some .int), Cond.fieldLink RX0 33 "PageIndex" "held" "I", Cond.fieldLink RX0 29 "PageIndex" "keys" "[J", Cond.methodLink RX0 70 yX0_endOf, Cond.instanceMethod yX0_endOf, Cond.selects RX0 yX0_endOf yX0_endOf, Cond.code yX0_endOf cX0_endOf 5 (some .int), Cond.methodLink RX0 107 yX0_keysInAll, Cond.static yX0_keysInAll, Cond.code yX0_keysInAll cX0_keysInAll 1 (some .long), Cond.methodLink RX0 62 yX0_takeOut, Cond.instanceMethod yX0_takeOut, Cond.selects RX0 yX0_takeOut yX0_takeOut, Cond.code yX0_takeOut cX0_takeOut 3 none, Cond.methodLink RX0 120 arraycopyName, Cond.native arraycopyName, Cond.static arraycopyName, Cond.initialized "java/lang/System"]
def wsX0_cut : List Cond := .code yX0_cut cX0_cut 7 (some .int) :: ((wsX0_cut_r1 ++ wsX0_cut_r2) ++ wsX00)
def wsX1_init : List Cond := .code yX1_init cX1_init 2 none :: ([.methodLink RX1 1 objectInit, .instanceMethod objectInit, .code objectInit ⟨#[0xb1]⟩ 1 none, .arrayClass .long, .fieldLink RX1 7 "PageIndexModel" "keys" "[J", .constantLong RX1 13 (-1), .fieldLink RX1 15 "PageIndexModel" "cursor" "J", .fieldLink RX1 25 "PageIndexModel" "order" "I", .methodLink RX1 19 yJ9_floorMod_7cf53, .static yJ9_floorMod_7cf53, .initialized RJ9, .code yJ9_floorMod_7cf53 cJ9_floorMod_7cf53 3 (some .int)] ++ wsX10)
def wsX1_isNumber : List Cond := .code yX1_isNumber cX1_isNumber 1 (some .boolean) :: ([.constant RX1 29 (1048576)])
def wsX1_areNumbers : List Cond := .code yX1_areNumbers cX1_areNumbers 4 (some .boolean) :: ([.methodLink RX1 30 yX1_isNumber, .static yX1_isNumber, .initialized RX1, .code yX1_isNumber cX1_isNumber 1 (some .boolean), .constant RX1 29 (1048576)])
def wsX1_packed : List Cond := .code yX1_packed cX1_packed 6 (some .long) :: ([.constantLong RX1 34 (1048576)])
def wsX1_key : List Cond := .code yX1_key cX1_key 4 (some .long) :: ([.fieldLink RX1 25 "PageIndexModel" "order" "I", .methodLink RX1 36 yX1_packed, .static yX1_packed, .initialized RX1, .code yX1_packed cX1_packed 6 (some .long), .constantLong RX1 34 (1048576)] ++ wsX10)
def wsX1_below : List Cond := .code yX1_below cX1_below 4 (some .int) :: ([.fieldLink RX1 40 "PageIndexModel" "size" "I", .fieldLink RX1 7 "PageIndexModel" "keys" "[J"] ++ wsX10)
def wsX1_isThere : List Cond := .code yX1_isThere cX1_isThere 4 (some .boolean) :: ([.fieldLink RX1 40 "PageIndexModel" "size" "I", .fieldLink RX1 7 "PageIndexModel" "keys" "[J"] ++ wsX10)
def wsX1_insert_r1 : List Cond := [Cond.fieldLink RX1 40 "PageIndexModel" "size" "I", Cond.fieldLink RX1 7 "PageIndexModel" "keys" "[J", Cond.methodLink RX1 43 yX1_areNumbers, Cond.static yX1_areNumbers, Cond.initialized RX1, Cond.code yX1_areNumbers cX1_areNumbers 4 (some .boolean), Cond.methodLink RX1 30 yX1_isNumber, Cond.static yX1_isNumber, Cond.code yX1_isNumber cX1_isNumber 1 (some .boolean), Cond.constant RX1 29 (1048576), Cond.methodLink RX1 47 yX1_key, Cond.instanceMethod yX1_key, Cond.selects RX1 yX1_key yX1_key, Cond.code yX1_key cX1_key 4 (some .long), Cond.fieldLink RX1 25 "PageIndexModel" "order" "I", Cond.methodLink RX1 36 yX1_packed, Cond.static yX1_packed, Cond.code yX1_packed cX1_packed 6 (some .long), Cond.constantLong RX1 34 (1048576), Cond.methodLink RX1 51 yX1_below, Cond.instanceMethod yX1_below, Cond.selects RX1 yX1_below yX1_below, Cond.code yX1_below cX1_below 4 (some .int), Cond.methodLink RX1 55 yX1_isThere]
def wsX1_insert_r2 : List Cond := [Cond.instanceMethod yX1_isThere, Cond.selects RX1 yX1_isThere yX1_isThere, Cond.code yX1_isThere cX1_isThere 4 (some .boolean)]
def wsX1_insert : List Cond := .code yX1_insert cX1_insert 8 (some .int) :: ((wsX1_insert_r1 ++ wsX1_insert_r2) ++ wsX10)
def wsX1_take : List Cond := .code yX1_take cX1_take 3 none :: ([.fieldLink RX1 40 "PageIndexModel" "size" "I", .fieldLink RX1 7 "PageIndexModel" "keys" "[J"] ++ wsX10)
def wsX1_remove_r1 : List Cond := [Cond.methodLink RX1 43 yX1_areNumbers, Cond.static yX1_areNumbers, Cond.initialized RX1, Cond.code yX1_areNumbers cX1_areNumbers 4 (some .boolean), Cond.methodLink RX1 30 yX1_isNumber, Cond.static yX1_isNumber, Cond.code yX1_isNumber cX1_isNumber 1 (some .boolean), Cond.constant RX1 29 (1048576), Cond.methodLink RX1 47 yX1_key, Cond.instanceMethod yX1_key, Cond.selects RX1 yX1_key yX1_key, Cond.code yX1_key cX1_key 4 (some .long), Cond.fieldLink RX1 25 "PageIndexModel" "order" "I", Cond.methodLink RX1 36 yX1_packed, Cond.static yX1_packed, Cond.code yX1_packed cX1_packed 6 (some .long), Cond.constantLong RX1 34 (1048576), Cond.methodLink RX1 51 yX1_below, Cond.instanceMethod yX1_below, Cond.selects RX1 yX1_below yX1_below, Cond.code yX1_below cX1_below 4 (some .int), Cond.fieldLink RX1 40 "PageIndexModel" "size" "I", Cond.fieldLink RX1 7 "PageIndexModel" "keys" "[J", Cond.methodLink RX1 55 yX1_isThere]
def wsX1_remove_r2 : List Cond := [Cond.instanceMethod yX1_isThere, Cond.selects RX1 yX1_isThere yX1_isThere, Cond.code yX1_isThere cX1_isThere 4 (some .boolean), Cond.methodLink RX1 59 yX1_take, Cond.instanceMethod yX1_take, Cond.selects RX1 yX1_take yX1_take, Cond.code yX1_take cX1_take 3 none]
def wsX1_remove : List Cond := .code yX1_remove cX1_remove 7 (some .int) :: ((wsX1_remove_r1 ++ wsX1_remove_r2) ++ wsX10)
def wsJ9_min_7cf53 : List Cond := .code yJ9_min_7cf53 cJ9_min_7cf53 2 (some .int) :: ([])
def wsL_cell : List Cond := .code yL_cell cL_cell 2 (some .int) :: ([])
def wsL_law_r1 : List Cond := [Cond.classLink RL 7 RX0, Cond.instantiable RX0 6, Cond.initialized RX0, Cond.classLink RL 18 RX1, Cond.instantiable RX1 4, Cond.initialized RX1, Cond.methodLink RL 9 yL_cell, Cond.static yL_cell, Cond.initialized RL, Cond.code yL_cell cL_cell 2 (some .int), Cond.methodLink RL 15 yX0_init, Cond.instanceMethod yX0_init, Cond.code yX0_init cX0_init 3 none, Cond.methodLink RX0 3 objectInit, Cond.instanceMethod objectInit, Cond.code objectInit ⟨#[0xb1]⟩ 1 none, Cond.fieldLink RX0 15 "PageIndex" "PLACES" "[I", Cond.fieldLink RX0 19 "PageIndex" "placeOfX" "I", Cond.fieldLink RX0 23 "PageIndex" "placeOfY" "I", Cond.fieldLink RX0 26 "PageIndex" "placeOfZ" "I", Cond.arrayClass .long, Cond.fieldLink RX0 29 "PageIndex" "keys" "[J", Cond.fieldLink RX0 33 "PageIndex" "held" "I", Cond.constantLong RX0 36 (-1)]
def wsL_law_r2 : List Cond := [Cond.fieldLink RX0 38 "PageIndex" "cursor" "J", Cond.methodLink RX0 9 yJ9_floorMod_7cf53, Cond.static yJ9_floorMod_7cf53, Cond.initialized RJ9, Cond.code yJ9_floorMod_7cf53 cJ9_floorMod_7cf53 3 (some .int), Cond.methodLink RL 20 yX1_init, Cond.instanceMethod yX1_init, Cond.code yX1_init cX1_init 2 none, Cond.methodLink RX1 1 objectInit, Cond.fieldLink RX1 7 "PageIndexModel" "keys" "[J", Cond.constantLong RX1 13 (-1), Cond.fieldLink RX1 15 "PageIndexModel" "cursor" "J", Cond.fieldLink RX1 25 "PageIndexModel" "order" "I", Cond.methodLink RX1 19 yJ9_floorMod_7cf53, Cond.methodLink RL 21 yX0_insert, Cond.instanceMethod yX0_insert, Cond.selects RX0 yX0_insert yX0_insert, Cond.code yX0_insert cX0_insert 7 (some .int), Cond.methodLink RX0 42 yX0_areNumbers, Cond.static yX0_areNumbers, Cond.code yX0_areNumbers cX0_areNumbers 3 (some .boolean), Cond.methodLink RX0 96 yX0_isNumber, Cond.static yX0_isNumber, Cond.code yX0_isNumber cX0_isNumber 1 (some .boolean)]
def wsL_law_r3 : List Cond := [Cond.constant RX0 95 (1048575), Cond.methodLink RX0 46 yX0_keyOfTriple, Cond.instanceMethod yX0_keyOfTriple, Cond.selects RX0 yX0_keyOfTriple yX0_keyOfTriple, Cond.code yX0_keyOfTriple cX0_keyOfTriple 4 (some .long), Cond.methodLink RX0 77 yX0_shiftOf, Cond.static yX0_shiftOf, Cond.code yX0_shiftOf cX0_shiftOf 1 (some .int), Cond.methodLink RX0 50 yX0_keysBefore, Cond.instanceMethod yX0_keysBefore, Cond.selects RX0 yX0_keysBefore yX0_keysBefore, Cond.code yX0_keysBefore cX0_keysBefore 6 (some .int), Cond.methodLink RX0 54 yX0_isKeyAt, Cond.instanceMethod yX0_isKeyAt, Cond.selects RX0 yX0_isKeyAt yX0_isKeyAt, Cond.code yX0_isKeyAt cX0_isKeyAt 4 (some .boolean), Cond.methodLink RX0 58 yX0_putIn, Cond.instanceMethod yX0_putIn, Cond.selects RX0 yX0_putIn yX0_putIn, Cond.code yX0_putIn cX0_putIn 4 none, Cond.methodLink RX0 111 Lib.Math.min.name, Cond.static Lib.Math.min.name, Cond.initialized "java/lang/Math", Cond.code Lib.Math.min.name Lib.Math.min.code 2 (some .int)]
def wsL_law_r4 : List Cond := [Cond.methodLink RX0 120 arraycopyName, Cond.native arraycopyName, Cond.static arraycopyName, Cond.initialized "java/lang/System", Cond.methodLink RX0 114 yJ7_copyOf_c38d5, Cond.static yJ7_copyOf_c38d5, Cond.initialized RJ7, Cond.code yJ7_copyOf_c38d5 cJ7_copyOf_c38d5 3 (some (.array .long)), Cond.methodLink RJ7 319 ⟨"[J", "clone", "()Ljava/lang/Object;"⟩, Cond.sameMethod "[J" "java/lang/Object" "clone" "()Ljava/lang/Object;", Cond.native ⟨"java/lang/Object", "clone", "()Ljava/lang/Object;"⟩, Cond.instanceMethod ⟨"java/lang/Object", "clone", "()Ljava/lang/Object;"⟩, Cond.selects "[J" ⟨"[J", "clone", "()Ljava/lang/Object;"⟩ ⟨"java/lang/Object", "clone", "()Ljava/lang/Object;"⟩, Cond.classLink RJ7 320 "[J", Cond.methodLink RJ7 304 Lib.Math.min.name, Cond.methodLink RJ7 150 arraycopyName, Cond.methodLink RL 25 yX1_insert, Cond.instanceMethod yX1_insert, Cond.selects RX1 yX1_insert yX1_insert, Cond.code yX1_insert cX1_insert 8 (some .int), Cond.fieldLink RX1 40 "PageIndexModel" "size" "I", Cond.methodLink RX1 43 yX1_areNumbers, Cond.static yX1_areNumbers, Cond.code yX1_areNumbers cX1_areNumbers 4 (some .boolean)]
def wsL_law_r5 : List Cond := [Cond.methodLink RX1 30 yX1_isNumber, Cond.static yX1_isNumber, Cond.code yX1_isNumber cX1_isNumber 1 (some .boolean), Cond.constant RX1 29 (1048576), Cond.methodLink RX1 47 yX1_key, Cond.instanceMethod yX1_key, Cond.selects RX1 yX1_key yX1_key, Cond.code yX1_key cX1_key 4 (some .long), Cond.methodLink RX1 36 yX1_packed, Cond.static yX1_packed, Cond.code yX1_packed cX1_packed 6 (some .long), Cond.constantLong RX1 34 (1048576), Cond.methodLink RX1 51 yX1_below, Cond.instanceMethod yX1_below, Cond.selects RX1 yX1_below yX1_below, Cond.code yX1_below cX1_below 4 (some .int), Cond.methodLink RX1 55 yX1_isThere, Cond.instanceMethod yX1_isThere, Cond.selects RX1 yX1_isThere yX1_isThere, Cond.code yX1_isThere cX1_isThere 4 (some .boolean), Cond.methodLink RL 26 yX0_remove, Cond.instanceMethod yX0_remove, Cond.selects RX0 yX0_remove yX0_remove, Cond.code yX0_remove cX0_remove 7 (some .int)]
def wsL_law_r6 : List Cond := [Cond.methodLink RX0 62 yX0_takeOut, Cond.instanceMethod yX0_takeOut, Cond.selects RX0 yX0_takeOut yX0_takeOut, Cond.code yX0_takeOut cX0_takeOut 3 none, Cond.methodLink RL 29 yX1_remove, Cond.instanceMethod yX1_remove, Cond.selects RX1 yX1_remove yX1_remove, Cond.code yX1_remove cX1_remove 7 (some .int), Cond.methodLink RX1 59 yX1_take, Cond.instanceMethod yX1_take, Cond.selects RX1 yX1_take yX1_take, Cond.code yX1_take cX1_take 3 none, Cond.methodLink RL 30 yX0_has, Cond.instanceMethod yX0_has, Cond.selects RX0 yX0_has yX0_has, Cond.code yX0_has cX0_has 4 (some .int), Cond.methodLink RX0 66 yX0_isHeld, Cond.instanceMethod yX0_isHeld, Cond.selects RX0 yX0_isHeld yX0_isHeld, Cond.code yX0_isHeld cX0_isHeld 3 (some .boolean), Cond.methodLink RL 34 yX0_count, Cond.instanceMethod yX0_count, Cond.selects RX0 yX0_count yX0_count, Cond.code yX0_count cX0_count 5 (some .int)]
def wsL_law_r7 : List Cond := [Cond.methodLink RX0 70 yX0_endOf, Cond.instanceMethod yX0_endOf, Cond.selects RX0 yX0_endOf yX0_endOf, Cond.code yX0_endOf cX0_endOf 5 (some .int), Cond.methodLink RX0 99 yX0_areFirstNumbers, Cond.static yX0_areFirstNumbers, Cond.code yX0_areFirstNumbers cX0_areFirstNumbers 4 (some .boolean), Cond.methodLink RX0 103 yX0_firstKey, Cond.static yX0_firstKey, Cond.code yX0_firstKey cX0_firstKey 4 (some .long), Cond.methodLink RX0 85 yX0_keyOf, Cond.static yX0_keyOf, Cond.code yX0_keyOf cX0_keyOf 3 (some .long), Cond.methodLink RX0 107 yX0_keysInAll, Cond.static yX0_keysInAll, Cond.code yX0_keysInAll cX0_keysInAll 1 (some .long), Cond.methodLink RX0 74 yX0_startOf, Cond.instanceMethod yX0_startOf, Cond.selects RX0 yX0_startOf yX0_startOf, Cond.code yX0_startOf cX0_startOf 5 (some .int), Cond.methodLink RL 39 yX0_different, Cond.instanceMethod yX0_different, Cond.selects RX0 yX0_different yX0_different, Cond.code yX0_different cX0_different 4 (some .int)]
def wsL_law_r8 : List Cond := [Cond.methodLink RX0 81 yX0_beginnings, Cond.instanceMethod yX0_beginnings, Cond.selects RX0 yX0_beginnings yX0_beginnings, Cond.code yX0_beginnings cX0_beginnings 10 (some .int), Cond.methodLink RL 43 yX0_rank, Cond.instanceMethod yX0_rank, Cond.selects RX0 yX0_rank yX0_rank, Cond.code yX0_rank cX0_rank 4 (some .int), Cond.methodLink RL 47 yX0_choose, Cond.instanceMethod yX0_choose, Cond.selects RX0 yX0_choose yX0_choose, Cond.code yX0_choose cX0_choose 2 (some .boolean), Cond.methodLink RX0 88 yX0_standAt, Cond.instanceMethod yX0_standAt, Cond.selects RX0 yX0_standAt yX0_standAt, Cond.code yX0_standAt cX0_standAt 3 (some .boolean), Cond.methodLink RL 52 yX0_seek, Cond.instanceMethod yX0_seek, Cond.selects RX0 yX0_seek yX0_seek, Cond.code yX0_seek cX0_seek 4 (some .boolean), Cond.methodLink RL 57 yX0_next, Cond.instanceMethod yX0_next, Cond.selects RX0 yX0_next yX0_next, Cond.code yX0_next cX0_next 1 (some .boolean)]
def wsL_law_r9 : List Cond := [Cond.methodLink RL 62 yX0_previous, Cond.instanceMethod yX0_previous, Cond.selects RX0 yX0_previous yX0_previous, Cond.code yX0_previous cX0_previous 2 (some .boolean), Cond.methodLink RL 66 yX0_told, Cond.instanceMethod yX0_told, Cond.selects RX0 yX0_told yX0_told, Cond.code yX0_told cX0_told 2 (some .int), Cond.methodLink RX0 92 yX0_cursorNumber, Cond.instanceMethod yX0_cursorNumber, Cond.selects RX0 yX0_cursorNumber yX0_cursorNumber, Cond.code yX0_cursorNumber cX0_cursorNumber 2 (some .int), Cond.methodLink RL 71 yX0_stands, Cond.instanceMethod yX0_stands, Cond.selects RX0 yX0_stands yX0_stands, Cond.code yX0_stands cX0_stands 1 (some .int), Cond.methodLink RL 76 yX0_size, Cond.instanceMethod yX0_size, Cond.selects RX0 yX0_size yX0_size, Cond.code yX0_size cX0_size 1 (some .int), Cond.methodLink RL 80 yX0_cut, Cond.instanceMethod yX0_cut, Cond.selects RX0 yX0_cut yX0_cut, Cond.code yX0_cut cX0_cut 7 (some .int)]
def wsL_law : List Cond := (wsL_law_r1 ++ (wsL_law_r2 ++ (wsL_law_r3 ++ (wsL_law_r4 ++ (wsL_law_r5 ++ (wsL_law_r6 ++ (wsL_law_r7 ++ (wsL_law_r8 ++ wsL_law_r9)))))))) ++ wsX00 ++ wsX10 ++ ([] : List Cond)
set_option maxRecDepth 20000 in
theorem wsL_law_in : ∀ w ∈ wsL_law, w ∈ lw_tbl := fun w h => (goodIn_p wsL_law [200, 28, 31, 34, 205, 61, 64, 67, 72, 75, 79, 83, 87, 90, 93, 225, 228, 231, 236, 239, 244, 248, 109, 113, 252, 256, 117, 121, 125, 129, 132, 135, 138, 141, 145, 149, 153, 157, 161, 165, 169, 173, 177, 181, 185, 189, 193, 197] (by decide +kernel) (by decide +kernel) w h).1
theorem inlX0 : ∀ w ∈ wsX00, w ∈ wsL_law := fun _ h => List.mem_append_left _ (List.mem_append_left _ (List.mem_append_right _ h))
theorem inX0 : ∀ w ∈ wsX00, w ∈ lw_tbl := fun w h => wsL_law_in w (inlX0 w h)
theorem inlX1 : ∀ w ∈ wsX10, w ∈ wsL_law := fun _ h => List.mem_append_left _ (List.mem_append_right _ h)
theorem inX1 : ∀ w ∈ wsX10, w ∈ lw_tbl := fun w h => wsL_law_in w (inlX1 w h)
theorem inJx8e188 : ∀ w ∈ wsJx8e1880, w ∈ lw_tbl := by decide +kernel
theorem inJ9 : ∀ w ∈ wsJ90, w ∈ lw_tbl := by decide +kernel
theorem inJ10 : ∀ w ∈ wsJ100, w ∈ lw_tbl := by decide +kernel
theorem inJ7 : ∀ w ∈ wsJ70, w ∈ lw_tbl := by decide +kernel
set_option maxRecDepth 20000 in
theorem ggX0_init_J9_floorMod_7cf53 : GoodIn wsX0_init wsJ9_floorMod_7cf53 := goodIn_r _ [16] (by decide +kernel) (by decide +kernel)
set_option maxRecDepth 20000 in
theorem gX0_init_J9_floorMod_7cf53 : GoodIn wsX0_init (va_wsS RX0 9 yJ9_floorMod_7cf53 wsJ9_floorMod_7cf53) := goodIn_app (goodIn_of _ (by decide +kernel)) ggX0_init_J9_floorMod_7cf53
theorem dX0_init_0 : decode cX0_init 0 = .ok (.aload_n 0, 1) := by decide +kernel
theorem dX0_init_1 : decode cX0_init 1 = .ok (.invokespecial 3, 3) := by decide +kernel
theorem dX0_init_4 : decode cX0_init 4 = .ok (.iconst 3, 1) := by decide +kernel
theorem dX0_init_5 : decode cX0_init 5 = .ok (.iload_n 1, 1) := by decide +kernel
theorem dX0_init_6 : decode cX0_init 6 = .ok (.bipush 6, 2) := by decide +kernel
theorem dX0_init_8 : decode cX0_init 8 = .ok (.invokestatic 9, 3) := by decide +kernel
theorem dX0_init_11 : decode cX0_init 11 = .ok (.imul, 1) := by decide +kernel
theorem dX0_init_12 : decode cX0_init 12 = .ok (.istore_n 2, 1) := by decide +kernel
theorem dX0_init_13 : decode cX0_init 13 = .ok (.aload_n 0, 1) := by decide +kernel
theorem dX0_init_14 : decode cX0_init 14 = .ok (.getstatic 15, 3) := by decide +kernel
theorem dX0_init_17 : decode cX0_init 17 = .ok (.iload_n 2, 1) := by decide +kernel
theorem dX0_init_18 : decode cX0_init 18 = .ok (.iaload, 1) := by decide +kernel
theorem dX0_init_19 : decode cX0_init 19 = .ok (.putfield 19, 3) := by decide +kernel
theorem dX0_init_22 : decode cX0_init 22 = .ok (.aload_n 0, 1) := by decide +kernel
theorem dX0_init_23 : decode cX0_init 23 = .ok (.getstatic 15, 3) := by decide +kernel
theorem dX0_init_26 : decode cX0_init 26 = .ok (.iload_n 2, 1) := by decide +kernel
theorem dX0_init_27 : decode cX0_init 27 = .ok (.iconst 1, 1) := by decide +kernel
theorem dX0_init_28 : decode cX0_init 28 = .ok (.iadd, 1) := by decide +kernel
theorem dX0_init_29 : decode cX0_init 29 = .ok (.iaload, 1) := by decide +kernel
theorem dX0_init_30 : decode cX0_init 30 = .ok (.putfield 23, 3) := by decide +kernel
theorem dX0_init_33 : decode cX0_init 33 = .ok (.aload_n 0, 1) := by decide +kernel
theorem dX0_init_34 : decode cX0_init 34 = .ok (.getstatic 15, 3) := by decide +kernel
theorem dX0_init_37 : decode cX0_init 37 = .ok (.iload_n 2, 1) := by decide +kernel
theorem dX0_init_38 : decode cX0_init 38 = .ok (.iconst 2, 1) := by decide +kernel
theorem dX0_init_39 : decode cX0_init 39 = .ok (.iadd, 1) := by decide +kernel
theorem dX0_init_40 : decode cX0_init 40 = .ok (.iaload, 1) := by decide +kernel
theorem dX0_init_41 : decode cX0_init 41 = .ok (.putfield 26, 3) := by decide +kernel
theorem dX0_init_44 : decode cX0_init 44 = .ok (.aload_n 0, 1) := by decide +kernel
theorem dX0_init_45 : decode cX0_init 45 = .ok (.bipush 64, 2) := by decide +kernel
theorem dX0_init_47 : decode cX0_init 47 = .ok (.newarray .long, 2) := by decide +kernel
theorem dX0_init_49 : decode cX0_init 49 = .ok (.putfield 29, 3) := by decide +kernel
theorem dX0_init_52 : decode cX0_init 52 = .ok (.aload_n 0, 1) := by decide +kernel
theorem dX0_init_53 : decode cX0_init 53 = .ok (.iconst 0, 1) := by decide +kernel
theorem dX0_init_54 : decode cX0_init 54 = .ok (.putfield 33, 3) := by decide +kernel
theorem dX0_init_57 : decode cX0_init 57 = .ok (.aload_n 0, 1) := by decide +kernel
theorem dX0_init_58 : decode cX0_init 58 = .ok (.ldc2_w 36, 3) := by decide +kernel
theorem dX0_init_61 : decode cX0_init 61 = .ok (.putfield 38, 3) := by decide +kernel
theorem dX0_init_64 : decode cX0_init 64 = .ok (.return_, 1) := by decide +kernel
set_option maxRecDepth 20000 in
theorem ggX0_insert_X0_areNumbers : GoodIn wsX0_insert wsX0_areNumbers := goodIn_r _ [5, 6, 7, 4, 8, 9] (by decide +kernel) (by decide +kernel)
set_option maxRecDepth 20000 in
theorem gX0_insert_X0_areNumbers : GoodIn wsX0_insert (va_wsS RX0 42 yX0_areNumbers wsX0_areNumbers) := goodIn_app (goodIn_of _ (by decide +kernel)) ggX0_insert_X0_areNumbers
set_option maxRecDepth 20000 in
theorem ggX0_insert_X0_keyOfTriple : GoodIn wsX0_insert wsX0_keyOfTriple := goodIn_r _ [13, 14, 15, 16, 17, 18, 4, 19, 54, 55, 56, 57, 58, 59] (by decide +kernel) (by decide +kernel)
set_option maxRecDepth 20000 in
theorem gX0_insert_X0_keyOfTriple : GoodIn wsX0_insert (wsV RX0 46 RX0 yX0_keyOfTriple wsX0_keyOfTriple) := goodIn_app (goodIn_of _ (by decide +kernel)) ggX0_insert_X0_keyOfTriple
set_option maxRecDepth 20000 in
theorem ggX0_insert_X0_keysBefore : GoodIn wsX0_insert wsX0_keysBefore := goodIn_r _ [23, 1, 24, 54, 55, 56, 57, 58, 59] (by decide +kernel) (by decide +kernel)
set_option maxRecDepth 20000 in
theorem gX0_insert_X0_keysBefore : GoodIn wsX0_insert (wsV RX0 50 RX0 yX0_keysBefore wsX0_keysBefore) := goodIn_app (goodIn_of _ (by decide +kernel)) ggX0_insert_X0_keysBefore
set_option maxRecDepth 20000 in
theorem ggX0_insert_X0_isKeyAt : GoodIn wsX0_insert wsX0_isKeyAt := goodIn_r _ [28, 1, 24, 54, 55, 56, 57, 58, 59] (by decide +kernel) (by decide +kernel)
set_option maxRecDepth 20000 in
theorem gX0_insert_X0_isKeyAt : GoodIn wsX0_insert (wsV RX0 54 RX0 yX0_isKeyAt wsX0_isKeyAt) := goodIn_app (goodIn_of _ (by decide +kernel)) ggX0_insert_X0_isKeyAt
set_option maxRecDepth 20000 in
theorem ggX0_insert_X0_putIn : GoodIn wsX0_insert wsX0_putIn := goodIn_r _ [32, 1, 24, 33, 34, 35, 36, 37, 38, 39, 40, 41, 42, 43, 44, 45, 46, 47, 48, 49, 50, 51, 52, 53, 54, 55, 56, 57, 58, 59] (by decide +kernel) (by decide +kernel)
set_option maxRecDepth 20000 in
theorem gX0_insert_X0_putIn : GoodIn wsX0_insert (wsV RX0 58 RX0 yX0_putIn wsX0_putIn) := goodIn_app (goodIn_of _ (by decide +kernel)) ggX0_insert_X0_putIn
theorem dX0_insert_0 : decode cX0_insert 0 = .ok (.iload_n 1, 1) := by decide +kernel
theorem dX0_insert_1 : decode cX0_insert 1 = .ok (.iload_n 2, 1) := by decide +kernel
theorem dX0_insert_2 : decode cX0_insert 2 = .ok (.iload_n 3, 1) := by decide +kernel
theorem dX0_insert_3 : decode cX0_insert 3 = .ok (.invokestatic 42, 3) := by decide +kernel
theorem dX0_insert_6 : decode cX0_insert 6 = .ok (.ifCond .ne 5, 3) := by decide +kernel
theorem dX0_insert_9 : decode cX0_insert 9 = .ok (.iconst (-1), 1) := by decide +kernel
theorem dX0_insert_10 : decode cX0_insert 10 = .ok (.ireturn, 1) := by decide +kernel
theorem dX0_insert_11 : decode cX0_insert 11 = .ok (.aload_n 0, 1) := by decide +kernel
theorem dX0_insert_12 : decode cX0_insert 12 = .ok (.iload_n 1, 1) := by decide +kernel
theorem dX0_insert_13 : decode cX0_insert 13 = .ok (.iload_n 2, 1) := by decide +kernel
theorem dX0_insert_14 : decode cX0_insert 14 = .ok (.iload_n 3, 1) := by decide +kernel
theorem dX0_insert_15 : decode cX0_insert 15 = .ok (.invokevirtual 46, 3) := by decide +kernel
theorem dX0_insert_18 : decode cX0_insert 18 = .ok (.lstore 4, 2) := by decide +kernel
theorem dX0_insert_20 : decode cX0_insert 20 = .ok (.aload_n 0, 1) := by decide +kernel
theorem dX0_insert_21 : decode cX0_insert 21 = .ok (.lload 4, 2) := by decide +kernel
theorem dX0_insert_23 : decode cX0_insert 23 = .ok (.invokevirtual 50, 3) := by decide +kernel
theorem dX0_insert_26 : decode cX0_insert 26 = .ok (.istore 6, 2) := by decide +kernel
theorem dX0_insert_28 : decode cX0_insert 28 = .ok (.aload_n 0, 1) := by decide +kernel
theorem dX0_insert_29 : decode cX0_insert 29 = .ok (.iload 6, 2) := by decide +kernel
theorem dX0_insert_31 : decode cX0_insert 31 = .ok (.lload 4, 2) := by decide +kernel
theorem dX0_insert_33 : decode cX0_insert 33 = .ok (.invokevirtual 54, 3) := by decide +kernel
theorem dX0_insert_36 : decode cX0_insert 36 = .ok (.ifCond .eq 5, 3) := by decide +kernel
theorem dX0_insert_39 : decode cX0_insert 39 = .ok (.iconst 0, 1) := by decide +kernel
theorem dX0_insert_40 : decode cX0_insert 40 = .ok (.ireturn, 1) := by decide +kernel
theorem dX0_insert_41 : decode cX0_insert 41 = .ok (.aload_n 0, 1) := by decide +kernel
theorem dX0_insert_42 : decode cX0_insert 42 = .ok (.getfield 33, 3) := by decide +kernel
theorem dX0_insert_45 : decode cX0_insert 45 = .ok (.sipush 20000, 3) := by decide +kernel
theorem dX0_insert_48 : decode cX0_insert 48 = .ok (.if_icmp .lt 6, 3) := by decide +kernel
theorem dX0_insert_51 : decode cX0_insert 51 = .ok (.bipush (-2), 2) := by decide +kernel
theorem dX0_insert_53 : decode cX0_insert 53 = .ok (.ireturn, 1) := by decide +kernel
theorem dX0_insert_54 : decode cX0_insert 54 = .ok (.aload_n 0, 1) := by decide +kernel
theorem dX0_insert_55 : decode cX0_insert 55 = .ok (.iload 6, 2) := by decide +kernel
theorem dX0_insert_57 : decode cX0_insert 57 = .ok (.lload 4, 2) := by decide +kernel
theorem dX0_insert_59 : decode cX0_insert 59 = .ok (.invokevirtual 58, 3) := by decide +kernel
theorem dX0_insert_62 : decode cX0_insert 62 = .ok (.iconst 1, 1) := by decide +kernel
theorem dX0_insert_63 : decode cX0_insert 63 = .ok (.ireturn, 1) := by decide +kernel
set_option maxRecDepth 20000 in
theorem ggX0_remove_X0_areNumbers : GoodIn wsX0_remove wsX0_areNumbers := goodIn_r _ [4, 5, 6, 3, 7, 8] (by decide +kernel) (by decide +kernel)
set_option maxRecDepth 20000 in
theorem gX0_remove_X0_areNumbers : GoodIn wsX0_remove (va_wsS RX0 42 yX0_areNumbers wsX0_areNumbers) := goodIn_app (goodIn_of _ (by decide +kernel)) ggX0_remove_X0_areNumbers
set_option maxRecDepth 20000 in
theorem ggX0_remove_X0_keyOfTriple : GoodIn wsX0_remove wsX0_keyOfTriple := goodIn_r _ [12, 13, 14, 15, 16, 17, 3, 18, 37, 38, 39, 40, 41, 42] (by decide +kernel) (by decide +kernel)
set_option maxRecDepth 20000 in
theorem gX0_remove_X0_keyOfTriple : GoodIn wsX0_remove (wsV RX0 46 RX0 yX0_keyOfTriple wsX0_keyOfTriple) := goodIn_app (goodIn_of _ (by decide +kernel)) ggX0_remove_X0_keyOfTriple
set_option maxRecDepth 20000 in
theorem ggX0_remove_X0_keysBefore : GoodIn wsX0_remove wsX0_keysBefore := goodIn_r _ [22, 23, 24, 37, 38, 39, 40, 41, 42] (by decide +kernel) (by decide +kernel)
set_option maxRecDepth 20000 in
theorem gX0_remove_X0_keysBefore : GoodIn wsX0_remove (wsV RX0 50 RX0 yX0_keysBefore wsX0_keysBefore) := goodIn_app (goodIn_of _ (by decide +kernel)) ggX0_remove_X0_keysBefore
set_option maxRecDepth 20000 in
theorem ggX0_remove_X0_isKeyAt : GoodIn wsX0_remove wsX0_isKeyAt := goodIn_r _ [28, 23, 24, 37, 38, 39, 40, 41, 42] (by decide +kernel) (by decide +kernel)
set_option maxRecDepth 20000 in
theorem gX0_remove_X0_isKeyAt : GoodIn wsX0_remove (wsV RX0 54 RX0 yX0_isKeyAt wsX0_isKeyAt) := goodIn_app (goodIn_of _ (by decide +kernel)) ggX0_remove_X0_isKeyAt
set_option maxRecDepth 20000 in
theorem ggX0_remove_X0_takeOut : GoodIn wsX0_remove wsX0_takeOut := goodIn_r _ [32, 24, 23, 33, 34, 35, 36, 37, 38, 39, 40, 41, 42] (by decide +kernel) (by decide +kernel)
set_option maxRecDepth 20000 in
theorem gX0_remove_X0_takeOut : GoodIn wsX0_remove (wsV RX0 62 RX0 yX0_takeOut wsX0_takeOut) := goodIn_app (goodIn_of _ (by decide +kernel)) ggX0_remove_X0_takeOut
theorem dX0_remove_0 : decode cX0_remove 0 = .ok (.iload_n 1, 1) := by decide +kernel
theorem dX0_remove_1 : decode cX0_remove 1 = .ok (.iload_n 2, 1) := by decide +kernel
theorem dX0_remove_2 : decode cX0_remove 2 = .ok (.iload_n 3, 1) := by decide +kernel
theorem dX0_remove_3 : decode cX0_remove 3 = .ok (.invokestatic 42, 3) := by decide +kernel
theorem dX0_remove_6 : decode cX0_remove 6 = .ok (.ifCond .ne 5, 3) := by decide +kernel
theorem dX0_remove_9 : decode cX0_remove 9 = .ok (.iconst (-1), 1) := by decide +kernel
theorem dX0_remove_10 : decode cX0_remove 10 = .ok (.ireturn, 1) := by decide +kernel
theorem dX0_remove_11 : decode cX0_remove 11 = .ok (.aload_n 0, 1) := by decide +kernel
theorem dX0_remove_12 : decode cX0_remove 12 = .ok (.iload_n 1, 1) := by decide +kernel
theorem dX0_remove_13 : decode cX0_remove 13 = .ok (.iload_n 2, 1) := by decide +kernel
theorem dX0_remove_14 : decode cX0_remove 14 = .ok (.iload_n 3, 1) := by decide +kernel
theorem dX0_remove_15 : decode cX0_remove 15 = .ok (.invokevirtual 46, 3) := by decide +kernel
theorem dX0_remove_18 : decode cX0_remove 18 = .ok (.lstore 4, 2) := by decide +kernel
theorem dX0_remove_20 : decode cX0_remove 20 = .ok (.aload_n 0, 1) := by decide +kernel
theorem dX0_remove_21 : decode cX0_remove 21 = .ok (.lload 4, 2) := by decide +kernel
theorem dX0_remove_23 : decode cX0_remove 23 = .ok (.invokevirtual 50, 3) := by decide +kernel
theorem dX0_remove_26 : decode cX0_remove 26 = .ok (.istore 6, 2) := by decide +kernel
theorem dX0_remove_28 : decode cX0_remove 28 = .ok (.aload_n 0, 1) := by decide +kernel
theorem dX0_remove_29 : decode cX0_remove 29 = .ok (.iload 6, 2) := by decide +kernel
theorem dX0_remove_31 : decode cX0_remove 31 = .ok (.lload 4, 2) := by decide +kernel
theorem dX0_remove_33 : decode cX0_remove 33 = .ok (.invokevirtual 54, 3) := by decide +kernel
theorem dX0_remove_36 : decode cX0_remove 36 = .ok (.ifCond .ne 5, 3) := by decide +kernel
theorem dX0_remove_39 : decode cX0_remove 39 = .ok (.iconst 0, 1) := by decide +kernel
theorem dX0_remove_40 : decode cX0_remove 40 = .ok (.ireturn, 1) := by decide +kernel
theorem dX0_remove_41 : decode cX0_remove 41 = .ok (.aload_n 0, 1) := by decide +kernel
theorem dX0_remove_42 : decode cX0_remove 42 = .ok (.iload 6, 2) := by decide +kernel
theorem dX0_remove_44 : decode cX0_remove 44 = .ok (.iload 6, 2) := by decide +kernel
theorem dX0_remove_46 : decode cX0_remove 46 = .ok (.iconst 1, 1) := by decide +kernel
theorem dX0_remove_47 : decode cX0_remove 47 = .ok (.iadd, 1) := by decide +kernel
theorem dX0_remove_48 : decode cX0_remove 48 = .ok (.invokevirtual 62, 3) := by decide +kernel
theorem dX0_remove_51 : decode cX0_remove 51 = .ok (.iconst 1, 1) := by decide +kernel
theorem dX0_remove_52 : decode cX0_remove 52 = .ok (.ireturn, 1) := by decide +kernel
set_option maxRecDepth 20000 in
theorem ggX0_has_X0_areNumbers : GoodIn wsX0_has wsX0_areNumbers := goodIn_r _ [4, 5, 6, 3, 7, 8] (by decide +kernel) (by decide +kernel)
set_option maxRecDepth 20000 in
theorem gX0_has_X0_areNumbers : GoodIn wsX0_has (va_wsS RX0 42 yX0_areNumbers wsX0_areNumbers) := goodIn_app (goodIn_of _ (by decide +kernel)) ggX0_has_X0_areNumbers
set_option maxRecDepth 20000 in
theorem ggX0_has_X0_keyOfTriple : GoodIn wsX0_has wsX0_keyOfTriple := goodIn_r _ [12, 13, 14, 15, 16, 17, 3, 18, 33, 34, 35, 36, 37, 38] (by decide +kernel) (by decide +kernel)
set_option maxRecDepth 20000 in
theorem gX0_has_X0_keyOfTriple : GoodIn wsX0_has (wsV RX0 46 RX0 yX0_keyOfTriple wsX0_keyOfTriple) := goodIn_app (goodIn_of _ (by decide +kernel)) ggX0_has_X0_keyOfTriple
set_option maxRecDepth 20000 in
theorem ggX0_has_X0_isHeld : GoodIn wsX0_has wsX0_isHeld := goodIn_r _ [22, 23, 24, 25, 3, 26, 27, 28, 29, 30, 31, 32, 33, 34, 35, 36, 37, 38] (by decide +kernel) (by decide +kernel)
set_option maxRecDepth 20000 in
theorem gX0_has_X0_isHeld : GoodIn wsX0_has (wsV RX0 66 RX0 yX0_isHeld wsX0_isHeld) := goodIn_app (goodIn_of _ (by decide +kernel)) ggX0_has_X0_isHeld
theorem dX0_has_0 : decode cX0_has 0 = .ok (.iload_n 1, 1) := by decide +kernel
theorem dX0_has_1 : decode cX0_has 1 = .ok (.iload_n 2, 1) := by decide +kernel
theorem dX0_has_2 : decode cX0_has 2 = .ok (.iload_n 3, 1) := by decide +kernel
theorem dX0_has_3 : decode cX0_has 3 = .ok (.invokestatic 42, 3) := by decide +kernel
theorem dX0_has_6 : decode cX0_has 6 = .ok (.ifCond .ne 5, 3) := by decide +kernel
theorem dX0_has_9 : decode cX0_has 9 = .ok (.iconst (-1), 1) := by decide +kernel
theorem dX0_has_10 : decode cX0_has 10 = .ok (.ireturn, 1) := by decide +kernel
theorem dX0_has_11 : decode cX0_has 11 = .ok (.aload_n 0, 1) := by decide +kernel
theorem dX0_has_12 : decode cX0_has 12 = .ok (.aload_n 0, 1) := by decide +kernel
theorem dX0_has_13 : decode cX0_has 13 = .ok (.iload_n 1, 1) := by decide +kernel
theorem dX0_has_14 : decode cX0_has 14 = .ok (.iload_n 2, 1) := by decide +kernel
theorem dX0_has_15 : decode cX0_has 15 = .ok (.iload_n 3, 1) := by decide +kernel
theorem dX0_has_16 : decode cX0_has 16 = .ok (.invokevirtual 46, 3) := by decide +kernel
theorem dX0_has_19 : decode cX0_has 19 = .ok (.invokevirtual 66, 3) := by decide +kernel
theorem dX0_has_22 : decode cX0_has 22 = .ok (.ifCond .eq 7, 3) := by decide +kernel
theorem dX0_has_25 : decode cX0_has 25 = .ok (.iconst 1, 1) := by decide +kernel
theorem dX0_has_26 : decode cX0_has 26 = .ok (.goto 4, 3) := by decide +kernel
theorem dX0_has_29 : decode cX0_has 29 = .ok (.iconst 0, 1) := by decide +kernel
theorem dX0_has_30 : decode cX0_has 30 = .ok (.ireturn, 1) := by decide +kernel
set_option maxRecDepth 20000 in
theorem ggX0_count_X0_endOf : GoodIn wsX0_count wsX0_endOf := goodIn_r _ [5, 6, 7, 4, 8, 9, 10, 11, 12, 13, 14, 15, 16, 17, 18, 19, 20, 21, 22, 23, 24, 25, 26, 27, 28, 29, 30, 35, 36, 37, 38, 39, 40] (by decide +kernel) (by decide +kernel)
set_option maxRecDepth 20000 in
theorem gX0_count_X0_endOf : GoodIn wsX0_count (wsV RX0 70 RX0 yX0_endOf wsX0_endOf) := goodIn_app (goodIn_of _ (by decide +kernel)) ggX0_count_X0_endOf
set_option maxRecDepth 20000 in
theorem ggX0_count_X0_startOf : GoodIn wsX0_count wsX0_startOf := goodIn_r _ [34, 6, 7, 4, 8, 9, 10, 11, 12, 13, 14, 15, 16, 17, 18, 19, 20, 21, 25, 26, 27, 28, 29, 30, 35, 36, 37, 38, 39, 40] (by decide +kernel) (by decide +kernel)
set_option maxRecDepth 20000 in
theorem gX0_count_X0_startOf : GoodIn wsX0_count (wsV RX0 74 RX0 yX0_startOf wsX0_startOf) := goodIn_app (goodIn_of _ (by decide +kernel)) ggX0_count_X0_startOf
theorem dX0_count_0 : decode cX0_count 0 = .ok (.iload_n 1, 1) := by decide +kernel
theorem dX0_count_1 : decode cX0_count 1 = .ok (.ifCond .lt 8, 3) := by decide +kernel
theorem dX0_count_4 : decode cX0_count 4 = .ok (.iload_n 1, 1) := by decide +kernel
theorem dX0_count_5 : decode cX0_count 5 = .ok (.iconst 3, 1) := by decide +kernel
theorem dX0_count_6 : decode cX0_count 6 = .ok (.if_icmp .le 5, 3) := by decide +kernel
theorem dX0_count_9 : decode cX0_count 9 = .ok (.iconst (-1), 1) := by decide +kernel
theorem dX0_count_10 : decode cX0_count 10 = .ok (.ireturn, 1) := by decide +kernel
theorem dX0_count_11 : decode cX0_count 11 = .ok (.aload_n 0, 1) := by decide +kernel
theorem dX0_count_12 : decode cX0_count 12 = .ok (.iload_n 1, 1) := by decide +kernel
theorem dX0_count_13 : decode cX0_count 13 = .ok (.iload_n 2, 1) := by decide +kernel
theorem dX0_count_14 : decode cX0_count 14 = .ok (.iload_n 3, 1) := by decide +kernel
theorem dX0_count_15 : decode cX0_count 15 = .ok (.iload 4, 2) := by decide +kernel
theorem dX0_count_17 : decode cX0_count 17 = .ok (.invokevirtual 70, 3) := by decide +kernel
theorem dX0_count_20 : decode cX0_count 20 = .ok (.aload_n 0, 1) := by decide +kernel
theorem dX0_count_21 : decode cX0_count 21 = .ok (.iload_n 1, 1) := by decide +kernel
theorem dX0_count_22 : decode cX0_count 22 = .ok (.iload_n 2, 1) := by decide +kernel
theorem dX0_count_23 : decode cX0_count 23 = .ok (.iload_n 3, 1) := by decide +kernel
theorem dX0_count_24 : decode cX0_count 24 = .ok (.iload 4, 2) := by decide +kernel
theorem dX0_count_26 : decode cX0_count 26 = .ok (.invokevirtual 74, 3) := by decide +kernel
theorem dX0_count_29 : decode cX0_count 29 = .ok (.isub, 1) := by decide +kernel
theorem dX0_count_30 : decode cX0_count 30 = .ok (.ireturn, 1) := by decide +kernel
set_option maxRecDepth 20000 in
theorem ggX0_different_X0_startOf : GoodIn wsX0_different wsX0_startOf := goodIn_r _ [5, 6, 7, 4, 8, 9, 10, 11, 12, 13, 14, 15, 16, 17, 18, 19, 20, 21, 22, 23, 24, 25, 26, 27, 40, 41, 42, 43, 44, 45] (by decide +kernel) (by decide +kernel)
set_option maxRecDepth 20000 in
theorem gX0_different_X0_startOf : GoodIn wsX0_different (wsV RX0 74 RX0 yX0_startOf wsX0_startOf) := goodIn_app (goodIn_of _ (by decide +kernel)) ggX0_different_X0_startOf
set_option maxRecDepth 20000 in
theorem ggX0_different_X0_endOf : GoodIn wsX0_different wsX0_endOf := goodIn_r _ [31, 6, 7, 4, 8, 9, 10, 11, 12, 13, 14, 15, 16, 17, 18, 19, 20, 21, 32, 33, 34, 22, 23, 24, 25, 26, 27, 40, 41, 42, 43, 44, 45] (by decide +kernel) (by decide +kernel)
set_option maxRecDepth 20000 in
theorem gX0_different_X0_endOf : GoodIn wsX0_different (wsV RX0 70 RX0 yX0_endOf wsX0_endOf) := goodIn_app (goodIn_of _ (by decide +kernel)) ggX0_different_X0_endOf
set_option maxRecDepth 20000 in
theorem ggX0_different_X0_shiftOf : GoodIn wsX0_different wsX0_shiftOf := goodIn_r _ [21] (by decide +kernel) (by decide +kernel)
set_option maxRecDepth 20000 in
theorem gX0_different_X0_shiftOf : GoodIn wsX0_different (va_wsS RX0 77 yX0_shiftOf wsX0_shiftOf) := goodIn_app (goodIn_of _ (by decide +kernel)) ggX0_different_X0_shiftOf
set_option maxRecDepth 20000 in
theorem ggX0_different_X0_beginnings : GoodIn wsX0_different wsX0_beginnings := goodIn_r _ [38, 39, 27, 40, 41, 42, 43, 44, 45] (by decide +kernel) (by decide +kernel)
set_option maxRecDepth 20000 in
theorem gX0_different_X0_beginnings : GoodIn wsX0_different (wsV RX0 81 RX0 yX0_beginnings wsX0_beginnings) := goodIn_app (goodIn_of _ (by decide +kernel)) ggX0_different_X0_beginnings
theorem dX0_different_0 : decode cX0_different 0 = .ok (.iload_n 1, 1) := by decide +kernel
theorem dX0_different_1 : decode cX0_different 1 = .ok (.ifCond .lt 8, 3) := by decide +kernel
theorem dX0_different_4 : decode cX0_different 4 = .ok (.iload_n 1, 1) := by decide +kernel
theorem dX0_different_5 : decode cX0_different 5 = .ok (.iconst 2, 1) := by decide +kernel
theorem dX0_different_6 : decode cX0_different 6 = .ok (.if_icmp .le 5, 3) := by decide +kernel
theorem dX0_different_9 : decode cX0_different 9 = .ok (.iconst (-1), 1) := by decide +kernel
theorem dX0_different_10 : decode cX0_different 10 = .ok (.ireturn, 1) := by decide +kernel
theorem dX0_different_11 : decode cX0_different 11 = .ok (.aload_n 0, 1) := by decide +kernel
theorem dX0_different_12 : decode cX0_different 12 = .ok (.aload_n 0, 1) := by decide +kernel
theorem dX0_different_13 : decode cX0_different 13 = .ok (.iload_n 1, 1) := by decide +kernel
theorem dX0_different_14 : decode cX0_different 14 = .ok (.iload_n 2, 1) := by decide +kernel
theorem dX0_different_15 : decode cX0_different 15 = .ok (.iload_n 3, 1) := by decide +kernel
theorem dX0_different_16 : decode cX0_different 16 = .ok (.iconst 0, 1) := by decide +kernel
theorem dX0_different_17 : decode cX0_different 17 = .ok (.invokevirtual 74, 3) := by decide +kernel
theorem dX0_different_20 : decode cX0_different 20 = .ok (.aload_n 0, 1) := by decide +kernel
theorem dX0_different_21 : decode cX0_different 21 = .ok (.iload_n 1, 1) := by decide +kernel
theorem dX0_different_22 : decode cX0_different 22 = .ok (.iload_n 2, 1) := by decide +kernel
theorem dX0_different_23 : decode cX0_different 23 = .ok (.iload_n 3, 1) := by decide +kernel
theorem dX0_different_24 : decode cX0_different 24 = .ok (.iconst 0, 1) := by decide +kernel
theorem dX0_different_25 : decode cX0_different 25 = .ok (.invokevirtual 70, 3) := by decide +kernel
theorem dX0_different_28 : decode cX0_different 28 = .ok (.iload_n 1, 1) := by decide +kernel
theorem dX0_different_29 : decode cX0_different 29 = .ok (.invokestatic 77, 3) := by decide +kernel
theorem dX0_different_32 : decode cX0_different 32 = .ok (.invokevirtual 81, 3) := by decide +kernel
theorem dX0_different_35 : decode cX0_different 35 = .ok (.ireturn, 1) := by decide +kernel
set_option maxRecDepth 20000 in
theorem ggX0_rank_X0_areNumbers : GoodIn wsX0_rank wsX0_areNumbers := goodIn_r _ [4, 5, 6, 3, 7, 8] (by decide +kernel) (by decide +kernel)
set_option maxRecDepth 20000 in
theorem gX0_rank_X0_areNumbers : GoodIn wsX0_rank (va_wsS RX0 42 yX0_areNumbers wsX0_areNumbers) := goodIn_app (goodIn_of _ (by decide +kernel)) ggX0_rank_X0_areNumbers
set_option maxRecDepth 20000 in
theorem ggX0_rank_X0_keyOf : GoodIn wsX0_rank wsX0_keyOf := goodIn_r _ [11, 12, 13, 3, 14] (by decide +kernel) (by decide +kernel)
set_option maxRecDepth 20000 in
theorem gX0_rank_X0_keyOf : GoodIn wsX0_rank (va_wsS RX0 85 yX0_keyOf wsX0_keyOf) := goodIn_app (goodIn_of _ (by decide +kernel)) ggX0_rank_X0_keyOf
set_option maxRecDepth 20000 in
theorem ggX0_rank_X0_keysBefore : GoodIn wsX0_rank wsX0_keysBefore := goodIn_r _ [18, 19, 20, 21, 22, 23, 24, 25, 26] (by decide +kernel) (by decide +kernel)
set_option maxRecDepth 20000 in
theorem gX0_rank_X0_keysBefore : GoodIn wsX0_rank (wsV RX0 50 RX0 yX0_keysBefore wsX0_keysBefore) := goodIn_app (goodIn_of _ (by decide +kernel)) ggX0_rank_X0_keysBefore
theorem dX0_rank_0 : decode cX0_rank 0 = .ok (.iload_n 1, 1) := by decide +kernel
theorem dX0_rank_1 : decode cX0_rank 1 = .ok (.iload_n 2, 1) := by decide +kernel
theorem dX0_rank_2 : decode cX0_rank 2 = .ok (.iload_n 3, 1) := by decide +kernel
theorem dX0_rank_3 : decode cX0_rank 3 = .ok (.invokestatic 42, 3) := by decide +kernel
theorem dX0_rank_6 : decode cX0_rank 6 = .ok (.ifCond .ne 5, 3) := by decide +kernel
theorem dX0_rank_9 : decode cX0_rank 9 = .ok (.iconst (-1), 1) := by decide +kernel
theorem dX0_rank_10 : decode cX0_rank 10 = .ok (.ireturn, 1) := by decide +kernel
theorem dX0_rank_11 : decode cX0_rank 11 = .ok (.aload_n 0, 1) := by decide +kernel
theorem dX0_rank_12 : decode cX0_rank 12 = .ok (.iload_n 1, 1) := by decide +kernel
theorem dX0_rank_13 : decode cX0_rank 13 = .ok (.iload_n 2, 1) := by decide +kernel
theorem dX0_rank_14 : decode cX0_rank 14 = .ok (.iload_n 3, 1) := by decide +kernel
theorem dX0_rank_15 : decode cX0_rank 15 = .ok (.invokestatic 85, 3) := by decide +kernel
theorem dX0_rank_18 : decode cX0_rank 18 = .ok (.invokevirtual 50, 3) := by decide +kernel
theorem dX0_rank_21 : decode cX0_rank 21 = .ok (.ireturn, 1) := by decide +kernel
set_option maxRecDepth 20000 in
theorem ggX0_choose_X0_standAt : GoodIn wsX0_choose wsX0_standAt := goodIn_r _ [5, 6, 7, 8, 9, 10, 11, 12, 13, 14, 15] (by decide +kernel) (by decide +kernel)
set_option maxRecDepth 20000 in
theorem gX0_choose_X0_standAt : GoodIn wsX0_choose (wsV RX0 88 RX0 yX0_standAt wsX0_standAt) := goodIn_app (goodIn_of _ (by decide +kernel)) ggX0_choose_X0_standAt
theorem dX0_choose_0 : decode cX0_choose 0 = .ok (.aload_n 0, 1) := by decide +kernel
theorem dX0_choose_1 : decode cX0_choose 1 = .ok (.iload_n 1, 1) := by decide +kernel
theorem dX0_choose_2 : decode cX0_choose 2 = .ok (.invokevirtual 88, 3) := by decide +kernel
theorem dX0_choose_5 : decode cX0_choose 5 = .ok (.ireturn, 1) := by decide +kernel
set_option maxRecDepth 20000 in
theorem ggX0_seek_X0_areNumbers : GoodIn wsX0_seek wsX0_areNumbers := goodIn_r _ [4, 5, 6, 3, 7, 8] (by decide +kernel) (by decide +kernel)
set_option maxRecDepth 20000 in
theorem gX0_seek_X0_areNumbers : GoodIn wsX0_seek (va_wsS RX0 42 yX0_areNumbers wsX0_areNumbers) := goodIn_app (goodIn_of _ (by decide +kernel)) ggX0_seek_X0_areNumbers
set_option maxRecDepth 20000 in
theorem ggX0_seek_X0_keyOf : GoodIn wsX0_seek wsX0_keyOf := goodIn_r _ [11, 12, 13, 3, 14] (by decide +kernel) (by decide +kernel)
set_option maxRecDepth 20000 in
theorem gX0_seek_X0_keyOf : GoodIn wsX0_seek (va_wsS RX0 85 yX0_keyOf wsX0_keyOf) := goodIn_app (goodIn_of _ (by decide +kernel)) ggX0_seek_X0_keyOf
set_option maxRecDepth 20000 in
theorem ggX0_seek_X0_keysBefore : GoodIn wsX0_seek wsX0_keysBefore := goodIn_r _ [18, 19, 20, 27, 28, 29, 30, 31, 32] (by decide +kernel) (by decide +kernel)
set_option maxRecDepth 20000 in
theorem gX0_seek_X0_keysBefore : GoodIn wsX0_seek (wsV RX0 50 RX0 yX0_keysBefore wsX0_keysBefore) := goodIn_app (goodIn_of _ (by decide +kernel)) ggX0_seek_X0_keysBefore
set_option maxRecDepth 20000 in
theorem ggX0_seek_X0_standAt : GoodIn wsX0_seek wsX0_standAt := goodIn_r _ [24, 19, 20, 25, 26, 27, 28, 29, 30, 31, 32] (by decide +kernel) (by decide +kernel)
set_option maxRecDepth 20000 in
theorem gX0_seek_X0_standAt : GoodIn wsX0_seek (wsV RX0 88 RX0 yX0_standAt wsX0_standAt) := goodIn_app (goodIn_of _ (by decide +kernel)) ggX0_seek_X0_standAt
theorem dX0_seek_0 : decode cX0_seek 0 = .ok (.iload_n 1, 1) := by decide +kernel
theorem dX0_seek_1 : decode cX0_seek 1 = .ok (.iload_n 2, 1) := by decide +kernel
theorem dX0_seek_2 : decode cX0_seek 2 = .ok (.iload_n 3, 1) := by decide +kernel
theorem dX0_seek_3 : decode cX0_seek 3 = .ok (.invokestatic 42, 3) := by decide +kernel
theorem dX0_seek_6 : decode cX0_seek 6 = .ok (.ifCond .ne 5, 3) := by decide +kernel
theorem dX0_seek_9 : decode cX0_seek 9 = .ok (.iconst 0, 1) := by decide +kernel
theorem dX0_seek_10 : decode cX0_seek 10 = .ok (.ireturn, 1) := by decide +kernel
theorem dX0_seek_11 : decode cX0_seek 11 = .ok (.aload_n 0, 1) := by decide +kernel
theorem dX0_seek_12 : decode cX0_seek 12 = .ok (.aload_n 0, 1) := by decide +kernel
theorem dX0_seek_13 : decode cX0_seek 13 = .ok (.iload_n 1, 1) := by decide +kernel
theorem dX0_seek_14 : decode cX0_seek 14 = .ok (.iload_n 2, 1) := by decide +kernel
theorem dX0_seek_15 : decode cX0_seek 15 = .ok (.iload_n 3, 1) := by decide +kernel
theorem dX0_seek_16 : decode cX0_seek 16 = .ok (.invokestatic 85, 3) := by decide +kernel
theorem dX0_seek_19 : decode cX0_seek 19 = .ok (.invokevirtual 50, 3) := by decide +kernel
theorem dX0_seek_22 : decode cX0_seek 22 = .ok (.invokevirtual 88, 3) := by decide +kernel
theorem dX0_seek_25 : decode cX0_seek 25 = .ok (.ireturn, 1) := by decide +kernel
set_option maxRecDepth 20000 in
theorem ggX0_next_X0_keysBefore : GoodIn wsX0_next wsX0_keysBefore := goodIn_r _ [6, 7, 8, 14, 15, 16, 17, 18, 19] (by decide +kernel) (by decide +kernel)
set_option maxRecDepth 20000 in
theorem gX0_next_X0_keysBefore : GoodIn wsX0_next (wsV RX0 50 RX0 yX0_keysBefore wsX0_keysBefore) := goodIn_app (goodIn_of _ (by decide +kernel)) ggX0_next_X0_keysBefore
set_option maxRecDepth 20000 in
theorem ggX0_next_X0_standAt : GoodIn wsX0_next wsX0_standAt := goodIn_r _ [12, 7, 8, 13, 1, 14, 15, 16, 17, 18, 19] (by decide +kernel) (by decide +kernel)
set_option maxRecDepth 20000 in
theorem gX0_next_X0_standAt : GoodIn wsX0_next (wsV RX0 88 RX0 yX0_standAt wsX0_standAt) := goodIn_app (goodIn_of _ (by decide +kernel)) ggX0_next_X0_standAt
theorem dX0_next_0 : decode cX0_next 0 = .ok (.aload_n 0, 1) := by decide +kernel
theorem dX0_next_1 : decode cX0_next 1 = .ok (.aload_n 0, 1) := by decide +kernel
theorem dX0_next_2 : decode cX0_next 2 = .ok (.aload_n 0, 1) := by decide +kernel
theorem dX0_next_3 : decode cX0_next 3 = .ok (.getfield 38, 3) := by decide +kernel
theorem dX0_next_6 : decode cX0_next 6 = .ok (.lconst 1, 1) := by decide +kernel
theorem dX0_next_7 : decode cX0_next 7 = .ok (.ladd, 1) := by decide +kernel
theorem dX0_next_8 : decode cX0_next 8 = .ok (.invokevirtual 50, 3) := by decide +kernel
theorem dX0_next_11 : decode cX0_next 11 = .ok (.invokevirtual 88, 3) := by decide +kernel
theorem dX0_next_14 : decode cX0_next 14 = .ok (.ireturn, 1) := by decide +kernel
set_option maxRecDepth 20000 in
theorem ggX0_previous_X0_keysBefore : GoodIn wsX0_previous wsX0_keysBefore := goodIn_r _ [8, 3, 9, 14, 15, 16, 17, 18, 19] (by decide +kernel) (by decide +kernel)
set_option maxRecDepth 20000 in
theorem gX0_previous_X0_keysBefore : GoodIn wsX0_previous (wsV RX0 50 RX0 yX0_keysBefore wsX0_keysBefore) := goodIn_app (goodIn_of _ (by decide +kernel)) ggX0_previous_X0_keysBefore
set_option maxRecDepth 20000 in
theorem ggX0_previous_X0_standAt : GoodIn wsX0_previous wsX0_standAt := goodIn_r _ [13, 3, 9, 2, 1, 14, 15, 16, 17, 18, 19] (by decide +kernel) (by decide +kernel)
set_option maxRecDepth 20000 in
theorem gX0_previous_X0_standAt : GoodIn wsX0_previous (wsV RX0 88 RX0 yX0_standAt wsX0_standAt) := goodIn_app (goodIn_of _ (by decide +kernel)) ggX0_previous_X0_standAt
theorem dX0_previous_0 : decode cX0_previous 0 = .ok (.aload_n 0, 1) := by decide +kernel
theorem dX0_previous_1 : decode cX0_previous 1 = .ok (.getfield 38, 3) := by decide +kernel
theorem dX0_previous_4 : decode cX0_previous 4 = .ok (.ldc2_w 36, 3) := by decide +kernel
theorem dX0_previous_7 : decode cX0_previous 7 = .ok (.lcmp, 1) := by decide +kernel
theorem dX0_previous_8 : decode cX0_previous 8 = .ok (.ifCond .ne 10, 3) := by decide +kernel
theorem dX0_previous_11 : decode cX0_previous 11 = .ok (.aload_n 0, 1) := by decide +kernel
theorem dX0_previous_12 : decode cX0_previous 12 = .ok (.getfield 33, 3) := by decide +kernel
theorem dX0_previous_15 : decode cX0_previous 15 = .ok (.goto 11, 3) := by decide +kernel
theorem dX0_previous_18 : decode cX0_previous 18 = .ok (.aload_n 0, 1) := by decide +kernel
theorem dX0_previous_19 : decode cX0_previous 19 = .ok (.aload_n 0, 1) := by decide +kernel
theorem dX0_previous_20 : decode cX0_previous 20 = .ok (.getfield 38, 3) := by decide +kernel
theorem dX0_previous_23 : decode cX0_previous 23 = .ok (.invokevirtual 50, 3) := by decide +kernel
theorem dX0_previous_26 : decode cX0_previous 26 = .ok (.istore_n 1, 1) := by decide +kernel
theorem dX0_previous_27 : decode cX0_previous 27 = .ok (.aload_n 0, 1) := by decide +kernel
theorem dX0_previous_28 : decode cX0_previous 28 = .ok (.iload_n 1, 1) := by decide +kernel
theorem dX0_previous_29 : decode cX0_previous 29 = .ok (.iconst 1, 1) := by decide +kernel
theorem dX0_previous_30 : decode cX0_previous 30 = .ok (.isub, 1) := by decide +kernel
theorem dX0_previous_31 : decode cX0_previous 31 = .ok (.invokevirtual 88, 3) := by decide +kernel
theorem dX0_previous_34 : decode cX0_previous 34 = .ok (.ireturn, 1) := by decide +kernel
set_option maxRecDepth 20000 in
theorem ggX0_told_X0_cursorNumber : GoodIn wsX0_told wsX0_cursorNumber := goodIn_r _ [10, 1, 11, 12, 13, 9, 14, 15, 16, 17, 18, 19, 20] (by decide +kernel) (by decide +kernel)
set_option maxRecDepth 20000 in
theorem gX0_told_X0_cursorNumber : GoodIn wsX0_told (wsV RX0 92 RX0 yX0_cursorNumber wsX0_cursorNumber) := goodIn_app (goodIn_of _ (by decide +kernel)) ggX0_told_X0_cursorNumber
theorem dX0_told_0 : decode cX0_told 0 = .ok (.aload_n 0, 1) := by decide +kernel
theorem dX0_told_1 : decode cX0_told 1 = .ok (.getfield 38, 3) := by decide +kernel
theorem dX0_told_4 : decode cX0_told 4 = .ok (.ldc2_w 36, 3) := by decide +kernel
theorem dX0_told_7 : decode cX0_told 7 = .ok (.lcmp, 1) := by decide +kernel
theorem dX0_told_8 : decode cX0_told 8 = .ok (.ifCond .ne 5, 3) := by decide +kernel
theorem dX0_told_11 : decode cX0_told 11 = .ok (.iconst (-1), 1) := by decide +kernel
theorem dX0_told_12 : decode cX0_told 12 = .ok (.ireturn, 1) := by decide +kernel
theorem dX0_told_13 : decode cX0_told 13 = .ok (.iload_n 1, 1) := by decide +kernel
theorem dX0_told_14 : decode cX0_told 14 = .ok (.tableswitch 71 0 5 #[38, 38, 38, 44, 53, 62], 38) := by decide +kernel
theorem dX0_told_52 : decode cX0_told 52 = .ok (.aload_n 0, 1) := by decide +kernel
theorem dX0_told_53 : decode cX0_told 53 = .ok (.iload_n 1, 1) := by decide +kernel
theorem dX0_told_54 : decode cX0_told 54 = .ok (.invokevirtual 92, 3) := by decide +kernel
theorem dX0_told_57 : decode cX0_told 57 = .ok (.ireturn, 1) := by decide +kernel
theorem dX0_told_58 : decode cX0_told 58 = .ok (.aload_n 0, 1) := by decide +kernel
theorem dX0_told_59 : decode cX0_told 59 = .ok (.aload_n 0, 1) := by decide +kernel
theorem dX0_told_60 : decode cX0_told 60 = .ok (.getfield 19, 3) := by decide +kernel
theorem dX0_told_63 : decode cX0_told 63 = .ok (.invokevirtual 92, 3) := by decide +kernel
theorem dX0_told_66 : decode cX0_told 66 = .ok (.ireturn, 1) := by decide +kernel
theorem dX0_told_67 : decode cX0_told 67 = .ok (.aload_n 0, 1) := by decide +kernel
theorem dX0_told_68 : decode cX0_told 68 = .ok (.aload_n 0, 1) := by decide +kernel
theorem dX0_told_69 : decode cX0_told 69 = .ok (.getfield 23, 3) := by decide +kernel
theorem dX0_told_72 : decode cX0_told 72 = .ok (.invokevirtual 92, 3) := by decide +kernel
theorem dX0_told_75 : decode cX0_told 75 = .ok (.ireturn, 1) := by decide +kernel
theorem dX0_told_76 : decode cX0_told 76 = .ok (.aload_n 0, 1) := by decide +kernel
theorem dX0_told_77 : decode cX0_told 77 = .ok (.aload_n 0, 1) := by decide +kernel
theorem dX0_told_78 : decode cX0_told 78 = .ok (.getfield 26, 3) := by decide +kernel
theorem dX0_told_81 : decode cX0_told 81 = .ok (.invokevirtual 92, 3) := by decide +kernel
theorem dX0_told_84 : decode cX0_told 84 = .ok (.ireturn, 1) := by decide +kernel
theorem dX0_told_85 : decode cX0_told 85 = .ok (.iconst (-1), 1) := by decide +kernel
theorem dX0_told_86 : decode cX0_told 86 = .ok (.ireturn, 1) := by decide +kernel
set_option maxRecDepth 20000 in
theorem ggX0_stands_X0_isHeld : GoodIn wsX0_stands wsX0_isHeld := goodIn_r _ [7, 8, 9, 10, 6, 11, 12, 13, 14, 15, 16, 17, 18, 19, 20, 21, 22, 23] (by decide +kernel) (by decide +kernel)
set_option maxRecDepth 20000 in
theorem gX0_stands_X0_isHeld : GoodIn wsX0_stands (wsV RX0 66 RX0 yX0_isHeld wsX0_isHeld) := goodIn_app (goodIn_of _ (by decide +kernel)) ggX0_stands_X0_isHeld
theorem dX0_stands_0 : decode cX0_stands 0 = .ok (.aload_n 0, 1) := by decide +kernel
theorem dX0_stands_1 : decode cX0_stands 1 = .ok (.getfield 38, 3) := by decide +kernel
theorem dX0_stands_4 : decode cX0_stands 4 = .ok (.ldc2_w 36, 3) := by decide +kernel
theorem dX0_stands_7 : decode cX0_stands 7 = .ok (.lcmp, 1) := by decide +kernel
theorem dX0_stands_8 : decode cX0_stands 8 = .ok (.ifCond .eq 18, 3) := by decide +kernel
theorem dX0_stands_11 : decode cX0_stands 11 = .ok (.aload_n 0, 1) := by decide +kernel
theorem dX0_stands_12 : decode cX0_stands 12 = .ok (.aload_n 0, 1) := by decide +kernel
theorem dX0_stands_13 : decode cX0_stands 13 = .ok (.getfield 38, 3) := by decide +kernel
theorem dX0_stands_16 : decode cX0_stands 16 = .ok (.invokevirtual 66, 3) := by decide +kernel
theorem dX0_stands_19 : decode cX0_stands 19 = .ok (.ifCond .eq 7, 3) := by decide +kernel
theorem dX0_stands_22 : decode cX0_stands 22 = .ok (.iconst 1, 1) := by decide +kernel
theorem dX0_stands_23 : decode cX0_stands 23 = .ok (.goto 4, 3) := by decide +kernel
theorem dX0_stands_26 : decode cX0_stands 26 = .ok (.iconst 0, 1) := by decide +kernel
theorem dX0_stands_27 : decode cX0_stands 27 = .ok (.ireturn, 1) := by decide +kernel
theorem dX0_size_0 : decode cX0_size 0 = .ok (.aload_n 0, 1) := by decide +kernel
theorem dX0_size_1 : decode cX0_size 1 = .ok (.getfield 33, 3) := by decide +kernel
theorem dX0_size_4 : decode cX0_size 4 = .ok (.ireturn, 1) := by decide +kernel
set_option maxRecDepth 20000 in
theorem ggX0_cut_X0_startOf : GoodIn wsX0_cut wsX0_startOf := goodIn_r _ [5, 6, 7, 4, 8, 9, 10, 11, 12, 13, 14, 15, 16, 17, 18, 19, 20, 21, 22, 23, 24, 25, 26, 27, 43, 44, 45, 46, 47, 48] (by decide +kernel) (by decide +kernel)
set_option maxRecDepth 20000 in
theorem gX0_cut_X0_startOf : GoodIn wsX0_cut (wsV RX0 74 RX0 yX0_startOf wsX0_startOf) := goodIn_app (goodIn_of _ (by decide +kernel)) ggX0_cut_X0_startOf
set_option maxRecDepth 20000 in
theorem ggX0_cut_X0_endOf : GoodIn wsX0_cut wsX0_endOf := goodIn_r _ [31, 6, 7, 4, 8, 9, 10, 11, 12, 13, 14, 15, 16, 17, 18, 19, 20, 21, 32, 33, 34, 22, 23, 24, 25, 26, 27, 43, 44, 45, 46, 47, 48] (by decide +kernel) (by decide +kernel)
set_option maxRecDepth 20000 in
theorem gX0_cut_X0_endOf : GoodIn wsX0_cut (wsV RX0 70 RX0 yX0_endOf wsX0_endOf) := goodIn_app (goodIn_of _ (by decide +kernel)) ggX0_cut_X0_endOf
set_option maxRecDepth 20000 in
theorem ggX0_cut_X0_takeOut : GoodIn wsX0_cut wsX0_takeOut := goodIn_r _ [38, 27, 26, 39, 40, 41, 42, 43, 44, 45, 46, 47, 48] (by decide +kernel) (by decide +kernel)
set_option maxRecDepth 20000 in
theorem gX0_cut_X0_takeOut : GoodIn wsX0_cut (wsV RX0 62 RX0 yX0_takeOut wsX0_takeOut) := goodIn_app (goodIn_of _ (by decide +kernel)) ggX0_cut_X0_takeOut
theorem dX0_cut_0 : decode cX0_cut 0 = .ok (.iload_n 1, 1) := by decide +kernel
theorem dX0_cut_1 : decode cX0_cut 1 = .ok (.ifCond .lt 8, 3) := by decide +kernel
theorem dX0_cut_4 : decode cX0_cut 4 = .ok (.iload_n 1, 1) := by decide +kernel
theorem dX0_cut_5 : decode cX0_cut 5 = .ok (.iconst 3, 1) := by decide +kernel
theorem dX0_cut_6 : decode cX0_cut 6 = .ok (.if_icmp .le 5, 3) := by decide +kernel
theorem dX0_cut_9 : decode cX0_cut 9 = .ok (.iconst (-1), 1) := by decide +kernel
theorem dX0_cut_10 : decode cX0_cut 10 = .ok (.ireturn, 1) := by decide +kernel
theorem dX0_cut_11 : decode cX0_cut 11 = .ok (.aload_n 0, 1) := by decide +kernel
theorem dX0_cut_12 : decode cX0_cut 12 = .ok (.iload_n 1, 1) := by decide +kernel
theorem dX0_cut_13 : decode cX0_cut 13 = .ok (.iload_n 2, 1) := by decide +kernel
theorem dX0_cut_14 : decode cX0_cut 14 = .ok (.iload_n 3, 1) := by decide +kernel
theorem dX0_cut_15 : decode cX0_cut 15 = .ok (.iload 4, 2) := by decide +kernel
theorem dX0_cut_17 : decode cX0_cut 17 = .ok (.invokevirtual 74, 3) := by decide +kernel
theorem dX0_cut_20 : decode cX0_cut 20 = .ok (.istore 5, 2) := by decide +kernel
theorem dX0_cut_22 : decode cX0_cut 22 = .ok (.aload_n 0, 1) := by decide +kernel
theorem dX0_cut_23 : decode cX0_cut 23 = .ok (.iload_n 1, 1) := by decide +kernel
theorem dX0_cut_24 : decode cX0_cut 24 = .ok (.iload_n 2, 1) := by decide +kernel
theorem dX0_cut_25 : decode cX0_cut 25 = .ok (.iload_n 3, 1) := by decide +kernel
theorem dX0_cut_26 : decode cX0_cut 26 = .ok (.iload 4, 2) := by decide +kernel
theorem dX0_cut_28 : decode cX0_cut 28 = .ok (.invokevirtual 70, 3) := by decide +kernel
theorem dX0_cut_31 : decode cX0_cut 31 = .ok (.istore 6, 2) := by decide +kernel
theorem dX0_cut_33 : decode cX0_cut 33 = .ok (.aload_n 0, 1) := by decide +kernel
theorem dX0_cut_34 : decode cX0_cut 34 = .ok (.iload 5, 2) := by decide +kernel
theorem dX0_cut_36 : decode cX0_cut 36 = .ok (.iload 6, 2) := by decide +kernel
theorem dX0_cut_38 : decode cX0_cut 38 = .ok (.invokevirtual 62, 3) := by decide +kernel
theorem dX0_cut_41 : decode cX0_cut 41 = .ok (.iload 6, 2) := by decide +kernel
theorem dX0_cut_43 : decode cX0_cut 43 = .ok (.iload 5, 2) := by decide +kernel
theorem dX0_cut_45 : decode cX0_cut 45 = .ok (.isub, 1) := by decide +kernel
theorem dX0_cut_46 : decode cX0_cut 46 = .ok (.ireturn, 1) := by decide +kernel
theorem dX0_isNumber_0 : decode cX0_isNumber 0 = .ok (.iload_n 0, 1) := by decide +kernel
theorem dX0_isNumber_1 : decode cX0_isNumber 1 = .ok (.ifCond .lt 13, 3) := by decide +kernel
theorem dX0_isNumber_4 : decode cX0_isNumber 4 = .ok (.iload_n 0, 1) := by decide +kernel
theorem dX0_isNumber_5 : decode cX0_isNumber 5 = .ok (.ldc 95, 2) := by decide +kernel
theorem dX0_isNumber_7 : decode cX0_isNumber 7 = .ok (.if_icmp .gt 7, 3) := by decide +kernel
theorem dX0_isNumber_10 : decode cX0_isNumber 10 = .ok (.iconst 1, 1) := by decide +kernel
theorem dX0_isNumber_11 : decode cX0_isNumber 11 = .ok (.goto 4, 3) := by decide +kernel
theorem dX0_isNumber_14 : decode cX0_isNumber 14 = .ok (.iconst 0, 1) := by decide +kernel
theorem dX0_isNumber_15 : decode cX0_isNumber 15 = .ok (.ireturn, 1) := by decide +kernel
set_option maxRecDepth 20000 in
theorem ggX0_areNumbers_X0_isNumber : GoodIn wsX0_areNumbers wsX0_isNumber := goodIn_r _ [4, 5] (by decide +kernel) (by decide +kernel)
set_option maxRecDepth 20000 in
theorem gX0_areNumbers_X0_isNumber : GoodIn wsX0_areNumbers (va_wsS RX0 96 yX0_isNumber wsX0_isNumber) := goodIn_app (goodIn_of _ (by decide +kernel)) ggX0_areNumbers_X0_isNumber
theorem dX0_areNumbers_0 : decode cX0_areNumbers 0 = .ok (.iload_n 0, 1) := by decide +kernel
theorem dX0_areNumbers_1 : decode cX0_areNumbers 1 = .ok (.invokestatic 96, 3) := by decide +kernel
theorem dX0_areNumbers_4 : decode cX0_areNumbers 4 = .ok (.ifCond .eq 21, 3) := by decide +kernel
theorem dX0_areNumbers_7 : decode cX0_areNumbers 7 = .ok (.iload_n 1, 1) := by decide +kernel
theorem dX0_areNumbers_8 : decode cX0_areNumbers 8 = .ok (.invokestatic 96, 3) := by decide +kernel
theorem dX0_areNumbers_11 : decode cX0_areNumbers 11 = .ok (.ifCond .eq 14, 3) := by decide +kernel
theorem dX0_areNumbers_14 : decode cX0_areNumbers 14 = .ok (.iload_n 2, 1) := by decide +kernel
theorem dX0_areNumbers_15 : decode cX0_areNumbers 15 = .ok (.invokestatic 96, 3) := by decide +kernel
theorem dX0_areNumbers_18 : decode cX0_areNumbers 18 = .ok (.ifCond .eq 7, 3) := by decide +kernel
theorem dX0_areNumbers_21 : decode cX0_areNumbers 21 = .ok (.iconst 1, 1) := by decide +kernel
theorem dX0_areNumbers_22 : decode cX0_areNumbers 22 = .ok (.goto 4, 3) := by decide +kernel
theorem dX0_areNumbers_25 : decode cX0_areNumbers 25 = .ok (.iconst 0, 1) := by decide +kernel
theorem dX0_areNumbers_26 : decode cX0_areNumbers 26 = .ok (.ireturn, 1) := by decide +kernel
set_option maxRecDepth 20000 in
theorem ggX0_areFirstNumbers_X0_isNumber : GoodIn wsX0_areFirstNumbers wsX0_isNumber := goodIn_r _ [4, 5] (by decide +kernel) (by decide +kernel)
set_option maxRecDepth 20000 in
theorem gX0_areFirstNumbers_X0_isNumber : GoodIn wsX0_areFirstNumbers (va_wsS RX0 96 yX0_isNumber wsX0_isNumber) := goodIn_app (goodIn_of _ (by decide +kernel)) ggX0_areFirstNumbers_X0_isNumber
theorem dX0_areFirstNumbers_0 : decode cX0_areFirstNumbers 0 = .ok (.iload_n 0, 1) := by decide +kernel
theorem dX0_areFirstNumbers_1 : decode cX0_areFirstNumbers 1 = .ok (.iconst 1, 1) := by decide +kernel
theorem dX0_areFirstNumbers_2 : decode cX0_areFirstNumbers 2 = .ok (.if_icmp .lt 10, 3) := by decide +kernel
theorem dX0_areFirstNumbers_5 : decode cX0_areFirstNumbers 5 = .ok (.iload_n 1, 1) := by decide +kernel
theorem dX0_areFirstNumbers_6 : decode cX0_areFirstNumbers 6 = .ok (.invokestatic 96, 3) := by decide +kernel
theorem dX0_areFirstNumbers_9 : decode cX0_areFirstNumbers 9 = .ok (.ifCond .eq 31, 3) := by decide +kernel
theorem dX0_areFirstNumbers_12 : decode cX0_areFirstNumbers 12 = .ok (.iload_n 0, 1) := by decide +kernel
theorem dX0_areFirstNumbers_13 : decode cX0_areFirstNumbers 13 = .ok (.iconst 2, 1) := by decide +kernel
theorem dX0_areFirstNumbers_14 : decode cX0_areFirstNumbers 14 = .ok (.if_icmp .lt 10, 3) := by decide +kernel
theorem dX0_areFirstNumbers_17 : decode cX0_areFirstNumbers 17 = .ok (.iload_n 2, 1) := by decide +kernel
theorem dX0_areFirstNumbers_18 : decode cX0_areFirstNumbers 18 = .ok (.invokestatic 96, 3) := by decide +kernel
theorem dX0_areFirstNumbers_21 : decode cX0_areFirstNumbers 21 = .ok (.ifCond .eq 19, 3) := by decide +kernel
theorem dX0_areFirstNumbers_24 : decode cX0_areFirstNumbers 24 = .ok (.iload_n 0, 1) := by decide +kernel
theorem dX0_areFirstNumbers_25 : decode cX0_areFirstNumbers 25 = .ok (.iconst 3, 1) := by decide +kernel
theorem dX0_areFirstNumbers_26 : decode cX0_areFirstNumbers 26 = .ok (.if_icmp .lt 10, 3) := by decide +kernel
theorem dX0_areFirstNumbers_29 : decode cX0_areFirstNumbers 29 = .ok (.iload_n 3, 1) := by decide +kernel
theorem dX0_areFirstNumbers_30 : decode cX0_areFirstNumbers 30 = .ok (.invokestatic 96, 3) := by decide +kernel
theorem dX0_areFirstNumbers_33 : decode cX0_areFirstNumbers 33 = .ok (.ifCond .eq 7, 3) := by decide +kernel
theorem dX0_areFirstNumbers_36 : decode cX0_areFirstNumbers 36 = .ok (.iconst 1, 1) := by decide +kernel
theorem dX0_areFirstNumbers_37 : decode cX0_areFirstNumbers 37 = .ok (.goto 4, 3) := by decide +kernel
theorem dX0_areFirstNumbers_40 : decode cX0_areFirstNumbers 40 = .ok (.iconst 0, 1) := by decide +kernel
theorem dX0_areFirstNumbers_41 : decode cX0_areFirstNumbers 41 = .ok (.ireturn, 1) := by decide +kernel
theorem dX0_shiftOf_0 : decode cX0_shiftOf 0 = .ok (.bipush 20, 2) := by decide +kernel
theorem dX0_shiftOf_2 : decode cX0_shiftOf 2 = .ok (.iconst 2, 1) := by decide +kernel
theorem dX0_shiftOf_3 : decode cX0_shiftOf 3 = .ok (.iload_n 0, 1) := by decide +kernel
theorem dX0_shiftOf_4 : decode cX0_shiftOf 4 = .ok (.isub, 1) := by decide +kernel
theorem dX0_shiftOf_5 : decode cX0_shiftOf 5 = .ok (.imul, 1) := by decide +kernel
theorem dX0_shiftOf_6 : decode cX0_shiftOf 6 = .ok (.ireturn, 1) := by decide +kernel
set_option maxRecDepth 20000 in
theorem ggX0_keyOf_X0_shiftOf : GoodIn wsX0_keyOf wsX0_shiftOf := goodIn_r _ [4] (by decide +kernel) (by decide +kernel)
set_option maxRecDepth 20000 in
theorem gX0_keyOf_X0_shiftOf : GoodIn wsX0_keyOf (va_wsS RX0 77 yX0_shiftOf wsX0_shiftOf) := goodIn_app (goodIn_of _ (by decide +kernel)) ggX0_keyOf_X0_shiftOf
theorem dX0_keyOf_0 : decode cX0_keyOf 0 = .ok (.iload_n 0, 1) := by decide +kernel
theorem dX0_keyOf_1 : decode cX0_keyOf 1 = .ok (.i2l, 1) := by decide +kernel
theorem dX0_keyOf_2 : decode cX0_keyOf 2 = .ok (.iconst 0, 1) := by decide +kernel
theorem dX0_keyOf_3 : decode cX0_keyOf 3 = .ok (.invokestatic 77, 3) := by decide +kernel
theorem dX0_keyOf_6 : decode cX0_keyOf 6 = .ok (.lshl, 1) := by decide +kernel
theorem dX0_keyOf_7 : decode cX0_keyOf 7 = .ok (.iload_n 1, 1) := by decide +kernel
theorem dX0_keyOf_8 : decode cX0_keyOf 8 = .ok (.i2l, 1) := by decide +kernel
theorem dX0_keyOf_9 : decode cX0_keyOf 9 = .ok (.iconst 1, 1) := by decide +kernel
theorem dX0_keyOf_10 : decode cX0_keyOf 10 = .ok (.invokestatic 77, 3) := by decide +kernel
theorem dX0_keyOf_13 : decode cX0_keyOf 13 = .ok (.lshl, 1) := by decide +kernel
theorem dX0_keyOf_14 : decode cX0_keyOf 14 = .ok (.lor, 1) := by decide +kernel
theorem dX0_keyOf_15 : decode cX0_keyOf 15 = .ok (.iload_n 2, 1) := by decide +kernel
theorem dX0_keyOf_16 : decode cX0_keyOf 16 = .ok (.i2l, 1) := by decide +kernel
theorem dX0_keyOf_17 : decode cX0_keyOf 17 = .ok (.lor, 1) := by decide +kernel
theorem dX0_keyOf_18 : decode cX0_keyOf 18 = .ok (.lreturn, 1) := by decide +kernel
set_option maxRecDepth 20000 in
theorem ggX0_keyOfTriple_X0_shiftOf : GoodIn wsX0_keyOfTriple wsX0_shiftOf := goodIn_r _ [7] (by decide +kernel) (by decide +kernel)
set_option maxRecDepth 20000 in
theorem gX0_keyOfTriple_X0_shiftOf : GoodIn wsX0_keyOfTriple (va_wsS RX0 77 yX0_shiftOf wsX0_shiftOf) := goodIn_app (goodIn_of _ (by decide +kernel)) ggX0_keyOfTriple_X0_shiftOf
theorem dX0_keyOfTriple_0 : decode cX0_keyOfTriple 0 = .ok (.iload_n 1, 1) := by decide +kernel
theorem dX0_keyOfTriple_1 : decode cX0_keyOfTriple 1 = .ok (.i2l, 1) := by decide +kernel
theorem dX0_keyOfTriple_2 : decode cX0_keyOfTriple 2 = .ok (.aload_n 0, 1) := by decide +kernel
theorem dX0_keyOfTriple_3 : decode cX0_keyOfTriple 3 = .ok (.getfield 19, 3) := by decide +kernel
theorem dX0_keyOfTriple_6 : decode cX0_keyOfTriple 6 = .ok (.invokestatic 77, 3) := by decide +kernel
theorem dX0_keyOfTriple_9 : decode cX0_keyOfTriple 9 = .ok (.lshl, 1) := by decide +kernel
theorem dX0_keyOfTriple_10 : decode cX0_keyOfTriple 10 = .ok (.iload_n 2, 1) := by decide +kernel
theorem dX0_keyOfTriple_11 : decode cX0_keyOfTriple 11 = .ok (.i2l, 1) := by decide +kernel
theorem dX0_keyOfTriple_12 : decode cX0_keyOfTriple 12 = .ok (.aload_n 0, 1) := by decide +kernel
theorem dX0_keyOfTriple_13 : decode cX0_keyOfTriple 13 = .ok (.getfield 23, 3) := by decide +kernel
theorem dX0_keyOfTriple_16 : decode cX0_keyOfTriple 16 = .ok (.invokestatic 77, 3) := by decide +kernel
theorem dX0_keyOfTriple_19 : decode cX0_keyOfTriple 19 = .ok (.lshl, 1) := by decide +kernel
theorem dX0_keyOfTriple_20 : decode cX0_keyOfTriple 20 = .ok (.lor, 1) := by decide +kernel
theorem dX0_keyOfTriple_21 : decode cX0_keyOfTriple 21 = .ok (.iload_n 3, 1) := by decide +kernel
theorem dX0_keyOfTriple_22 : decode cX0_keyOfTriple 22 = .ok (.i2l, 1) := by decide +kernel
theorem dX0_keyOfTriple_23 : decode cX0_keyOfTriple 23 = .ok (.aload_n 0, 1) := by decide +kernel
theorem dX0_keyOfTriple_24 : decode cX0_keyOfTriple 24 = .ok (.getfield 26, 3) := by decide +kernel
theorem dX0_keyOfTriple_27 : decode cX0_keyOfTriple 27 = .ok (.invokestatic 77, 3) := by decide +kernel
theorem dX0_keyOfTriple_30 : decode cX0_keyOfTriple 30 = .ok (.lshl, 1) := by decide +kernel
theorem dX0_keyOfTriple_31 : decode cX0_keyOfTriple 31 = .ok (.lor, 1) := by decide +kernel
theorem dX0_keyOfTriple_32 : decode cX0_keyOfTriple 32 = .ok (.lreturn, 1) := by decide +kernel
set_option maxRecDepth 20000 in
theorem ggX0_firstKey_X0_keyOf : GoodIn wsX0_firstKey wsX0_keyOf := goodIn_r _ [4, 5, 6, 3, 7] (by decide +kernel) (by decide +kernel)
set_option maxRecDepth 20000 in
theorem gX0_firstKey_X0_keyOf : GoodIn wsX0_firstKey (va_wsS RX0 85 yX0_keyOf wsX0_keyOf) := goodIn_app (goodIn_of _ (by decide +kernel)) ggX0_firstKey_X0_keyOf
theorem dX0_firstKey_0 : decode cX0_firstKey 0 = .ok (.iload_n 0, 1) := by decide +kernel
theorem dX0_firstKey_1 : decode cX0_firstKey 1 = .ok (.iconst 1, 1) := by decide +kernel
theorem dX0_firstKey_2 : decode cX0_firstKey 2 = .ok (.if_icmp .ge 7, 3) := by decide +kernel
theorem dX0_firstKey_5 : decode cX0_firstKey 5 = .ok (.iconst 0, 1) := by decide +kernel
theorem dX0_firstKey_6 : decode cX0_firstKey 6 = .ok (.goto 4, 3) := by decide +kernel
theorem dX0_firstKey_9 : decode cX0_firstKey 9 = .ok (.iload_n 1, 1) := by decide +kernel
theorem dX0_firstKey_10 : decode cX0_firstKey 10 = .ok (.iload_n 0, 1) := by decide +kernel
theorem dX0_firstKey_11 : decode cX0_firstKey 11 = .ok (.iconst 2, 1) := by decide +kernel
theorem dX0_firstKey_12 : decode cX0_firstKey 12 = .ok (.if_icmp .ge 7, 3) := by decide +kernel
theorem dX0_firstKey_15 : decode cX0_firstKey 15 = .ok (.iconst 0, 1) := by decide +kernel
theorem dX0_firstKey_16 : decode cX0_firstKey 16 = .ok (.goto 4, 3) := by decide +kernel
theorem dX0_firstKey_19 : decode cX0_firstKey 19 = .ok (.iload_n 2, 1) := by decide +kernel
theorem dX0_firstKey_20 : decode cX0_firstKey 20 = .ok (.iload_n 0, 1) := by decide +kernel
theorem dX0_firstKey_21 : decode cX0_firstKey 21 = .ok (.iconst 3, 1) := by decide +kernel
theorem dX0_firstKey_22 : decode cX0_firstKey 22 = .ok (.if_icmp .ge 7, 3) := by decide +kernel
theorem dX0_firstKey_25 : decode cX0_firstKey 25 = .ok (.iconst 0, 1) := by decide +kernel
theorem dX0_firstKey_26 : decode cX0_firstKey 26 = .ok (.goto 4, 3) := by decide +kernel
theorem dX0_firstKey_29 : decode cX0_firstKey 29 = .ok (.iload_n 3, 1) := by decide +kernel
theorem dX0_firstKey_30 : decode cX0_firstKey 30 = .ok (.invokestatic 85, 3) := by decide +kernel
theorem dX0_firstKey_33 : decode cX0_firstKey 33 = .ok (.lreturn, 1) := by decide +kernel
theorem dX0_keysInAll_0 : decode cX0_keysInAll 0 = .ok (.lconst 1, 1) := by decide +kernel
theorem dX0_keysInAll_1 : decode cX0_keysInAll 1 = .ok (.bipush 20, 2) := by decide +kernel
theorem dX0_keysInAll_3 : decode cX0_keysInAll 3 = .ok (.iconst 3, 1) := by decide +kernel
theorem dX0_keysInAll_4 : decode cX0_keysInAll 4 = .ok (.iload_n 0, 1) := by decide +kernel
theorem dX0_keysInAll_5 : decode cX0_keysInAll 5 = .ok (.isub, 1) := by decide +kernel
theorem dX0_keysInAll_6 : decode cX0_keysInAll 6 = .ok (.imul, 1) := by decide +kernel
theorem dX0_keysInAll_7 : decode cX0_keysInAll 7 = .ok (.lshl, 1) := by decide +kernel
theorem dX0_keysInAll_8 : decode cX0_keysInAll 8 = .ok (.lreturn, 1) := by decide +kernel
set_option maxRecDepth 20000 in
theorem ggX0_startOf_X0_areFirstNumbers : GoodIn wsX0_startOf wsX0_areFirstNumbers := goodIn_r _ [4, 5, 6, 3, 7, 8] (by decide +kernel) (by decide +kernel)
set_option maxRecDepth 20000 in
theorem gX0_startOf_X0_areFirstNumbers : GoodIn wsX0_startOf (va_wsS RX0 99 yX0_areFirstNumbers wsX0_areFirstNumbers) := goodIn_app (goodIn_of _ (by decide +kernel)) ggX0_startOf_X0_areFirstNumbers
set_option maxRecDepth 20000 in
theorem ggX0_startOf_X0_firstKey : GoodIn wsX0_startOf wsX0_firstKey := goodIn_r _ [11, 12, 13, 3, 14, 15, 16, 17] (by decide +kernel) (by decide +kernel)
set_option maxRecDepth 20000 in
theorem gX0_startOf_X0_firstKey : GoodIn wsX0_startOf (va_wsS RX0 103 yX0_firstKey wsX0_firstKey) := goodIn_app (goodIn_of _ (by decide +kernel)) ggX0_startOf_X0_firstKey
set_option maxRecDepth 20000 in
theorem ggX0_startOf_X0_keysBefore : GoodIn wsX0_startOf wsX0_keysBefore := goodIn_r _ [21, 22, 23, 24, 25, 26, 27, 28, 29] (by decide +kernel) (by decide +kernel)
set_option maxRecDepth 20000 in
theorem gX0_startOf_X0_keysBefore : GoodIn wsX0_startOf (wsV RX0 50 RX0 yX0_keysBefore wsX0_keysBefore) := goodIn_app (goodIn_of _ (by decide +kernel)) ggX0_startOf_X0_keysBefore
theorem dX0_startOf_0 : decode cX0_startOf 0 = .ok (.iload_n 1, 1) := by decide +kernel
theorem dX0_startOf_1 : decode cX0_startOf 1 = .ok (.iload_n 2, 1) := by decide +kernel
theorem dX0_startOf_2 : decode cX0_startOf 2 = .ok (.iload_n 3, 1) := by decide +kernel
theorem dX0_startOf_3 : decode cX0_startOf 3 = .ok (.iload 4, 2) := by decide +kernel
theorem dX0_startOf_5 : decode cX0_startOf 5 = .ok (.invokestatic 99, 3) := by decide +kernel
theorem dX0_startOf_8 : decode cX0_startOf 8 = .ok (.ifCond .eq 18, 3) := by decide +kernel
theorem dX0_startOf_11 : decode cX0_startOf 11 = .ok (.aload_n 0, 1) := by decide +kernel
theorem dX0_startOf_12 : decode cX0_startOf 12 = .ok (.iload_n 1, 1) := by decide +kernel
theorem dX0_startOf_13 : decode cX0_startOf 13 = .ok (.iload_n 2, 1) := by decide +kernel
theorem dX0_startOf_14 : decode cX0_startOf 14 = .ok (.iload_n 3, 1) := by decide +kernel
theorem dX0_startOf_15 : decode cX0_startOf 15 = .ok (.iload 4, 2) := by decide +kernel
theorem dX0_startOf_17 : decode cX0_startOf 17 = .ok (.invokestatic 103, 3) := by decide +kernel
theorem dX0_startOf_20 : decode cX0_startOf 20 = .ok (.invokevirtual 50, 3) := by decide +kernel
theorem dX0_startOf_23 : decode cX0_startOf 23 = .ok (.goto 4, 3) := by decide +kernel
theorem dX0_startOf_26 : decode cX0_startOf 26 = .ok (.iconst 0, 1) := by decide +kernel
theorem dX0_startOf_27 : decode cX0_startOf 27 = .ok (.ireturn, 1) := by decide +kernel
set_option maxRecDepth 20000 in
theorem ggX0_endOf_X0_areFirstNumbers : GoodIn wsX0_endOf wsX0_areFirstNumbers := goodIn_r _ [4, 5, 6, 3, 7, 8] (by decide +kernel) (by decide +kernel)
set_option maxRecDepth 20000 in
theorem gX0_endOf_X0_areFirstNumbers : GoodIn wsX0_endOf (va_wsS RX0 99 yX0_areFirstNumbers wsX0_areFirstNumbers) := goodIn_app (goodIn_of _ (by decide +kernel)) ggX0_endOf_X0_areFirstNumbers
set_option maxRecDepth 20000 in
theorem ggX0_endOf_X0_firstKey : GoodIn wsX0_endOf wsX0_firstKey := goodIn_r _ [11, 12, 13, 3, 14, 15, 16, 17] (by decide +kernel) (by decide +kernel)
set_option maxRecDepth 20000 in
theorem gX0_endOf_X0_firstKey : GoodIn wsX0_endOf (va_wsS RX0 103 yX0_firstKey wsX0_firstKey) := goodIn_app (goodIn_of _ (by decide +kernel)) ggX0_endOf_X0_firstKey
set_option maxRecDepth 20000 in
theorem ggX0_endOf_X0_keysInAll : GoodIn wsX0_endOf wsX0_keysInAll := goodIn_r _ [20] (by decide +kernel) (by decide +kernel)
set_option maxRecDepth 20000 in
theorem gX0_endOf_X0_keysInAll : GoodIn wsX0_endOf (va_wsS RX0 107 yX0_keysInAll wsX0_keysInAll) := goodIn_app (goodIn_of _ (by decide +kernel)) ggX0_endOf_X0_keysInAll
set_option maxRecDepth 20000 in
theorem ggX0_endOf_X0_keysBefore : GoodIn wsX0_endOf wsX0_keysBefore := goodIn_r _ [24, 25, 26, 27, 28, 29, 30, 31, 32] (by decide +kernel) (by decide +kernel)
set_option maxRecDepth 20000 in
theorem gX0_endOf_X0_keysBefore : GoodIn wsX0_endOf (wsV RX0 50 RX0 yX0_keysBefore wsX0_keysBefore) := goodIn_app (goodIn_of _ (by decide +kernel)) ggX0_endOf_X0_keysBefore
theorem dX0_endOf_0 : decode cX0_endOf 0 = .ok (.iload_n 1, 1) := by decide +kernel
theorem dX0_endOf_1 : decode cX0_endOf 1 = .ok (.iload_n 2, 1) := by decide +kernel
theorem dX0_endOf_2 : decode cX0_endOf 2 = .ok (.iload_n 3, 1) := by decide +kernel
theorem dX0_endOf_3 : decode cX0_endOf 3 = .ok (.iload 4, 2) := by decide +kernel
theorem dX0_endOf_5 : decode cX0_endOf 5 = .ok (.invokestatic 99, 3) := by decide +kernel
theorem dX0_endOf_8 : decode cX0_endOf 8 = .ok (.ifCond .eq 23, 3) := by decide +kernel
theorem dX0_endOf_11 : decode cX0_endOf 11 = .ok (.aload_n 0, 1) := by decide +kernel
theorem dX0_endOf_12 : decode cX0_endOf 12 = .ok (.iload_n 1, 1) := by decide +kernel
theorem dX0_endOf_13 : decode cX0_endOf 13 = .ok (.iload_n 2, 1) := by decide +kernel
theorem dX0_endOf_14 : decode cX0_endOf 14 = .ok (.iload_n 3, 1) := by decide +kernel
theorem dX0_endOf_15 : decode cX0_endOf 15 = .ok (.iload 4, 2) := by decide +kernel
theorem dX0_endOf_17 : decode cX0_endOf 17 = .ok (.invokestatic 103, 3) := by decide +kernel
theorem dX0_endOf_20 : decode cX0_endOf 20 = .ok (.iload_n 1, 1) := by decide +kernel
theorem dX0_endOf_21 : decode cX0_endOf 21 = .ok (.invokestatic 107, 3) := by decide +kernel
theorem dX0_endOf_24 : decode cX0_endOf 24 = .ok (.ladd, 1) := by decide +kernel
theorem dX0_endOf_25 : decode cX0_endOf 25 = .ok (.invokevirtual 50, 3) := by decide +kernel
theorem dX0_endOf_28 : decode cX0_endOf 28 = .ok (.goto 4, 3) := by decide +kernel
theorem dX0_endOf_31 : decode cX0_endOf 31 = .ok (.iconst 0, 1) := by decide +kernel
theorem dX0_endOf_32 : decode cX0_endOf 32 = .ok (.ireturn, 1) := by decide +kernel
theorem dX0_keysBefore_0 : decode cX0_keysBefore 0 = .ok (.iconst 0, 1) := by decide +kernel
theorem dX0_keysBefore_1 : decode cX0_keysBefore 1 = .ok (.istore_n 3, 1) := by decide +kernel
theorem dX0_keysBefore_2 : decode cX0_keysBefore 2 = .ok (.sipush 16384, 3) := by decide +kernel
theorem dX0_keysBefore_5 : decode cX0_keysBefore 5 = .ok (.istore 4, 2) := by decide +kernel
theorem dX0_keysBefore_7 : decode cX0_keysBefore 7 = .ok (.iload 4, 2) := by decide +kernel
theorem dX0_keysBefore_9 : decode cX0_keysBefore 9 = .ok (.ifCond .le 44, 3) := by decide +kernel
theorem dX0_keysBefore_12 : decode cX0_keysBefore 12 = .ok (.iload_n 3, 1) := by decide +kernel
theorem dX0_keysBefore_13 : decode cX0_keysBefore 13 = .ok (.iload 4, 2) := by decide +kernel
theorem dX0_keysBefore_15 : decode cX0_keysBefore 15 = .ok (.iadd, 1) := by decide +kernel
theorem dX0_keysBefore_16 : decode cX0_keysBefore 16 = .ok (.istore 5, 2) := by decide +kernel
theorem dX0_keysBefore_18 : decode cX0_keysBefore 18 = .ok (.iload 5, 2) := by decide +kernel
theorem dX0_keysBefore_20 : decode cX0_keysBefore 20 = .ok (.aload_n 0, 1) := by decide +kernel
theorem dX0_keysBefore_21 : decode cX0_keysBefore 21 = .ok (.getfield 33, 3) := by decide +kernel
theorem dX0_keysBefore_24 : decode cX0_keysBefore 24 = .ok (.if_icmp .gt 20, 3) := by decide +kernel
theorem dX0_keysBefore_27 : decode cX0_keysBefore 27 = .ok (.aload_n 0, 1) := by decide +kernel
theorem dX0_keysBefore_28 : decode cX0_keysBefore 28 = .ok (.getfield 29, 3) := by decide +kernel
theorem dX0_keysBefore_31 : decode cX0_keysBefore 31 = .ok (.iload 5, 2) := by decide +kernel
theorem dX0_keysBefore_33 : decode cX0_keysBefore 33 = .ok (.iconst 1, 1) := by decide +kernel
theorem dX0_keysBefore_34 : decode cX0_keysBefore 34 = .ok (.isub, 1) := by decide +kernel
theorem dX0_keysBefore_35 : decode cX0_keysBefore 35 = .ok (.laload, 1) := by decide +kernel
theorem dX0_keysBefore_36 : decode cX0_keysBefore 36 = .ok (.lload_n 1, 1) := by decide +kernel
theorem dX0_keysBefore_37 : decode cX0_keysBefore 37 = .ok (.lcmp, 1) := by decide +kernel
theorem dX0_keysBefore_38 : decode cX0_keysBefore 38 = .ok (.ifCond .ge 6, 3) := by decide +kernel
theorem dX0_keysBefore_41 : decode cX0_keysBefore 41 = .ok (.iload 5, 2) := by decide +kernel
theorem dX0_keysBefore_43 : decode cX0_keysBefore 43 = .ok (.istore_n 3, 1) := by decide +kernel
theorem dX0_keysBefore_44 : decode cX0_keysBefore 44 = .ok (.iload 4, 2) := by decide +kernel
theorem dX0_keysBefore_46 : decode cX0_keysBefore 46 = .ok (.iconst 2, 1) := by decide +kernel
theorem dX0_keysBefore_47 : decode cX0_keysBefore 47 = .ok (.idiv, 1) := by decide +kernel
theorem dX0_keysBefore_48 : decode cX0_keysBefore 48 = .ok (.istore 4, 2) := by decide +kernel
theorem dX0_keysBefore_50 : decode cX0_keysBefore 50 = .ok (.goto (-43), 3) := by decide +kernel
theorem dX0_keysBefore_53 : decode cX0_keysBefore 53 = .ok (.iload_n 3, 1) := by decide +kernel
theorem dX0_keysBefore_54 : decode cX0_keysBefore 54 = .ok (.ireturn, 1) := by decide +kernel
theorem dX0_isKeyAt_0 : decode cX0_isKeyAt 0 = .ok (.iload_n 1, 1) := by decide +kernel
theorem dX0_isKeyAt_1 : decode cX0_isKeyAt 1 = .ok (.ifCond .lt 26, 3) := by decide +kernel
theorem dX0_isKeyAt_4 : decode cX0_isKeyAt 4 = .ok (.iload_n 1, 1) := by decide +kernel
theorem dX0_isKeyAt_5 : decode cX0_isKeyAt 5 = .ok (.aload_n 0, 1) := by decide +kernel
theorem dX0_isKeyAt_6 : decode cX0_isKeyAt 6 = .ok (.getfield 33, 3) := by decide +kernel
theorem dX0_isKeyAt_9 : decode cX0_isKeyAt 9 = .ok (.if_icmp .ge 18, 3) := by decide +kernel
theorem dX0_isKeyAt_12 : decode cX0_isKeyAt 12 = .ok (.aload_n 0, 1) := by decide +kernel
theorem dX0_isKeyAt_13 : decode cX0_isKeyAt 13 = .ok (.getfield 29, 3) := by decide +kernel
theorem dX0_isKeyAt_16 : decode cX0_isKeyAt 16 = .ok (.iload_n 1, 1) := by decide +kernel
theorem dX0_isKeyAt_17 : decode cX0_isKeyAt 17 = .ok (.laload, 1) := by decide +kernel
theorem dX0_isKeyAt_18 : decode cX0_isKeyAt 18 = .ok (.lload_n 2, 1) := by decide +kernel
theorem dX0_isKeyAt_19 : decode cX0_isKeyAt 19 = .ok (.lcmp, 1) := by decide +kernel
theorem dX0_isKeyAt_20 : decode cX0_isKeyAt 20 = .ok (.ifCond .ne 7, 3) := by decide +kernel
theorem dX0_isKeyAt_23 : decode cX0_isKeyAt 23 = .ok (.iconst 1, 1) := by decide +kernel
theorem dX0_isKeyAt_24 : decode cX0_isKeyAt 24 = .ok (.goto 4, 3) := by decide +kernel
theorem dX0_isKeyAt_27 : decode cX0_isKeyAt 27 = .ok (.iconst 0, 1) := by decide +kernel
theorem dX0_isKeyAt_28 : decode cX0_isKeyAt 28 = .ok (.ireturn, 1) := by decide +kernel
set_option maxRecDepth 20000 in
theorem ggX0_isHeld_X0_keysBefore : GoodIn wsX0_isHeld wsX0_keysBefore := goodIn_r _ [5, 6, 7, 12, 13, 14, 15, 16, 17] (by decide +kernel) (by decide +kernel)
set_option maxRecDepth 20000 in
theorem gX0_isHeld_X0_keysBefore : GoodIn wsX0_isHeld (wsV RX0 50 RX0 yX0_keysBefore wsX0_keysBefore) := goodIn_app (goodIn_of _ (by decide +kernel)) ggX0_isHeld_X0_keysBefore
set_option maxRecDepth 20000 in
theorem ggX0_isHeld_X0_isKeyAt : GoodIn wsX0_isHeld wsX0_isKeyAt := goodIn_r _ [11, 6, 7, 12, 13, 14, 15, 16, 17] (by decide +kernel) (by decide +kernel)
set_option maxRecDepth 20000 in
theorem gX0_isHeld_X0_isKeyAt : GoodIn wsX0_isHeld (wsV RX0 54 RX0 yX0_isKeyAt wsX0_isKeyAt) := goodIn_app (goodIn_of _ (by decide +kernel)) ggX0_isHeld_X0_isKeyAt
theorem dX0_isHeld_0 : decode cX0_isHeld 0 = .ok (.aload_n 0, 1) := by decide +kernel
theorem dX0_isHeld_1 : decode cX0_isHeld 1 = .ok (.aload_n 0, 1) := by decide +kernel
theorem dX0_isHeld_2 : decode cX0_isHeld 2 = .ok (.lload_n 1, 1) := by decide +kernel
theorem dX0_isHeld_3 : decode cX0_isHeld 3 = .ok (.invokevirtual 50, 3) := by decide +kernel
theorem dX0_isHeld_6 : decode cX0_isHeld 6 = .ok (.lload_n 1, 1) := by decide +kernel
theorem dX0_isHeld_7 : decode cX0_isHeld 7 = .ok (.invokevirtual 54, 3) := by decide +kernel
theorem dX0_isHeld_10 : decode cX0_isHeld 10 = .ok (.ireturn, 1) := by decide +kernel
theorem dX0_beginnings_0 : decode cX0_beginnings 0 = .ok (.iconst 0, 1) := by decide +kernel
theorem dX0_beginnings_1 : decode cX0_beginnings 1 = .ok (.istore 4, 2) := by decide +kernel
theorem dX0_beginnings_3 : decode cX0_beginnings 3 = .ok (.ldc2_w 36, 3) := by decide +kernel
theorem dX0_beginnings_6 : decode cX0_beginnings 6 = .ok (.lstore 5, 2) := by decide +kernel
theorem dX0_beginnings_8 : decode cX0_beginnings 8 = .ok (.iload_n 1, 1) := by decide +kernel
theorem dX0_beginnings_9 : decode cX0_beginnings 9 = .ok (.istore 7, 2) := by decide +kernel
theorem dX0_beginnings_11 : decode cX0_beginnings 11 = .ok (.iload 7, 2) := by decide +kernel
theorem dX0_beginnings_13 : decode cX0_beginnings 13 = .ok (.iload_n 2, 1) := by decide +kernel
theorem dX0_beginnings_14 : decode cX0_beginnings 14 = .ok (.if_icmp .ge 35, 3) := by decide +kernel
theorem dX0_beginnings_17 : decode cX0_beginnings 17 = .ok (.aload_n 0, 1) := by decide +kernel
theorem dX0_beginnings_18 : decode cX0_beginnings 18 = .ok (.getfield 29, 3) := by decide +kernel
theorem dX0_beginnings_21 : decode cX0_beginnings 21 = .ok (.iload 7, 2) := by decide +kernel
theorem dX0_beginnings_23 : decode cX0_beginnings 23 = .ok (.laload, 1) := by decide +kernel
theorem dX0_beginnings_24 : decode cX0_beginnings 24 = .ok (.iload_n 3, 1) := by decide +kernel
theorem dX0_beginnings_25 : decode cX0_beginnings 25 = .ok (.lshr, 1) := by decide +kernel
theorem dX0_beginnings_26 : decode cX0_beginnings 26 = .ok (.lstore 8, 2) := by decide +kernel
theorem dX0_beginnings_28 : decode cX0_beginnings 28 = .ok (.lload 8, 2) := by decide +kernel
theorem dX0_beginnings_30 : decode cX0_beginnings 30 = .ok (.lload 5, 2) := by decide +kernel
theorem dX0_beginnings_32 : decode cX0_beginnings 32 = .ok (.lcmp, 1) := by decide +kernel
theorem dX0_beginnings_33 : decode cX0_beginnings 33 = .ok (.ifCond .eq 10, 3) := by decide +kernel
theorem dX0_beginnings_36 : decode cX0_beginnings 36 = .ok (.iinc 4 1, 3) := by decide +kernel
theorem dX0_beginnings_39 : decode cX0_beginnings 39 = .ok (.lload 8, 2) := by decide +kernel
theorem dX0_beginnings_41 : decode cX0_beginnings 41 = .ok (.lstore 5, 2) := by decide +kernel
theorem dX0_beginnings_43 : decode cX0_beginnings 43 = .ok (.iinc 7 1, 3) := by decide +kernel
theorem dX0_beginnings_46 : decode cX0_beginnings 46 = .ok (.goto (-35), 3) := by decide +kernel
theorem dX0_beginnings_49 : decode cX0_beginnings 49 = .ok (.iload 4, 2) := by decide +kernel
theorem dX0_beginnings_51 : decode cX0_beginnings 51 = .ok (.ireturn, 1) := by decide +kernel
set_option maxRecDepth 20000 in
theorem ggX0_putIn_J7_copyOf_c38d5 : GoodIn wsX0_putIn wsJ7_copyOf_c38d5 := goodIn_r _ [14, 15, 16, 17, 18, 19, 20, 21, 22, 4, 5, 6, 23, 8, 9, 10] (by decide +kernel) (by decide +kernel)
set_option maxRecDepth 20000 in
theorem gX0_putIn_J7_copyOf_c38d5 : GoodIn wsX0_putIn (va_wsS RX0 114 yJ7_copyOf_c38d5 wsJ7_copyOf_c38d5) := goodIn_app (goodIn_of _ (by decide +kernel)) ggX0_putIn_J7_copyOf_c38d5
theorem dX0_putIn_0 : decode cX0_putIn 0 = .ok (.aload_n 0, 1) := by decide +kernel
theorem dX0_putIn_1 : decode cX0_putIn 1 = .ok (.getfield 33, 3) := by decide +kernel
theorem dX0_putIn_4 : decode cX0_putIn 4 = .ok (.aload_n 0, 1) := by decide +kernel
theorem dX0_putIn_5 : decode cX0_putIn 5 = .ok (.getfield 29, 3) := by decide +kernel
theorem dX0_putIn_8 : decode cX0_putIn 8 = .ok (.arraylength, 1) := by decide +kernel
theorem dX0_putIn_9 : decode cX0_putIn 9 = .ok (.if_icmp .ne 26, 3) := by decide +kernel
theorem dX0_putIn_12 : decode cX0_putIn 12 = .ok (.aload_n 0, 1) := by decide +kernel
theorem dX0_putIn_13 : decode cX0_putIn 13 = .ok (.aload_n 0, 1) := by decide +kernel
theorem dX0_putIn_14 : decode cX0_putIn 14 = .ok (.getfield 29, 3) := by decide +kernel
theorem dX0_putIn_17 : decode cX0_putIn 17 = .ok (.iconst 2, 1) := by decide +kernel
theorem dX0_putIn_18 : decode cX0_putIn 18 = .ok (.aload_n 0, 1) := by decide +kernel
theorem dX0_putIn_19 : decode cX0_putIn 19 = .ok (.getfield 33, 3) := by decide +kernel
theorem dX0_putIn_22 : decode cX0_putIn 22 = .ok (.imul, 1) := by decide +kernel
theorem dX0_putIn_23 : decode cX0_putIn 23 = .ok (.sipush 20000, 3) := by decide +kernel
theorem dX0_putIn_26 : decode cX0_putIn 26 = .ok (.invokestatic 111, 3) := by decide +kernel
theorem dX0_putIn_29 : decode cX0_putIn 29 = .ok (.invokestatic 114, 3) := by decide +kernel
theorem dX0_putIn_32 : decode cX0_putIn 32 = .ok (.putfield 29, 3) := by decide +kernel
theorem dX0_putIn_35 : decode cX0_putIn 35 = .ok (.aload_n 0, 1) := by decide +kernel
theorem dX0_putIn_36 : decode cX0_putIn 36 = .ok (.getfield 29, 3) := by decide +kernel
theorem dX0_putIn_39 : decode cX0_putIn 39 = .ok (.iload_n 1, 1) := by decide +kernel
theorem dX0_putIn_40 : decode cX0_putIn 40 = .ok (.aload_n 0, 1) := by decide +kernel
theorem dX0_putIn_41 : decode cX0_putIn 41 = .ok (.getfield 29, 3) := by decide +kernel
theorem dX0_putIn_44 : decode cX0_putIn 44 = .ok (.iload_n 1, 1) := by decide +kernel
theorem dX0_putIn_45 : decode cX0_putIn 45 = .ok (.iconst 1, 1) := by decide +kernel
theorem dX0_putIn_46 : decode cX0_putIn 46 = .ok (.iadd, 1) := by decide +kernel
theorem dX0_putIn_47 : decode cX0_putIn 47 = .ok (.aload_n 0, 1) := by decide +kernel
theorem dX0_putIn_48 : decode cX0_putIn 48 = .ok (.getfield 33, 3) := by decide +kernel
theorem dX0_putIn_51 : decode cX0_putIn 51 = .ok (.iload_n 1, 1) := by decide +kernel
theorem dX0_putIn_52 : decode cX0_putIn 52 = .ok (.isub, 1) := by decide +kernel
theorem dX0_putIn_53 : decode cX0_putIn 53 = .ok (.invokestatic 120, 3) := by decide +kernel
theorem dX0_putIn_56 : decode cX0_putIn 56 = .ok (.aload_n 0, 1) := by decide +kernel
theorem dX0_putIn_57 : decode cX0_putIn 57 = .ok (.getfield 29, 3) := by decide +kernel
theorem dX0_putIn_60 : decode cX0_putIn 60 = .ok (.iload_n 1, 1) := by decide +kernel
theorem dX0_putIn_61 : decode cX0_putIn 61 = .ok (.lload_n 2, 1) := by decide +kernel
theorem dX0_putIn_62 : decode cX0_putIn 62 = .ok (.lastore, 1) := by decide +kernel
theorem dX0_putIn_63 : decode cX0_putIn 63 = .ok (.aload_n 0, 1) := by decide +kernel
theorem dX0_putIn_64 : decode cX0_putIn 64 = .ok (.dup, 1) := by decide +kernel
theorem dX0_putIn_65 : decode cX0_putIn 65 = .ok (.getfield 33, 3) := by decide +kernel
theorem dX0_putIn_68 : decode cX0_putIn 68 = .ok (.iconst 1, 1) := by decide +kernel
theorem dX0_putIn_69 : decode cX0_putIn 69 = .ok (.iadd, 1) := by decide +kernel
theorem dX0_putIn_70 : decode cX0_putIn 70 = .ok (.putfield 33, 3) := by decide +kernel
theorem dX0_putIn_73 : decode cX0_putIn 73 = .ok (.return_, 1) := by decide +kernel
theorem dX0_takeOut_0 : decode cX0_takeOut 0 = .ok (.aload_n 0, 1) := by decide +kernel
theorem dX0_takeOut_1 : decode cX0_takeOut 1 = .ok (.getfield 29, 3) := by decide +kernel
theorem dX0_takeOut_4 : decode cX0_takeOut 4 = .ok (.iload_n 2, 1) := by decide +kernel
theorem dX0_takeOut_5 : decode cX0_takeOut 5 = .ok (.aload_n 0, 1) := by decide +kernel
theorem dX0_takeOut_6 : decode cX0_takeOut 6 = .ok (.getfield 29, 3) := by decide +kernel
theorem dX0_takeOut_9 : decode cX0_takeOut 9 = .ok (.iload_n 1, 1) := by decide +kernel
theorem dX0_takeOut_10 : decode cX0_takeOut 10 = .ok (.aload_n 0, 1) := by decide +kernel
theorem dX0_takeOut_11 : decode cX0_takeOut 11 = .ok (.getfield 33, 3) := by decide +kernel
theorem dX0_takeOut_14 : decode cX0_takeOut 14 = .ok (.iload_n 2, 1) := by decide +kernel
theorem dX0_takeOut_15 : decode cX0_takeOut 15 = .ok (.isub, 1) := by decide +kernel
theorem dX0_takeOut_16 : decode cX0_takeOut 16 = .ok (.invokestatic 120, 3) := by decide +kernel
theorem dX0_takeOut_19 : decode cX0_takeOut 19 = .ok (.aload_n 0, 1) := by decide +kernel
theorem dX0_takeOut_20 : decode cX0_takeOut 20 = .ok (.dup, 1) := by decide +kernel
theorem dX0_takeOut_21 : decode cX0_takeOut 21 = .ok (.getfield 33, 3) := by decide +kernel
theorem dX0_takeOut_24 : decode cX0_takeOut 24 = .ok (.iload_n 2, 1) := by decide +kernel
theorem dX0_takeOut_25 : decode cX0_takeOut 25 = .ok (.iload_n 1, 1) := by decide +kernel
theorem dX0_takeOut_26 : decode cX0_takeOut 26 = .ok (.isub, 1) := by decide +kernel
theorem dX0_takeOut_27 : decode cX0_takeOut 27 = .ok (.isub, 1) := by decide +kernel
theorem dX0_takeOut_28 : decode cX0_takeOut 28 = .ok (.putfield 33, 3) := by decide +kernel
theorem dX0_takeOut_31 : decode cX0_takeOut 31 = .ok (.return_, 1) := by decide +kernel
theorem dX0_standAt_0 : decode cX0_standAt 0 = .ok (.iload_n 1, 1) := by decide +kernel
theorem dX0_standAt_1 : decode cX0_standAt 1 = .ok (.ifCond .lt 15, 3) := by decide +kernel
theorem dX0_standAt_4 : decode cX0_standAt 4 = .ok (.iload_n 1, 1) := by decide +kernel
theorem dX0_standAt_5 : decode cX0_standAt 5 = .ok (.aload_n 0, 1) := by decide +kernel
theorem dX0_standAt_6 : decode cX0_standAt 6 = .ok (.getfield 33, 3) := by decide +kernel
theorem dX0_standAt_9 : decode cX0_standAt 9 = .ok (.if_icmp .ge 7, 3) := by decide +kernel
theorem dX0_standAt_12 : decode cX0_standAt 12 = .ok (.iconst 1, 1) := by decide +kernel
theorem dX0_standAt_13 : decode cX0_standAt 13 = .ok (.goto 4, 3) := by decide +kernel
theorem dX0_standAt_16 : decode cX0_standAt 16 = .ok (.iconst 0, 1) := by decide +kernel
theorem dX0_standAt_17 : decode cX0_standAt 17 = .ok (.istore_n 2, 1) := by decide +kernel
theorem dX0_standAt_18 : decode cX0_standAt 18 = .ok (.aload_n 0, 1) := by decide +kernel
theorem dX0_standAt_19 : decode cX0_standAt 19 = .ok (.iload_n 2, 1) := by decide +kernel
theorem dX0_standAt_20 : decode cX0_standAt 20 = .ok (.ifCond .eq 12, 3) := by decide +kernel
theorem dX0_standAt_23 : decode cX0_standAt 23 = .ok (.aload_n 0, 1) := by decide +kernel
theorem dX0_standAt_24 : decode cX0_standAt 24 = .ok (.getfield 29, 3) := by decide +kernel
theorem dX0_standAt_27 : decode cX0_standAt 27 = .ok (.iload_n 1, 1) := by decide +kernel
theorem dX0_standAt_28 : decode cX0_standAt 28 = .ok (.laload, 1) := by decide +kernel
theorem dX0_standAt_29 : decode cX0_standAt 29 = .ok (.goto 6, 3) := by decide +kernel
theorem dX0_standAt_32 : decode cX0_standAt 32 = .ok (.ldc2_w 36, 3) := by decide +kernel
theorem dX0_standAt_35 : decode cX0_standAt 35 = .ok (.putfield 38, 3) := by decide +kernel
theorem dX0_standAt_38 : decode cX0_standAt 38 = .ok (.iload_n 2, 1) := by decide +kernel
theorem dX0_standAt_39 : decode cX0_standAt 39 = .ok (.ireturn, 1) := by decide +kernel
set_option maxRecDepth 20000 in
theorem ggX0_cursorNumber_X0_shiftOf : GoodIn wsX0_cursorNumber wsX0_shiftOf := goodIn_r _ [6] (by decide +kernel) (by decide +kernel)
set_option maxRecDepth 20000 in
theorem gX0_cursorNumber_X0_shiftOf : GoodIn wsX0_cursorNumber (va_wsS RX0 77 yX0_shiftOf wsX0_shiftOf) := goodIn_app (goodIn_of _ (by decide +kernel)) ggX0_cursorNumber_X0_shiftOf
theorem dX0_cursorNumber_0 : decode cX0_cursorNumber 0 = .ok (.aload_n 0, 1) := by decide +kernel
theorem dX0_cursorNumber_1 : decode cX0_cursorNumber 1 = .ok (.getfield 38, 3) := by decide +kernel
theorem dX0_cursorNumber_4 : decode cX0_cursorNumber 4 = .ok (.iload_n 1, 1) := by decide +kernel
theorem dX0_cursorNumber_5 : decode cX0_cursorNumber 5 = .ok (.invokestatic 77, 3) := by decide +kernel
theorem dX0_cursorNumber_8 : decode cX0_cursorNumber 8 = .ok (.lshr, 1) := by decide +kernel
theorem dX0_cursorNumber_9 : decode cX0_cursorNumber 9 = .ok (.l2i, 1) := by decide +kernel
theorem dX0_cursorNumber_10 : decode cX0_cursorNumber 10 = .ok (.ldc 95, 2) := by decide +kernel
theorem dX0_cursorNumber_12 : decode cX0_cursorNumber 12 = .ok (.iand, 1) := by decide +kernel
theorem dX0_cursorNumber_13 : decode cX0_cursorNumber 13 = .ok (.ireturn, 1) := by decide +kernel
set_option maxRecDepth 20000 in
theorem ggX1_init_J9_floorMod_7cf53 : GoodIn wsX1_init wsJ9_floorMod_7cf53 := goodIn_r _ [12] (by decide +kernel) (by decide +kernel)
set_option maxRecDepth 20000 in
theorem gX1_init_J9_floorMod_7cf53 : GoodIn wsX1_init (va_wsS RX1 19 yJ9_floorMod_7cf53 wsJ9_floorMod_7cf53) := goodIn_app (goodIn_of _ (by decide +kernel)) ggX1_init_J9_floorMod_7cf53
theorem dX1_init_0 : decode cX1_init 0 = .ok (.aload_n 0, 1) := by decide +kernel
theorem dX1_init_1 : decode cX1_init 1 = .ok (.invokespecial 1, 3) := by decide +kernel
theorem dX1_init_4 : decode cX1_init 4 = .ok (.aload_n 0, 1) := by decide +kernel
theorem dX1_init_5 : decode cX1_init 5 = .ok (.sipush 20000, 3) := by decide +kernel
theorem dX1_init_8 : decode cX1_init 8 = .ok (.newarray .long, 2) := by decide +kernel
theorem dX1_init_10 : decode cX1_init 10 = .ok (.putfield 7, 3) := by decide +kernel
theorem dX1_init_13 : decode cX1_init 13 = .ok (.aload_n 0, 1) := by decide +kernel
theorem dX1_init_14 : decode cX1_init 14 = .ok (.ldc2_w 13, 3) := by decide +kernel
theorem dX1_init_17 : decode cX1_init 17 = .ok (.putfield 15, 3) := by decide +kernel
theorem dX1_init_20 : decode cX1_init 20 = .ok (.aload_n 0, 1) := by decide +kernel
theorem dX1_init_21 : decode cX1_init 21 = .ok (.iload_n 1, 1) := by decide +kernel
theorem dX1_init_22 : decode cX1_init 22 = .ok (.bipush 6, 2) := by decide +kernel
theorem dX1_init_24 : decode cX1_init 24 = .ok (.invokestatic 19, 3) := by decide +kernel
theorem dX1_init_27 : decode cX1_init 27 = .ok (.putfield 25, 3) := by decide +kernel
theorem dX1_init_30 : decode cX1_init 30 = .ok (.return_, 1) := by decide +kernel
theorem dX1_isNumber_0 : decode cX1_isNumber 0 = .ok (.iload_n 0, 1) := by decide +kernel
theorem dX1_isNumber_1 : decode cX1_isNumber 1 = .ok (.ifCond .lt 13, 3) := by decide +kernel
theorem dX1_isNumber_4 : decode cX1_isNumber 4 = .ok (.iload_n 0, 1) := by decide +kernel
theorem dX1_isNumber_5 : decode cX1_isNumber 5 = .ok (.ldc 29, 2) := by decide +kernel
theorem dX1_isNumber_7 : decode cX1_isNumber 7 = .ok (.if_icmp .ge 7, 3) := by decide +kernel
theorem dX1_isNumber_10 : decode cX1_isNumber 10 = .ok (.iconst 1, 1) := by decide +kernel
theorem dX1_isNumber_11 : decode cX1_isNumber 11 = .ok (.goto 4, 3) := by decide +kernel
theorem dX1_isNumber_14 : decode cX1_isNumber 14 = .ok (.iconst 0, 1) := by decide +kernel
theorem dX1_isNumber_15 : decode cX1_isNumber 15 = .ok (.ireturn, 1) := by decide +kernel
set_option maxRecDepth 20000 in
theorem ggX1_areNumbers_X1_isNumber : GoodIn wsX1_areNumbers wsX1_isNumber := goodIn_r _ [4, 5] (by decide +kernel) (by decide +kernel)
set_option maxRecDepth 20000 in
theorem gX1_areNumbers_X1_isNumber : GoodIn wsX1_areNumbers (va_wsS RX1 30 yX1_isNumber wsX1_isNumber) := goodIn_app (goodIn_of _ (by decide +kernel)) ggX1_areNumbers_X1_isNumber
theorem dX1_areNumbers_0 : decode cX1_areNumbers 0 = .ok (.iload_n 0, 1) := by decide +kernel
theorem dX1_areNumbers_1 : decode cX1_areNumbers 1 = .ok (.iconst 1, 1) := by decide +kernel
theorem dX1_areNumbers_2 : decode cX1_areNumbers 2 = .ok (.if_icmp .lt 10, 3) := by decide +kernel
theorem dX1_areNumbers_5 : decode cX1_areNumbers 5 = .ok (.iload_n 1, 1) := by decide +kernel
theorem dX1_areNumbers_6 : decode cX1_areNumbers 6 = .ok (.invokestatic 30, 3) := by decide +kernel
theorem dX1_areNumbers_9 : decode cX1_areNumbers 9 = .ok (.ifCond .eq 31, 3) := by decide +kernel
theorem dX1_areNumbers_12 : decode cX1_areNumbers 12 = .ok (.iload_n 0, 1) := by decide +kernel
theorem dX1_areNumbers_13 : decode cX1_areNumbers 13 = .ok (.iconst 2, 1) := by decide +kernel
theorem dX1_areNumbers_14 : decode cX1_areNumbers 14 = .ok (.if_icmp .lt 10, 3) := by decide +kernel
theorem dX1_areNumbers_17 : decode cX1_areNumbers 17 = .ok (.iload_n 2, 1) := by decide +kernel
theorem dX1_areNumbers_18 : decode cX1_areNumbers 18 = .ok (.invokestatic 30, 3) := by decide +kernel
theorem dX1_areNumbers_21 : decode cX1_areNumbers 21 = .ok (.ifCond .eq 19, 3) := by decide +kernel
theorem dX1_areNumbers_24 : decode cX1_areNumbers 24 = .ok (.iload_n 0, 1) := by decide +kernel
theorem dX1_areNumbers_25 : decode cX1_areNumbers 25 = .ok (.iconst 3, 1) := by decide +kernel
theorem dX1_areNumbers_26 : decode cX1_areNumbers 26 = .ok (.if_icmp .lt 10, 3) := by decide +kernel
theorem dX1_areNumbers_29 : decode cX1_areNumbers 29 = .ok (.iload_n 3, 1) := by decide +kernel
theorem dX1_areNumbers_30 : decode cX1_areNumbers 30 = .ok (.invokestatic 30, 3) := by decide +kernel
theorem dX1_areNumbers_33 : decode cX1_areNumbers 33 = .ok (.ifCond .eq 7, 3) := by decide +kernel
theorem dX1_areNumbers_36 : decode cX1_areNumbers 36 = .ok (.iconst 1, 1) := by decide +kernel
theorem dX1_areNumbers_37 : decode cX1_areNumbers 37 = .ok (.goto 4, 3) := by decide +kernel
theorem dX1_areNumbers_40 : decode cX1_areNumbers 40 = .ok (.iconst 0, 1) := by decide +kernel
theorem dX1_areNumbers_41 : decode cX1_areNumbers 41 = .ok (.ireturn, 1) := by decide +kernel
theorem dX1_packed_0 : decode cX1_packed 0 = .ok (.lload_n 0, 1) := by decide +kernel
theorem dX1_packed_1 : decode cX1_packed 1 = .ok (.ldc2_w 34, 3) := by decide +kernel
theorem dX1_packed_4 : decode cX1_packed 4 = .ok (.lmul, 1) := by decide +kernel
theorem dX1_packed_5 : decode cX1_packed 5 = .ok (.lload_n 2, 1) := by decide +kernel
theorem dX1_packed_6 : decode cX1_packed 6 = .ok (.ladd, 1) := by decide +kernel
theorem dX1_packed_7 : decode cX1_packed 7 = .ok (.ldc2_w 34, 3) := by decide +kernel
theorem dX1_packed_10 : decode cX1_packed 10 = .ok (.lmul, 1) := by decide +kernel
theorem dX1_packed_11 : decode cX1_packed 11 = .ok (.lload 4, 2) := by decide +kernel
theorem dX1_packed_13 : decode cX1_packed 13 = .ok (.ladd, 1) := by decide +kernel
theorem dX1_packed_14 : decode cX1_packed 14 = .ok (.lreturn, 1) := by decide +kernel
set_option maxRecDepth 20000 in
theorem ggX1_key_X1_packed : GoodIn wsX1_key wsX1_packed := goodIn_r _ [5, 6] (by decide +kernel) (by decide +kernel)
set_option maxRecDepth 20000 in
theorem gX1_key_X1_packed : GoodIn wsX1_key (va_wsS RX1 36 yX1_packed wsX1_packed) := goodIn_app (goodIn_of _ (by decide +kernel)) ggX1_key_X1_packed
theorem dX1_key_0 : decode cX1_key 0 = .ok (.aload_n 0, 1) := by decide +kernel
theorem dX1_key_1 : decode cX1_key 1 = .ok (.getfield 25, 3) := by decide +kernel
theorem dX1_key_4 : decode cX1_key 4 = .ok (.tableswitch 86 0 4 #[36, 46, 56, 66, 76], 36) := by decide +kernel
theorem dX1_key_40 : decode cX1_key 40 = .ok (.iload_n 1, 1) := by decide +kernel
theorem dX1_key_41 : decode cX1_key 41 = .ok (.i2l, 1) := by decide +kernel
theorem dX1_key_42 : decode cX1_key 42 = .ok (.iload_n 2, 1) := by decide +kernel
theorem dX1_key_43 : decode cX1_key 43 = .ok (.i2l, 1) := by decide +kernel
theorem dX1_key_44 : decode cX1_key 44 = .ok (.iload_n 3, 1) := by decide +kernel
theorem dX1_key_45 : decode cX1_key 45 = .ok (.i2l, 1) := by decide +kernel
theorem dX1_key_46 : decode cX1_key 46 = .ok (.invokestatic 36, 3) := by decide +kernel
theorem dX1_key_49 : decode cX1_key 49 = .ok (.lreturn, 1) := by decide +kernel
theorem dX1_key_50 : decode cX1_key 50 = .ok (.iload_n 1, 1) := by decide +kernel
theorem dX1_key_51 : decode cX1_key 51 = .ok (.i2l, 1) := by decide +kernel
theorem dX1_key_52 : decode cX1_key 52 = .ok (.iload_n 3, 1) := by decide +kernel
theorem dX1_key_53 : decode cX1_key 53 = .ok (.i2l, 1) := by decide +kernel
theorem dX1_key_54 : decode cX1_key 54 = .ok (.iload_n 2, 1) := by decide +kernel
theorem dX1_key_55 : decode cX1_key 55 = .ok (.i2l, 1) := by decide +kernel
theorem dX1_key_56 : decode cX1_key 56 = .ok (.invokestatic 36, 3) := by decide +kernel
theorem dX1_key_59 : decode cX1_key 59 = .ok (.lreturn, 1) := by decide +kernel
theorem dX1_key_60 : decode cX1_key 60 = .ok (.iload_n 2, 1) := by decide +kernel
theorem dX1_key_61 : decode cX1_key 61 = .ok (.i2l, 1) := by decide +kernel
theorem dX1_key_62 : decode cX1_key 62 = .ok (.iload_n 1, 1) := by decide +kernel
theorem dX1_key_63 : decode cX1_key 63 = .ok (.i2l, 1) := by decide +kernel
theorem dX1_key_64 : decode cX1_key 64 = .ok (.iload_n 3, 1) := by decide +kernel
theorem dX1_key_65 : decode cX1_key 65 = .ok (.i2l, 1) := by decide +kernel
theorem dX1_key_66 : decode cX1_key 66 = .ok (.invokestatic 36, 3) := by decide +kernel
theorem dX1_key_69 : decode cX1_key 69 = .ok (.lreturn, 1) := by decide +kernel
theorem dX1_key_70 : decode cX1_key 70 = .ok (.iload_n 2, 1) := by decide +kernel
theorem dX1_key_71 : decode cX1_key 71 = .ok (.i2l, 1) := by decide +kernel
theorem dX1_key_72 : decode cX1_key 72 = .ok (.iload_n 3, 1) := by decide +kernel
theorem dX1_key_73 : decode cX1_key 73 = .ok (.i2l, 1) := by decide +kernel
theorem dX1_key_74 : decode cX1_key 74 = .ok (.iload_n 1, 1) := by decide +kernel
theorem dX1_key_75 : decode cX1_key 75 = .ok (.i2l, 1) := by decide +kernel
theorem dX1_key_76 : decode cX1_key 76 = .ok (.invokestatic 36, 3) := by decide +kernel
theorem dX1_key_79 : decode cX1_key 79 = .ok (.lreturn, 1) := by decide +kernel
theorem dX1_key_80 : decode cX1_key 80 = .ok (.iload_n 3, 1) := by decide +kernel
theorem dX1_key_81 : decode cX1_key 81 = .ok (.i2l, 1) := by decide +kernel
theorem dX1_key_82 : decode cX1_key 82 = .ok (.iload_n 1, 1) := by decide +kernel
theorem dX1_key_83 : decode cX1_key 83 = .ok (.i2l, 1) := by decide +kernel
theorem dX1_key_84 : decode cX1_key 84 = .ok (.iload_n 2, 1) := by decide +kernel
theorem dX1_key_85 : decode cX1_key 85 = .ok (.i2l, 1) := by decide +kernel
theorem dX1_key_86 : decode cX1_key 86 = .ok (.invokestatic 36, 3) := by decide +kernel
theorem dX1_key_89 : decode cX1_key 89 = .ok (.lreturn, 1) := by decide +kernel
theorem dX1_key_90 : decode cX1_key 90 = .ok (.iload_n 3, 1) := by decide +kernel
theorem dX1_key_91 : decode cX1_key 91 = .ok (.i2l, 1) := by decide +kernel
theorem dX1_key_92 : decode cX1_key 92 = .ok (.iload_n 2, 1) := by decide +kernel
theorem dX1_key_93 : decode cX1_key 93 = .ok (.i2l, 1) := by decide +kernel
theorem dX1_key_94 : decode cX1_key 94 = .ok (.iload_n 1, 1) := by decide +kernel
theorem dX1_key_95 : decode cX1_key 95 = .ok (.i2l, 1) := by decide +kernel
theorem dX1_key_96 : decode cX1_key 96 = .ok (.invokestatic 36, 3) := by decide +kernel
theorem dX1_key_99 : decode cX1_key 99 = .ok (.lreturn, 1) := by decide +kernel
theorem dX1_below_0 : decode cX1_below 0 = .ok (.iconst 0, 1) := by decide +kernel
theorem dX1_below_1 : decode cX1_below 1 = .ok (.istore_n 3, 1) := by decide +kernel
theorem dX1_below_2 : decode cX1_below 2 = .ok (.iload_n 3, 1) := by decide +kernel
theorem dX1_below_3 : decode cX1_below 3 = .ok (.aload_n 0, 1) := by decide +kernel
theorem dX1_below_4 : decode cX1_below 4 = .ok (.getfield 40, 3) := by decide +kernel
theorem dX1_below_7 : decode cX1_below 7 = .ok (.if_icmp .ge 20, 3) := by decide +kernel
theorem dX1_below_10 : decode cX1_below 10 = .ok (.aload_n 0, 1) := by decide +kernel
theorem dX1_below_11 : decode cX1_below 11 = .ok (.getfield 7, 3) := by decide +kernel
theorem dX1_below_14 : decode cX1_below 14 = .ok (.iload_n 3, 1) := by decide +kernel
theorem dX1_below_15 : decode cX1_below 15 = .ok (.laload, 1) := by decide +kernel
theorem dX1_below_16 : decode cX1_below 16 = .ok (.lload_n 1, 1) := by decide +kernel
theorem dX1_below_17 : decode cX1_below 17 = .ok (.lcmp, 1) := by decide +kernel
theorem dX1_below_18 : decode cX1_below 18 = .ok (.ifCond .ge 9, 3) := by decide +kernel
theorem dX1_below_21 : decode cX1_below 21 = .ok (.iinc 3 1, 3) := by decide +kernel
theorem dX1_below_24 : decode cX1_below 24 = .ok (.goto (-22), 3) := by decide +kernel
theorem dX1_below_27 : decode cX1_below 27 = .ok (.iload_n 3, 1) := by decide +kernel
theorem dX1_below_28 : decode cX1_below 28 = .ok (.ireturn, 1) := by decide +kernel
theorem dX1_isThere_0 : decode cX1_isThere 0 = .ok (.iload_n 1, 1) := by decide +kernel
theorem dX1_isThere_1 : decode cX1_isThere 1 = .ok (.aload_n 0, 1) := by decide +kernel
theorem dX1_isThere_2 : decode cX1_isThere 2 = .ok (.getfield 40, 3) := by decide +kernel
theorem dX1_isThere_5 : decode cX1_isThere 5 = .ok (.if_icmp .ge 18, 3) := by decide +kernel
theorem dX1_isThere_8 : decode cX1_isThere 8 = .ok (.aload_n 0, 1) := by decide +kernel
theorem dX1_isThere_9 : decode cX1_isThere 9 = .ok (.getfield 7, 3) := by decide +kernel
theorem dX1_isThere_12 : decode cX1_isThere 12 = .ok (.iload_n 1, 1) := by decide +kernel
theorem dX1_isThere_13 : decode cX1_isThere 13 = .ok (.laload, 1) := by decide +kernel
theorem dX1_isThere_14 : decode cX1_isThere 14 = .ok (.lload_n 2, 1) := by decide +kernel
theorem dX1_isThere_15 : decode cX1_isThere 15 = .ok (.lcmp, 1) := by decide +kernel
theorem dX1_isThere_16 : decode cX1_isThere 16 = .ok (.ifCond .ne 7, 3) := by decide +kernel
theorem dX1_isThere_19 : decode cX1_isThere 19 = .ok (.iconst 1, 1) := by decide +kernel
theorem dX1_isThere_20 : decode cX1_isThere 20 = .ok (.goto 4, 3) := by decide +kernel
theorem dX1_isThere_23 : decode cX1_isThere 23 = .ok (.iconst 0, 1) := by decide +kernel
theorem dX1_isThere_24 : decode cX1_isThere 24 = .ok (.ireturn, 1) := by decide +kernel
set_option maxRecDepth 20000 in
theorem ggX1_insert_X1_areNumbers : GoodIn wsX1_insert wsX1_areNumbers := goodIn_r _ [6, 7, 8, 5, 9, 10] (by decide +kernel) (by decide +kernel)
set_option maxRecDepth 20000 in
theorem gX1_insert_X1_areNumbers : GoodIn wsX1_insert (va_wsS RX1 43 yX1_areNumbers wsX1_areNumbers) := goodIn_app (goodIn_of _ (by decide +kernel)) ggX1_insert_X1_areNumbers
set_option maxRecDepth 20000 in
theorem ggX1_insert_X1_key : GoodIn wsX1_insert wsX1_key := goodIn_r _ [14, 15, 16, 17, 5, 18, 19, 28, 29, 30, 31] (by decide +kernel) (by decide +kernel)
set_option maxRecDepth 20000 in
theorem gX1_insert_X1_key : GoodIn wsX1_insert (wsV RX1 47 RX1 yX1_key wsX1_key) := goodIn_app (goodIn_of _ (by decide +kernel)) ggX1_insert_X1_key
set_option maxRecDepth 20000 in
theorem ggX1_insert_X1_below : GoodIn wsX1_insert wsX1_below := goodIn_r _ [23, 1, 2, 28, 29, 30, 31] (by decide +kernel) (by decide +kernel)
set_option maxRecDepth 20000 in
theorem gX1_insert_X1_below : GoodIn wsX1_insert (wsV RX1 51 RX1 yX1_below wsX1_below) := goodIn_app (goodIn_of _ (by decide +kernel)) ggX1_insert_X1_below
set_option maxRecDepth 20000 in
theorem ggX1_insert_X1_isThere : GoodIn wsX1_insert wsX1_isThere := goodIn_r _ [27, 1, 2, 28, 29, 30, 31] (by decide +kernel) (by decide +kernel)
set_option maxRecDepth 20000 in
theorem gX1_insert_X1_isThere : GoodIn wsX1_insert (wsV RX1 55 RX1 yX1_isThere wsX1_isThere) := goodIn_app (goodIn_of _ (by decide +kernel)) ggX1_insert_X1_isThere
theorem dX1_insert_0 : decode cX1_insert 0 = .ok (.iconst 3, 1) := by decide +kernel
theorem dX1_insert_1 : decode cX1_insert 1 = .ok (.iload_n 1, 1) := by decide +kernel
theorem dX1_insert_2 : decode cX1_insert 2 = .ok (.iload_n 2, 1) := by decide +kernel
theorem dX1_insert_3 : decode cX1_insert 3 = .ok (.iload_n 3, 1) := by decide +kernel
theorem dX1_insert_4 : decode cX1_insert 4 = .ok (.invokestatic 43, 3) := by decide +kernel
theorem dX1_insert_7 : decode cX1_insert 7 = .ok (.ifCond .ne 5, 3) := by decide +kernel
theorem dX1_insert_10 : decode cX1_insert 10 = .ok (.iconst (-1), 1) := by decide +kernel
theorem dX1_insert_11 : decode cX1_insert 11 = .ok (.ireturn, 1) := by decide +kernel
theorem dX1_insert_12 : decode cX1_insert 12 = .ok (.aload_n 0, 1) := by decide +kernel
theorem dX1_insert_13 : decode cX1_insert 13 = .ok (.iload_n 1, 1) := by decide +kernel
theorem dX1_insert_14 : decode cX1_insert 14 = .ok (.iload_n 2, 1) := by decide +kernel
theorem dX1_insert_15 : decode cX1_insert 15 = .ok (.iload_n 3, 1) := by decide +kernel
theorem dX1_insert_16 : decode cX1_insert 16 = .ok (.invokevirtual 47, 3) := by decide +kernel
theorem dX1_insert_19 : decode cX1_insert 19 = .ok (.lstore 4, 2) := by decide +kernel
theorem dX1_insert_21 : decode cX1_insert 21 = .ok (.aload_n 0, 1) := by decide +kernel
theorem dX1_insert_22 : decode cX1_insert 22 = .ok (.lload 4, 2) := by decide +kernel
theorem dX1_insert_24 : decode cX1_insert 24 = .ok (.invokevirtual 51, 3) := by decide +kernel
theorem dX1_insert_27 : decode cX1_insert 27 = .ok (.istore 6, 2) := by decide +kernel
theorem dX1_insert_29 : decode cX1_insert 29 = .ok (.aload_n 0, 1) := by decide +kernel
theorem dX1_insert_30 : decode cX1_insert 30 = .ok (.iload 6, 2) := by decide +kernel
theorem dX1_insert_32 : decode cX1_insert 32 = .ok (.lload 4, 2) := by decide +kernel
theorem dX1_insert_34 : decode cX1_insert 34 = .ok (.invokevirtual 55, 3) := by decide +kernel
theorem dX1_insert_37 : decode cX1_insert 37 = .ok (.ifCond .eq 5, 3) := by decide +kernel
theorem dX1_insert_40 : decode cX1_insert 40 = .ok (.iconst 0, 1) := by decide +kernel
theorem dX1_insert_41 : decode cX1_insert 41 = .ok (.ireturn, 1) := by decide +kernel
theorem dX1_insert_42 : decode cX1_insert 42 = .ok (.aload_n 0, 1) := by decide +kernel
theorem dX1_insert_43 : decode cX1_insert 43 = .ok (.getfield 40, 3) := by decide +kernel
theorem dX1_insert_46 : decode cX1_insert 46 = .ok (.sipush 20000, 3) := by decide +kernel
theorem dX1_insert_49 : decode cX1_insert 49 = .ok (.if_icmp .ne 6, 3) := by decide +kernel
theorem dX1_insert_52 : decode cX1_insert 52 = .ok (.bipush (-2), 2) := by decide +kernel
theorem dX1_insert_54 : decode cX1_insert 54 = .ok (.ireturn, 1) := by decide +kernel
theorem dX1_insert_55 : decode cX1_insert 55 = .ok (.aload_n 0, 1) := by decide +kernel
theorem dX1_insert_56 : decode cX1_insert 56 = .ok (.getfield 40, 3) := by decide +kernel
theorem dX1_insert_59 : decode cX1_insert 59 = .ok (.istore 7, 2) := by decide +kernel
theorem dX1_insert_61 : decode cX1_insert 61 = .ok (.iload 7, 2) := by decide +kernel
theorem dX1_insert_63 : decode cX1_insert 63 = .ok (.iload 6, 2) := by decide +kernel
theorem dX1_insert_65 : decode cX1_insert 65 = .ok (.if_icmp .le 25, 3) := by decide +kernel
theorem dX1_insert_68 : decode cX1_insert 68 = .ok (.aload_n 0, 1) := by decide +kernel
theorem dX1_insert_69 : decode cX1_insert 69 = .ok (.getfield 7, 3) := by decide +kernel
theorem dX1_insert_72 : decode cX1_insert 72 = .ok (.iload 7, 2) := by decide +kernel
theorem dX1_insert_74 : decode cX1_insert 74 = .ok (.aload_n 0, 1) := by decide +kernel
theorem dX1_insert_75 : decode cX1_insert 75 = .ok (.getfield 7, 3) := by decide +kernel
theorem dX1_insert_78 : decode cX1_insert 78 = .ok (.iload 7, 2) := by decide +kernel
theorem dX1_insert_80 : decode cX1_insert 80 = .ok (.iconst 1, 1) := by decide +kernel
theorem dX1_insert_81 : decode cX1_insert 81 = .ok (.isub, 1) := by decide +kernel
theorem dX1_insert_82 : decode cX1_insert 82 = .ok (.laload, 1) := by decide +kernel
theorem dX1_insert_83 : decode cX1_insert 83 = .ok (.lastore, 1) := by decide +kernel
theorem dX1_insert_84 : decode cX1_insert 84 = .ok (.iinc 7 (-1), 3) := by decide +kernel
theorem dX1_insert_87 : decode cX1_insert 87 = .ok (.goto (-26), 3) := by decide +kernel
theorem dX1_insert_90 : decode cX1_insert 90 = .ok (.aload_n 0, 1) := by decide +kernel
theorem dX1_insert_91 : decode cX1_insert 91 = .ok (.getfield 7, 3) := by decide +kernel
theorem dX1_insert_94 : decode cX1_insert 94 = .ok (.iload 6, 2) := by decide +kernel
theorem dX1_insert_96 : decode cX1_insert 96 = .ok (.lload 4, 2) := by decide +kernel
theorem dX1_insert_98 : decode cX1_insert 98 = .ok (.lastore, 1) := by decide +kernel
theorem dX1_insert_99 : decode cX1_insert 99 = .ok (.aload_n 0, 1) := by decide +kernel
theorem dX1_insert_100 : decode cX1_insert 100 = .ok (.dup, 1) := by decide +kernel
theorem dX1_insert_101 : decode cX1_insert 101 = .ok (.getfield 40, 3) := by decide +kernel
theorem dX1_insert_104 : decode cX1_insert 104 = .ok (.iconst 1, 1) := by decide +kernel
theorem dX1_insert_105 : decode cX1_insert 105 = .ok (.iadd, 1) := by decide +kernel
theorem dX1_insert_106 : decode cX1_insert 106 = .ok (.putfield 40, 3) := by decide +kernel
theorem dX1_insert_109 : decode cX1_insert 109 = .ok (.iconst 1, 1) := by decide +kernel
theorem dX1_insert_110 : decode cX1_insert 110 = .ok (.ireturn, 1) := by decide +kernel
theorem dX1_take_0 : decode cX1_take 0 = .ok (.aload_n 0, 1) := by decide +kernel
theorem dX1_take_1 : decode cX1_take 1 = .ok (.dup, 1) := by decide +kernel
theorem dX1_take_2 : decode cX1_take 2 = .ok (.getfield 40, 3) := by decide +kernel
theorem dX1_take_5 : decode cX1_take 5 = .ok (.iconst 1, 1) := by decide +kernel
theorem dX1_take_6 : decode cX1_take 6 = .ok (.isub, 1) := by decide +kernel
theorem dX1_take_7 : decode cX1_take 7 = .ok (.putfield 40, 3) := by decide +kernel
theorem dX1_take_10 : decode cX1_take 10 = .ok (.iload_n 1, 1) := by decide +kernel
theorem dX1_take_11 : decode cX1_take 11 = .ok (.istore_n 2, 1) := by decide +kernel
theorem dX1_take_12 : decode cX1_take 12 = .ok (.iload_n 2, 1) := by decide +kernel
theorem dX1_take_13 : decode cX1_take 13 = .ok (.aload_n 0, 1) := by decide +kernel
theorem dX1_take_14 : decode cX1_take 14 = .ok (.getfield 40, 3) := by decide +kernel
theorem dX1_take_17 : decode cX1_take 17 = .ok (.if_icmp .ge 23, 3) := by decide +kernel
theorem dX1_take_20 : decode cX1_take 20 = .ok (.aload_n 0, 1) := by decide +kernel
theorem dX1_take_21 : decode cX1_take 21 = .ok (.getfield 7, 3) := by decide +kernel
theorem dX1_take_24 : decode cX1_take 24 = .ok (.iload_n 2, 1) := by decide +kernel
theorem dX1_take_25 : decode cX1_take 25 = .ok (.aload_n 0, 1) := by decide +kernel
theorem dX1_take_26 : decode cX1_take 26 = .ok (.getfield 7, 3) := by decide +kernel
theorem dX1_take_29 : decode cX1_take 29 = .ok (.iload_n 2, 1) := by decide +kernel
theorem dX1_take_30 : decode cX1_take 30 = .ok (.iconst 1, 1) := by decide +kernel
theorem dX1_take_31 : decode cX1_take 31 = .ok (.iadd, 1) := by decide +kernel
theorem dX1_take_32 : decode cX1_take 32 = .ok (.laload, 1) := by decide +kernel
theorem dX1_take_33 : decode cX1_take 33 = .ok (.lastore, 1) := by decide +kernel
theorem dX1_take_34 : decode cX1_take 34 = .ok (.iinc 2 1, 3) := by decide +kernel
theorem dX1_take_37 : decode cX1_take 37 = .ok (.goto (-25), 3) := by decide +kernel
theorem dX1_take_40 : decode cX1_take 40 = .ok (.return_, 1) := by decide +kernel
set_option maxRecDepth 20000 in
theorem ggX1_remove_X1_areNumbers : GoodIn wsX1_remove wsX1_areNumbers := goodIn_r _ [4, 5, 6, 3, 7, 8] (by decide +kernel) (by decide +kernel)
set_option maxRecDepth 20000 in
theorem gX1_remove_X1_areNumbers : GoodIn wsX1_remove (va_wsS RX1 43 yX1_areNumbers wsX1_areNumbers) := goodIn_app (goodIn_of _ (by decide +kernel)) ggX1_remove_X1_areNumbers
set_option maxRecDepth 20000 in
theorem ggX1_remove_X1_key : GoodIn wsX1_remove wsX1_key := goodIn_r _ [12, 13, 14, 15, 3, 16, 17, 32, 33, 34, 35] (by decide +kernel) (by decide +kernel)
set_option maxRecDepth 20000 in
theorem gX1_remove_X1_key : GoodIn wsX1_remove (wsV RX1 47 RX1 yX1_key wsX1_key) := goodIn_app (goodIn_of _ (by decide +kernel)) ggX1_remove_X1_key
set_option maxRecDepth 20000 in
theorem ggX1_remove_X1_below : GoodIn wsX1_remove wsX1_below := goodIn_r _ [21, 22, 23, 32, 33, 34, 35] (by decide +kernel) (by decide +kernel)
set_option maxRecDepth 20000 in
theorem gX1_remove_X1_below : GoodIn wsX1_remove (wsV RX1 51 RX1 yX1_below wsX1_below) := goodIn_app (goodIn_of _ (by decide +kernel)) ggX1_remove_X1_below
set_option maxRecDepth 20000 in
theorem ggX1_remove_X1_isThere : GoodIn wsX1_remove wsX1_isThere := goodIn_r _ [27, 22, 23, 32, 33, 34, 35] (by decide +kernel) (by decide +kernel)
set_option maxRecDepth 20000 in
theorem gX1_remove_X1_isThere : GoodIn wsX1_remove (wsV RX1 55 RX1 yX1_isThere wsX1_isThere) := goodIn_app (goodIn_of _ (by decide +kernel)) ggX1_remove_X1_isThere
set_option maxRecDepth 20000 in
theorem ggX1_remove_X1_take : GoodIn wsX1_remove wsX1_take := goodIn_r _ [31, 22, 23, 32, 33, 34, 35] (by decide +kernel) (by decide +kernel)
set_option maxRecDepth 20000 in
theorem gX1_remove_X1_take : GoodIn wsX1_remove (wsV RX1 59 RX1 yX1_take wsX1_take) := goodIn_app (goodIn_of _ (by decide +kernel)) ggX1_remove_X1_take
theorem dX1_remove_0 : decode cX1_remove 0 = .ok (.iconst 3, 1) := by decide +kernel
theorem dX1_remove_1 : decode cX1_remove 1 = .ok (.iload_n 1, 1) := by decide +kernel
theorem dX1_remove_2 : decode cX1_remove 2 = .ok (.iload_n 2, 1) := by decide +kernel
theorem dX1_remove_3 : decode cX1_remove 3 = .ok (.iload_n 3, 1) := by decide +kernel
theorem dX1_remove_4 : decode cX1_remove 4 = .ok (.invokestatic 43, 3) := by decide +kernel
theorem dX1_remove_7 : decode cX1_remove 7 = .ok (.ifCond .ne 5, 3) := by decide +kernel
theorem dX1_remove_10 : decode cX1_remove 10 = .ok (.iconst (-1), 1) := by decide +kernel
theorem dX1_remove_11 : decode cX1_remove 11 = .ok (.ireturn, 1) := by decide +kernel
theorem dX1_remove_12 : decode cX1_remove 12 = .ok (.aload_n 0, 1) := by decide +kernel
theorem dX1_remove_13 : decode cX1_remove 13 = .ok (.iload_n 1, 1) := by decide +kernel
theorem dX1_remove_14 : decode cX1_remove 14 = .ok (.iload_n 2, 1) := by decide +kernel
theorem dX1_remove_15 : decode cX1_remove 15 = .ok (.iload_n 3, 1) := by decide +kernel
theorem dX1_remove_16 : decode cX1_remove 16 = .ok (.invokevirtual 47, 3) := by decide +kernel
theorem dX1_remove_19 : decode cX1_remove 19 = .ok (.lstore 4, 2) := by decide +kernel
theorem dX1_remove_21 : decode cX1_remove 21 = .ok (.aload_n 0, 1) := by decide +kernel
theorem dX1_remove_22 : decode cX1_remove 22 = .ok (.lload 4, 2) := by decide +kernel
theorem dX1_remove_24 : decode cX1_remove 24 = .ok (.invokevirtual 51, 3) := by decide +kernel
theorem dX1_remove_27 : decode cX1_remove 27 = .ok (.istore 6, 2) := by decide +kernel
theorem dX1_remove_29 : decode cX1_remove 29 = .ok (.aload_n 0, 1) := by decide +kernel
theorem dX1_remove_30 : decode cX1_remove 30 = .ok (.iload 6, 2) := by decide +kernel
theorem dX1_remove_32 : decode cX1_remove 32 = .ok (.lload 4, 2) := by decide +kernel
theorem dX1_remove_34 : decode cX1_remove 34 = .ok (.invokevirtual 55, 3) := by decide +kernel
theorem dX1_remove_37 : decode cX1_remove 37 = .ok (.ifCond .ne 5, 3) := by decide +kernel
theorem dX1_remove_40 : decode cX1_remove 40 = .ok (.iconst 0, 1) := by decide +kernel
theorem dX1_remove_41 : decode cX1_remove 41 = .ok (.ireturn, 1) := by decide +kernel
theorem dX1_remove_42 : decode cX1_remove 42 = .ok (.aload_n 0, 1) := by decide +kernel
theorem dX1_remove_43 : decode cX1_remove 43 = .ok (.iload 6, 2) := by decide +kernel
theorem dX1_remove_45 : decode cX1_remove 45 = .ok (.invokevirtual 59, 3) := by decide +kernel
theorem dX1_remove_48 : decode cX1_remove 48 = .ok (.iconst 1, 1) := by decide +kernel
theorem dX1_remove_49 : decode cX1_remove 49 = .ok (.ireturn, 1) := by decide +kernel
theorem dJ9_floorMod_7cf53_0 : decode cJ9_floorMod_7cf53 0 = .ok (.iload_n 0, 1) := by decide +kernel
theorem dJ9_floorMod_7cf53_1 : decode cJ9_floorMod_7cf53 1 = .ok (.iload_n 1, 1) := by decide +kernel
theorem dJ9_floorMod_7cf53_2 : decode cJ9_floorMod_7cf53 2 = .ok (.irem, 1) := by decide +kernel
theorem dJ9_floorMod_7cf53_3 : decode cJ9_floorMod_7cf53 3 = .ok (.istore_n 2, 1) := by decide +kernel
theorem dJ9_floorMod_7cf53_4 : decode cJ9_floorMod_7cf53 4 = .ok (.iload_n 0, 1) := by decide +kernel
theorem dJ9_floorMod_7cf53_5 : decode cJ9_floorMod_7cf53 5 = .ok (.iload_n 1, 1) := by decide +kernel
theorem dJ9_floorMod_7cf53_6 : decode cJ9_floorMod_7cf53 6 = .ok (.ixor, 1) := by decide +kernel
theorem dJ9_floorMod_7cf53_7 : decode cJ9_floorMod_7cf53 7 = .ok (.ifCond .ge 11, 3) := by decide +kernel
theorem dJ9_floorMod_7cf53_10 : decode cJ9_floorMod_7cf53 10 = .ok (.iload_n 2, 1) := by decide +kernel
theorem dJ9_floorMod_7cf53_11 : decode cJ9_floorMod_7cf53 11 = .ok (.ifCond .eq 7, 3) := by decide +kernel
theorem dJ9_floorMod_7cf53_14 : decode cJ9_floorMod_7cf53 14 = .ok (.iload_n 2, 1) := by decide +kernel
theorem dJ9_floorMod_7cf53_15 : decode cJ9_floorMod_7cf53 15 = .ok (.iload_n 1, 1) := by decide +kernel
theorem dJ9_floorMod_7cf53_16 : decode cJ9_floorMod_7cf53 16 = .ok (.iadd, 1) := by decide +kernel
theorem dJ9_floorMod_7cf53_17 : decode cJ9_floorMod_7cf53 17 = .ok (.ireturn, 1) := by decide +kernel
theorem dJ9_floorMod_7cf53_18 : decode cJ9_floorMod_7cf53 18 = .ok (.iload_n 2, 1) := by decide +kernel
theorem dJ9_floorMod_7cf53_19 : decode cJ9_floorMod_7cf53 19 = .ok (.ireturn, 1) := by decide +kernel
theorem dJ9_min_7cf53_0 : decode cJ9_min_7cf53 0 = .ok (.iload_n 0, 1) := by decide +kernel
theorem dJ9_min_7cf53_1 : decode cJ9_min_7cf53 1 = .ok (.iload_n 1, 1) := by decide +kernel
theorem dJ9_min_7cf53_2 : decode cJ9_min_7cf53 2 = .ok (.if_icmp .gt 7, 3) := by decide +kernel
theorem dJ9_min_7cf53_5 : decode cJ9_min_7cf53 5 = .ok (.iload_n 0, 1) := by decide +kernel
theorem dJ9_min_7cf53_6 : decode cJ9_min_7cf53 6 = .ok (.goto 4, 3) := by decide +kernel
theorem dJ9_min_7cf53_9 : decode cJ9_min_7cf53 9 = .ok (.iload_n 1, 1) := by decide +kernel
theorem dJ9_min_7cf53_10 : decode cJ9_min_7cf53 10 = .ok (.ireturn, 1) := by decide +kernel
theorem dJ7_copyOf_c38d5_0 : decode cJ7_copyOf_c38d5 0 = .ok (.iload_n 1, 1) := by decide +kernel
theorem dJ7_copyOf_c38d5_1 : decode cJ7_copyOf_c38d5 1 = .ok (.aload_n 0, 1) := by decide +kernel
theorem dJ7_copyOf_c38d5_2 : decode cJ7_copyOf_c38d5 2 = .ok (.arraylength, 1) := by decide +kernel
theorem dJ7_copyOf_c38d5_3 : decode cJ7_copyOf_c38d5 3 = .ok (.if_icmp .ne 11, 3) := by decide +kernel
theorem dJ7_copyOf_c38d5_6 : decode cJ7_copyOf_c38d5 6 = .ok (.aload_n 0, 1) := by decide +kernel
theorem dJ7_copyOf_c38d5_7 : decode cJ7_copyOf_c38d5 7 = .ok (.invokevirtual 319, 3) := by decide +kernel
theorem dJ7_copyOf_c38d5_10 : decode cJ7_copyOf_c38d5 10 = .ok (.checkcast 320, 3) := by decide +kernel
theorem dJ7_copyOf_c38d5_13 : decode cJ7_copyOf_c38d5 13 = .ok (.areturn, 1) := by decide +kernel
theorem dJ7_copyOf_c38d5_14 : decode cJ7_copyOf_c38d5 14 = .ok (.iload_n 1, 1) := by decide +kernel
theorem dJ7_copyOf_c38d5_15 : decode cJ7_copyOf_c38d5 15 = .ok (.newarray .long, 2) := by decide +kernel
theorem dJ7_copyOf_c38d5_17 : decode cJ7_copyOf_c38d5 17 = .ok (.astore_n 2, 1) := by decide +kernel
theorem dJ7_copyOf_c38d5_18 : decode cJ7_copyOf_c38d5 18 = .ok (.aload_n 0, 1) := by decide +kernel
theorem dJ7_copyOf_c38d5_19 : decode cJ7_copyOf_c38d5 19 = .ok (.iconst 0, 1) := by decide +kernel
theorem dJ7_copyOf_c38d5_20 : decode cJ7_copyOf_c38d5 20 = .ok (.aload_n 2, 1) := by decide +kernel
theorem dJ7_copyOf_c38d5_21 : decode cJ7_copyOf_c38d5 21 = .ok (.iconst 0, 1) := by decide +kernel
theorem dJ7_copyOf_c38d5_22 : decode cJ7_copyOf_c38d5 22 = .ok (.aload_n 0, 1) := by decide +kernel
theorem dJ7_copyOf_c38d5_23 : decode cJ7_copyOf_c38d5 23 = .ok (.arraylength, 1) := by decide +kernel
theorem dJ7_copyOf_c38d5_24 : decode cJ7_copyOf_c38d5 24 = .ok (.iload_n 1, 1) := by decide +kernel
theorem dJ7_copyOf_c38d5_25 : decode cJ7_copyOf_c38d5 25 = .ok (.invokestatic 304, 3) := by decide +kernel
theorem dJ7_copyOf_c38d5_28 : decode cJ7_copyOf_c38d5 28 = .ok (.invokestatic 150, 3) := by decide +kernel
theorem dJ7_copyOf_c38d5_31 : decode cJ7_copyOf_c38d5 31 = .ok (.aload_n 2, 1) := by decide +kernel
theorem dJ7_copyOf_c38d5_32 : decode cJ7_copyOf_c38d5 32 = .ok (.areturn, 1) := by decide +kernel
theorem dL_cell_0 : decode cL_cell 0 = .ok (.iload_n 1, 1) := by decide +kernel
theorem dL_cell_1 : decode cL_cell 1 = .ok (.aload_n 0, 1) := by decide +kernel
theorem dL_cell_2 : decode cL_cell 2 = .ok (.arraylength, 1) := by decide +kernel
theorem dL_cell_3 : decode cL_cell 3 = .ok (.if_icmp .ge 9, 3) := by decide +kernel
theorem dL_cell_6 : decode cL_cell 6 = .ok (.aload_n 0, 1) := by decide +kernel
theorem dL_cell_7 : decode cL_cell 7 = .ok (.iload_n 1, 1) := by decide +kernel
theorem dL_cell_8 : decode cL_cell 8 = .ok (.iaload, 1) := by decide +kernel
theorem dL_cell_9 : decode cL_cell 9 = .ok (.goto 4, 3) := by decide +kernel
theorem dL_cell_12 : decode cL_cell 12 = .ok (.iconst 0, 1) := by decide +kernel
theorem dL_cell_13 : decode cL_cell 13 = .ok (.ireturn, 1) := by decide +kernel
set_option maxRecDepth 20000 in
theorem ggL_law_L_cell : GoodIn wsL_law wsL_cell := goodIn_r _ [9] (by decide +kernel) (by decide +kernel)
set_option maxRecDepth 20000 in
theorem gL_law_L_cell : GoodIn wsL_law (va_wsS RL 9 yL_cell wsL_cell) := goodIn_app (goodIn_of _ (by decide +kernel)) ggL_law_L_cell
set_option maxRecDepth 20000 in
theorem ggL_law_X0_init : GoodIn wsL_law wsX0_init := goodIn_r _ [12, 13, 14, 15, 16, 17, 18, 19, 20, 21, 22, 23, 24, 25, 26, 27, 28, 216, 217, 218, 219, 220, 221] (by decide +kernel) (by decide +kernel)
set_option maxRecDepth 20000 in
theorem gL_law_X0_init : GoodIn wsL_law (wsX0_init) := ggL_law_X0_init
set_option maxRecDepth 20000 in
theorem ggL_law_X1_init : GoodIn wsL_law wsX1_init := goodIn_r _ [31, 32, 14, 15, 20, 33, 34, 35, 36, 37, 26, 27, 28, 222, 223, 224, 225] (by decide +kernel) (by decide +kernel)
set_option maxRecDepth 20000 in
theorem gL_law_X1_init : GoodIn wsL_law (wsX1_init) := ggL_law_X1_init
set_option maxRecDepth 20000 in
theorem ggL_law_X0_insert : GoodIn wsL_law wsX0_insert := goodIn_r _ [41, 22, 42, 43, 2, 44, 45, 46, 47, 48, 49, 50, 51, 52, 17, 18, 19, 53, 54, 55, 56, 57, 58, 59, 21, 60, 61, 62, 63, 64, 65, 66, 67, 68, 69, 70, 71, 72, 73, 74, 75, 76, 77, 78, 79, 80, 81, 82, 83, 84, 85, 20, 86, 87, 216, 217, 218, 219, 220, 221] (by decide +kernel) (by decide +kernel)
set_option maxRecDepth 20000 in
theorem gL_law_X0_insert : GoodIn wsL_law (wsV RL 21 RX0 yX0_insert wsX0_insert) := goodIn_app (goodIn_of _ (by decide +kernel)) ggL_law_X0_insert
set_option maxRecDepth 20000 in
theorem ggL_law_X1_insert : GoodIn wsL_law wsX1_insert := goodIn_r _ [91, 92, 33, 93, 94, 5, 95, 96, 97, 98, 99, 100, 101, 102, 103, 36, 104, 105, 106, 107, 108, 109, 110, 111, 112, 113, 114, 115, 222, 223, 224, 225] (by decide +kernel) (by decide +kernel)
set_option maxRecDepth 20000 in
theorem gL_law_X1_insert : GoodIn wsL_law (wsV RL 25 RX1 yX1_insert wsX1_insert) := goodIn_app (goodIn_of _ (by decide +kernel)) ggL_law_X1_insert
set_option maxRecDepth 20000 in
theorem ggL_law_X0_remove : GoodIn wsL_law wsX0_remove := goodIn_r _ [119, 42, 43, 2, 44, 45, 46, 47, 48, 49, 50, 51, 52, 17, 18, 19, 53, 54, 55, 56, 57, 58, 59, 22, 21, 60, 61, 62, 63, 120, 121, 122, 123, 72, 73, 74, 75, 216, 217, 218, 219, 220, 221] (by decide +kernel) (by decide +kernel)
set_option maxRecDepth 20000 in
theorem gL_law_X0_remove : GoodIn wsL_law (wsV RL 26 RX0 yX0_remove wsX0_remove) := goodIn_app (goodIn_of _ (by decide +kernel)) ggL_law_X0_remove
set_option maxRecDepth 20000 in
theorem ggL_law_X1_remove : GoodIn wsL_law wsX1_remove := goodIn_r _ [127, 93, 94, 5, 95, 96, 97, 98, 99, 100, 101, 102, 103, 36, 104, 105, 106, 107, 108, 109, 110, 111, 92, 33, 112, 113, 114, 115, 128, 129, 130, 131, 222, 223, 224, 225] (by decide +kernel) (by decide +kernel)
set_option maxRecDepth 20000 in
theorem gL_law_X1_remove : GoodIn wsL_law (wsV RL 29 RX1 yX1_remove wsX1_remove) := goodIn_app (goodIn_of _ (by decide +kernel)) ggL_law_X1_remove
set_option maxRecDepth 20000 in
theorem ggL_law_X0_has : GoodIn wsL_law wsX0_has := goodIn_r _ [135, 42, 43, 2, 44, 45, 46, 47, 48, 49, 50, 51, 52, 17, 18, 19, 53, 54, 55, 136, 137, 138, 139, 56, 57, 58, 59, 22, 21, 60, 61, 62, 63, 216, 217, 218, 219, 220, 221] (by decide +kernel) (by decide +kernel)
set_option maxRecDepth 20000 in
theorem gL_law_X0_has : GoodIn wsL_law (wsV RL 30 RX0 yX0_has wsX0_has) := goodIn_app (goodIn_of _ (by decide +kernel)) ggL_law_X0_has
set_option maxRecDepth 20000 in
theorem ggL_law_X0_count : GoodIn wsL_law wsX0_count := goodIn_r _ [143, 144, 145, 146, 2, 147, 148, 149, 150, 45, 46, 47, 48, 151, 152, 153, 154, 155, 156, 53, 54, 55, 157, 158, 159, 56, 57, 58, 59, 22, 21, 160, 161, 162, 163, 216, 217, 218, 219, 220, 221] (by decide +kernel) (by decide +kernel)
set_option maxRecDepth 20000 in
theorem gL_law_X0_count : GoodIn wsL_law (wsV RL 34 RX0 yX0_count wsX0_count) := goodIn_app (goodIn_of _ (by decide +kernel)) ggL_law_X0_count
set_option maxRecDepth 20000 in
theorem ggL_law_X0_different : GoodIn wsL_law wsX0_different := goodIn_r _ [167, 160, 161, 162, 2, 163, 148, 149, 150, 45, 46, 47, 48, 151, 152, 153, 154, 155, 156, 53, 54, 55, 56, 57, 58, 59, 22, 21, 144, 145, 146, 147, 157, 158, 159, 168, 169, 170, 171, 23, 216, 217, 218, 219, 220, 221] (by decide +kernel) (by decide +kernel)
set_option maxRecDepth 20000 in
theorem gL_law_X0_different : GoodIn wsL_law (wsV RL 39 RX0 yX0_different wsX0_different) := goodIn_app (goodIn_of _ (by decide +kernel)) ggL_law_X0_different
set_option maxRecDepth 20000 in
theorem ggL_law_X0_rank : GoodIn wsL_law wsX0_rank := goodIn_r _ [175, 42, 43, 2, 44, 45, 46, 47, 48, 154, 155, 156, 53, 54, 55, 56, 57, 58, 59, 22, 21, 216, 217, 218, 219, 220, 221] (by decide +kernel) (by decide +kernel)
set_option maxRecDepth 20000 in
theorem gL_law_X0_rank : GoodIn wsL_law (wsV RL 43 RX0 yX0_rank wsX0_rank) := goodIn_app (goodIn_of _ (by decide +kernel)) ggL_law_X0_rank
set_option maxRecDepth 20000 in
theorem ggL_law_X0_choose : GoodIn wsL_law wsX0_choose := goodIn_r _ [179, 180, 181, 182, 2, 183, 22, 21, 23, 24, 216, 217, 218, 219, 220, 221] (by decide +kernel) (by decide +kernel)
set_option maxRecDepth 20000 in
theorem gL_law_X0_choose : GoodIn wsL_law (wsV RL 47 RX0 yX0_choose wsX0_choose) := goodIn_app (goodIn_of _ (by decide +kernel)) ggL_law_X0_choose
set_option maxRecDepth 20000 in
theorem ggL_law_X0_seek : GoodIn wsL_law wsX0_seek := goodIn_r _ [187, 42, 43, 2, 44, 45, 46, 47, 48, 154, 155, 156, 53, 54, 55, 56, 57, 58, 59, 22, 21, 180, 181, 182, 183, 23, 24, 216, 217, 218, 219, 220, 221] (by decide +kernel) (by decide +kernel)
set_option maxRecDepth 20000 in
theorem gL_law_X0_seek : GoodIn wsL_law (wsV RL 52 RX0 yX0_seek wsX0_seek) := goodIn_app (goodIn_of _ (by decide +kernel)) ggL_law_X0_seek
set_option maxRecDepth 20000 in
theorem ggL_law_X0_next : GoodIn wsL_law wsX0_next := goodIn_r _ [191, 24, 56, 57, 58, 2, 59, 22, 21, 180, 181, 182, 183, 23, 216, 217, 218, 219, 220, 221] (by decide +kernel) (by decide +kernel)
set_option maxRecDepth 20000 in
theorem gL_law_X0_next : GoodIn wsL_law (wsV RL 57 RX0 yX0_next wsX0_next) := goodIn_app (goodIn_of _ (by decide +kernel)) ggL_law_X0_next
set_option maxRecDepth 20000 in
theorem ggL_law_X0_previous : GoodIn wsL_law wsX0_previous := goodIn_r _ [195, 24, 23, 22, 56, 57, 58, 2, 59, 21, 180, 181, 182, 183, 216, 217, 218, 219, 220, 221] (by decide +kernel) (by decide +kernel)
set_option maxRecDepth 20000 in
theorem gL_law_X0_previous : GoodIn wsL_law (wsV RL 62 RX0 yX0_previous wsX0_previous) := goodIn_app (goodIn_of _ (by decide +kernel)) ggL_law_X0_previous
set_option maxRecDepth 20000 in
theorem ggL_law_X0_told : GoodIn wsL_law wsX0_told := goodIn_r _ [199, 24, 23, 17, 18, 19, 200, 201, 202, 2, 203, 48, 53, 54, 55, 216, 217, 218, 219, 220, 221] (by decide +kernel) (by decide +kernel)
set_option maxRecDepth 20000 in
theorem gL_law_X0_told : GoodIn wsL_law (wsV RL 66 RX0 yX0_told wsX0_told) := goodIn_app (goodIn_of _ (by decide +kernel)) ggL_law_X0_told
set_option maxRecDepth 20000 in
theorem ggL_law_X0_stands : GoodIn wsL_law wsX0_stands := goodIn_r _ [207, 24, 23, 136, 137, 138, 2, 139, 56, 57, 58, 59, 22, 21, 60, 61, 62, 63, 216, 217, 218, 219, 220, 221] (by decide +kernel) (by decide +kernel)
set_option maxRecDepth 20000 in
theorem gL_law_X0_stands : GoodIn wsL_law (wsV RL 71 RX0 yX0_stands wsX0_stands) := goodIn_app (goodIn_of _ (by decide +kernel)) ggL_law_X0_stands
set_option maxRecDepth 20000 in
theorem ggL_law_X0_size : GoodIn wsL_law wsX0_size := goodIn_r _ [211, 22, 216, 217, 218, 219, 220, 221] (by decide +kernel) (by decide +kernel)
set_option maxRecDepth 20000 in
theorem gL_law_X0_size : GoodIn wsL_law (wsV RL 76 RX0 yX0_size wsX0_size) := goodIn_app (goodIn_of _ (by decide +kernel)) ggL_law_X0_size
set_option maxRecDepth 20000 in
theorem ggL_law_X0_cut : GoodIn wsL_law wsX0_cut := goodIn_r _ [215, 160, 161, 162, 2, 163, 148, 149, 150, 45, 46, 47, 48, 151, 152, 153, 154, 155, 156, 53, 54, 55, 56, 57, 58, 59, 22, 21, 144, 145, 146, 147, 157, 158, 159, 120, 121, 122, 123, 72, 73, 74, 75, 216, 217, 218, 219, 220, 221] (by decide +kernel) (by decide +kernel)
set_option maxRecDepth 20000 in
theorem gL_law_X0_cut : GoodIn wsL_law (wsV RL 80 RX0 yX0_cut wsX0_cut) := goodIn_app (goodIn_of _ (by decide +kernel)) ggL_law_X0_cut
theorem dL_law_0 : decode cL_law 0 = .ok (.new 7, 3) := by decide +kernel
theorem dL_law_3 : decode cL_law 3 = .ok (.dup, 1) := by decide +kernel
theorem dL_law_4 : decode cL_law 4 = .ok (.aload_n 0, 1) := by decide +kernel
theorem dL_law_5 : decode cL_law 5 = .ok (.iconst 0, 1) := by decide +kernel
theorem dL_law_6 : decode cL_law 6 = .ok (.invokestatic 9, 3) := by decide +kernel
theorem dL_law_9 : decode cL_law 9 = .ok (.invokespecial 15, 3) := by decide +kernel
theorem dL_law_12 : decode cL_law 12 = .ok (.astore_n 1, 1) := by decide +kernel
theorem dL_law_13 : decode cL_law 13 = .ok (.new 18, 3) := by decide +kernel
theorem dL_law_16 : decode cL_law 16 = .ok (.dup, 1) := by decide +kernel
theorem dL_law_17 : decode cL_law 17 = .ok (.aload_n 0, 1) := by decide +kernel
theorem dL_law_18 : decode cL_law 18 = .ok (.iconst 0, 1) := by decide +kernel
theorem dL_law_19 : decode cL_law 19 = .ok (.invokestatic 9, 3) := by decide +kernel
theorem dL_law_22 : decode cL_law 22 = .ok (.invokespecial 20, 3) := by decide +kernel
theorem dL_law_25 : decode cL_law 25 = .ok (.astore_n 2, 1) := by decide +kernel
theorem dL_law_26 : decode cL_law 26 = .ok (.iconst 1, 1) := by decide +kernel
theorem dL_law_27 : decode cL_law 27 = .ok (.istore_n 3, 1) := by decide +kernel
theorem dL_law_28 : decode cL_law 28 = .ok (.iload_n 3, 1) := by decide +kernel
theorem dL_law_29 : decode cL_law 29 = .ok (.aload_n 0, 1) := by decide +kernel
theorem dL_law_30 : decode cL_law 30 = .ok (.arraylength, 1) := by decide +kernel
theorem dL_law_31 : decode cL_law 31 = .ok (.iconst 5, 1) := by decide +kernel
theorem dL_law_32 : decode cL_law 32 = .ok (.isub, 1) := by decide +kernel
theorem dL_law_33 : decode cL_law 33 = .ok (.if_icmp .gt 547, 3) := by decide +kernel
theorem dL_law_36 : decode cL_law 36 = .ok (.aload_n 0, 1) := by decide +kernel
theorem dL_law_37 : decode cL_law 37 = .ok (.iload_n 3, 1) := by decide +kernel
theorem dL_law_38 : decode cL_law 38 = .ok (.iaload, 1) := by decide +kernel
theorem dL_law_39 : decode cL_law 39 = .ok (.bipush 15, 2) := by decide +kernel
theorem dL_law_41 : decode cL_law 41 = .ok (.iand, 1) := by decide +kernel
theorem dL_law_42 : decode cL_law 42 = .ok (.tableswitch 532 0 13 #[70, 113, 156, 199, 252, 295, 338, 361, 404, 417, 430, 453, 466, 479], 70) := by decide +kernel
theorem dL_law_112 : decode cL_law 112 = .ok (.aload_n 1, 1) := by decide +kernel
theorem dL_law_113 : decode cL_law 113 = .ok (.aload_n 0, 1) := by decide +kernel
theorem dL_law_114 : decode cL_law 114 = .ok (.iload_n 3, 1) := by decide +kernel
theorem dL_law_115 : decode cL_law 115 = .ok (.iconst 1, 1) := by decide +kernel
theorem dL_law_116 : decode cL_law 116 = .ok (.iadd, 1) := by decide +kernel
theorem dL_law_117 : decode cL_law 117 = .ok (.iaload, 1) := by decide +kernel
theorem dL_law_118 : decode cL_law 118 = .ok (.aload_n 0, 1) := by decide +kernel
theorem dL_law_119 : decode cL_law 119 = .ok (.iload_n 3, 1) := by decide +kernel
theorem dL_law_120 : decode cL_law 120 = .ok (.iconst 2, 1) := by decide +kernel
theorem dL_law_121 : decode cL_law 121 = .ok (.iadd, 1) := by decide +kernel
theorem dL_law_122 : decode cL_law 122 = .ok (.iaload, 1) := by decide +kernel
theorem dL_law_123 : decode cL_law 123 = .ok (.aload_n 0, 1) := by decide +kernel
theorem dL_law_124 : decode cL_law 124 = .ok (.iload_n 3, 1) := by decide +kernel
theorem dL_law_125 : decode cL_law 125 = .ok (.iconst 3, 1) := by decide +kernel
theorem dL_law_126 : decode cL_law 126 = .ok (.iadd, 1) := by decide +kernel
theorem dL_law_127 : decode cL_law 127 = .ok (.iaload, 1) := by decide +kernel
theorem dL_law_128 : decode cL_law 128 = .ok (.invokevirtual 21, 3) := by decide +kernel
theorem dL_law_131 : decode cL_law 131 = .ok (.aload_n 2, 1) := by decide +kernel
theorem dL_law_132 : decode cL_law 132 = .ok (.aload_n 0, 1) := by decide +kernel
theorem dL_law_133 : decode cL_law 133 = .ok (.iload_n 3, 1) := by decide +kernel
theorem dL_law_134 : decode cL_law 134 = .ok (.iconst 1, 1) := by decide +kernel
theorem dL_law_135 : decode cL_law 135 = .ok (.iadd, 1) := by decide +kernel
theorem dL_law_136 : decode cL_law 136 = .ok (.iaload, 1) := by decide +kernel
theorem dL_law_137 : decode cL_law 137 = .ok (.aload_n 0, 1) := by decide +kernel
theorem dL_law_138 : decode cL_law 138 = .ok (.iload_n 3, 1) := by decide +kernel
theorem dL_law_139 : decode cL_law 139 = .ok (.iconst 2, 1) := by decide +kernel
theorem dL_law_140 : decode cL_law 140 = .ok (.iadd, 1) := by decide +kernel
theorem dL_law_141 : decode cL_law 141 = .ok (.iaload, 1) := by decide +kernel
theorem dL_law_142 : decode cL_law 142 = .ok (.aload_n 0, 1) := by decide +kernel
theorem dL_law_143 : decode cL_law 143 = .ok (.iload_n 3, 1) := by decide +kernel
theorem dL_law_144 : decode cL_law 144 = .ok (.iconst 3, 1) := by decide +kernel
theorem dL_law_145 : decode cL_law 145 = .ok (.iadd, 1) := by decide +kernel
theorem dL_law_146 : decode cL_law 146 = .ok (.iaload, 1) := by decide +kernel
theorem dL_law_147 : decode cL_law 147 = .ok (.invokevirtual 25, 3) := by decide +kernel
theorem dL_law_150 : decode cL_law 150 = .ok (.if_icmp .eq 424, 3) := by decide +kernel
theorem dL_law_153 : decode cL_law 153 = .ok (.iconst 0, 1) := by decide +kernel
theorem dL_law_154 : decode cL_law 154 = .ok (.ireturn, 1) := by decide +kernel
theorem dL_law_155 : decode cL_law 155 = .ok (.aload_n 1, 1) := by decide +kernel
theorem dL_law_156 : decode cL_law 156 = .ok (.aload_n 0, 1) := by decide +kernel
theorem dL_law_157 : decode cL_law 157 = .ok (.iload_n 3, 1) := by decide +kernel
theorem dL_law_158 : decode cL_law 158 = .ok (.iconst 1, 1) := by decide +kernel
theorem dL_law_159 : decode cL_law 159 = .ok (.iadd, 1) := by decide +kernel
theorem dL_law_160 : decode cL_law 160 = .ok (.iaload, 1) := by decide +kernel
theorem dL_law_161 : decode cL_law 161 = .ok (.aload_n 0, 1) := by decide +kernel
theorem dL_law_162 : decode cL_law 162 = .ok (.iload_n 3, 1) := by decide +kernel
theorem dL_law_163 : decode cL_law 163 = .ok (.iconst 2, 1) := by decide +kernel
theorem dL_law_164 : decode cL_law 164 = .ok (.iadd, 1) := by decide +kernel
theorem dL_law_165 : decode cL_law 165 = .ok (.iaload, 1) := by decide +kernel
theorem dL_law_166 : decode cL_law 166 = .ok (.aload_n 0, 1) := by decide +kernel
theorem dL_law_167 : decode cL_law 167 = .ok (.iload_n 3, 1) := by decide +kernel
theorem dL_law_168 : decode cL_law 168 = .ok (.iconst 3, 1) := by decide +kernel
theorem dL_law_169 : decode cL_law 169 = .ok (.iadd, 1) := by decide +kernel
theorem dL_law_170 : decode cL_law 170 = .ok (.iaload, 1) := by decide +kernel
theorem dL_law_171 : decode cL_law 171 = .ok (.invokevirtual 26, 3) := by decide +kernel
theorem dL_law_174 : decode cL_law 174 = .ok (.aload_n 2, 1) := by decide +kernel
theorem dL_law_175 : decode cL_law 175 = .ok (.aload_n 0, 1) := by decide +kernel
theorem dL_law_176 : decode cL_law 176 = .ok (.iload_n 3, 1) := by decide +kernel
theorem dL_law_177 : decode cL_law 177 = .ok (.iconst 1, 1) := by decide +kernel
theorem dL_law_178 : decode cL_law 178 = .ok (.iadd, 1) := by decide +kernel
theorem dL_law_179 : decode cL_law 179 = .ok (.iaload, 1) := by decide +kernel
theorem dL_law_180 : decode cL_law 180 = .ok (.aload_n 0, 1) := by decide +kernel
theorem dL_law_181 : decode cL_law 181 = .ok (.iload_n 3, 1) := by decide +kernel
theorem dL_law_182 : decode cL_law 182 = .ok (.iconst 2, 1) := by decide +kernel
theorem dL_law_183 : decode cL_law 183 = .ok (.iadd, 1) := by decide +kernel
theorem dL_law_184 : decode cL_law 184 = .ok (.iaload, 1) := by decide +kernel
theorem dL_law_185 : decode cL_law 185 = .ok (.aload_n 0, 1) := by decide +kernel
theorem dL_law_186 : decode cL_law 186 = .ok (.iload_n 3, 1) := by decide +kernel
theorem dL_law_187 : decode cL_law 187 = .ok (.iconst 3, 1) := by decide +kernel
theorem dL_law_188 : decode cL_law 188 = .ok (.iadd, 1) := by decide +kernel
theorem dL_law_189 : decode cL_law 189 = .ok (.iaload, 1) := by decide +kernel
theorem dL_law_190 : decode cL_law 190 = .ok (.invokevirtual 29, 3) := by decide +kernel
theorem dL_law_193 : decode cL_law 193 = .ok (.if_icmp .eq 381, 3) := by decide +kernel
theorem dL_law_196 : decode cL_law 196 = .ok (.iconst 0, 1) := by decide +kernel
theorem dL_law_197 : decode cL_law 197 = .ok (.ireturn, 1) := by decide +kernel
theorem dL_law_198 : decode cL_law 198 = .ok (.aload_n 1, 1) := by decide +kernel
theorem dL_law_199 : decode cL_law 199 = .ok (.aload_n 0, 1) := by decide +kernel
theorem dL_law_200 : decode cL_law 200 = .ok (.iload_n 3, 1) := by decide +kernel
theorem dL_law_201 : decode cL_law 201 = .ok (.iconst 1, 1) := by decide +kernel
theorem dL_law_202 : decode cL_law 202 = .ok (.iadd, 1) := by decide +kernel
theorem dL_law_203 : decode cL_law 203 = .ok (.iaload, 1) := by decide +kernel
theorem dL_law_204 : decode cL_law 204 = .ok (.aload_n 0, 1) := by decide +kernel
theorem dL_law_205 : decode cL_law 205 = .ok (.iload_n 3, 1) := by decide +kernel
theorem dL_law_206 : decode cL_law 206 = .ok (.iconst 2, 1) := by decide +kernel
theorem dL_law_207 : decode cL_law 207 = .ok (.iadd, 1) := by decide +kernel
theorem dL_law_208 : decode cL_law 208 = .ok (.iaload, 1) := by decide +kernel
theorem dL_law_209 : decode cL_law 209 = .ok (.aload_n 0, 1) := by decide +kernel
theorem dL_law_210 : decode cL_law 210 = .ok (.iload_n 3, 1) := by decide +kernel
theorem dL_law_211 : decode cL_law 211 = .ok (.iconst 3, 1) := by decide +kernel
theorem dL_law_212 : decode cL_law 212 = .ok (.iadd, 1) := by decide +kernel
theorem dL_law_213 : decode cL_law 213 = .ok (.iaload, 1) := by decide +kernel
theorem dL_law_214 : decode cL_law 214 = .ok (.invokevirtual 30, 3) := by decide +kernel
theorem dL_law_217 : decode cL_law 217 = .ok (.aload_n 2, 1) := by decide +kernel
theorem dL_law_218 : decode cL_law 218 = .ok (.aload_n 0, 1) := by decide +kernel
theorem dL_law_219 : decode cL_law 219 = .ok (.iload_n 3, 1) := by decide +kernel
theorem dL_law_220 : decode cL_law 220 = .ok (.iconst 1, 1) := by decide +kernel
theorem dL_law_221 : decode cL_law 221 = .ok (.iadd, 1) := by decide +kernel
theorem dL_law_222 : decode cL_law 222 = .ok (.iaload, 1) := by decide +kernel
theorem dL_law_223 : decode cL_law 223 = .ok (.aload_n 0, 1) := by decide +kernel
theorem dL_law_224 : decode cL_law 224 = .ok (.iload_n 3, 1) := by decide +kernel
theorem dL_law_225 : decode cL_law 225 = .ok (.iconst 2, 1) := by decide +kernel
theorem dL_law_226 : decode cL_law 226 = .ok (.iadd, 1) := by decide +kernel
theorem dL_law_227 : decode cL_law 227 = .ok (.iaload, 1) := by decide +kernel
theorem dL_law_228 : decode cL_law 228 = .ok (.aload_n 0, 1) := by decide +kernel
theorem dL_law_229 : decode cL_law 229 = .ok (.iload_n 3, 1) := by decide +kernel
theorem dL_law_230 : decode cL_law 230 = .ok (.iconst 3, 1) := by decide +kernel
theorem dL_law_231 : decode cL_law 231 = .ok (.iadd, 1) := by decide +kernel
theorem dL_law_232 : decode cL_law 232 = .ok (.iaload, 1) := by decide +kernel
theorem dL_law_233 : decode cL_law 233 = .ok (.invokevirtual 33, 3) := by decide +kernel
theorem dL_law_236 : decode cL_law 236 = .ok (.if_icmp .eq 338, 3) := by decide +kernel
theorem dL_law_239 : decode cL_law 239 = .ok (.iconst 0, 1) := by decide +kernel
theorem dL_law_240 : decode cL_law 240 = .ok (.ireturn, 1) := by decide +kernel
theorem dL_law_241 : decode cL_law 241 = .ok (.aload_n 1, 1) := by decide +kernel
theorem dL_law_242 : decode cL_law 242 = .ok (.aload_n 0, 1) := by decide +kernel
theorem dL_law_243 : decode cL_law 243 = .ok (.iload_n 3, 1) := by decide +kernel
theorem dL_law_244 : decode cL_law 244 = .ok (.iconst 1, 1) := by decide +kernel
theorem dL_law_245 : decode cL_law 245 = .ok (.iadd, 1) := by decide +kernel
theorem dL_law_246 : decode cL_law 246 = .ok (.iaload, 1) := by decide +kernel
theorem dL_law_247 : decode cL_law 247 = .ok (.aload_n 0, 1) := by decide +kernel
theorem dL_law_248 : decode cL_law 248 = .ok (.iload_n 3, 1) := by decide +kernel
theorem dL_law_249 : decode cL_law 249 = .ok (.iconst 2, 1) := by decide +kernel
theorem dL_law_250 : decode cL_law 250 = .ok (.iadd, 1) := by decide +kernel
theorem dL_law_251 : decode cL_law 251 = .ok (.iaload, 1) := by decide +kernel
theorem dL_law_252 : decode cL_law 252 = .ok (.aload_n 0, 1) := by decide +kernel
theorem dL_law_253 : decode cL_law 253 = .ok (.iload_n 3, 1) := by decide +kernel
theorem dL_law_254 : decode cL_law 254 = .ok (.iconst 3, 1) := by decide +kernel
theorem dL_law_255 : decode cL_law 255 = .ok (.iadd, 1) := by decide +kernel
theorem dL_law_256 : decode cL_law 256 = .ok (.iaload, 1) := by decide +kernel
theorem dL_law_257 : decode cL_law 257 = .ok (.aload_n 0, 1) := by decide +kernel
theorem dL_law_258 : decode cL_law 258 = .ok (.iload_n 3, 1) := by decide +kernel
theorem dL_law_259 : decode cL_law 259 = .ok (.iconst 4, 1) := by decide +kernel
theorem dL_law_260 : decode cL_law 260 = .ok (.iadd, 1) := by decide +kernel
theorem dL_law_261 : decode cL_law 261 = .ok (.iaload, 1) := by decide +kernel
theorem dL_law_262 : decode cL_law 262 = .ok (.invokevirtual 34, 3) := by decide +kernel
theorem dL_law_265 : decode cL_law 265 = .ok (.aload_n 2, 1) := by decide +kernel
theorem dL_law_266 : decode cL_law 266 = .ok (.aload_n 0, 1) := by decide +kernel
theorem dL_law_267 : decode cL_law 267 = .ok (.iload_n 3, 1) := by decide +kernel
theorem dL_law_268 : decode cL_law 268 = .ok (.iconst 1, 1) := by decide +kernel
theorem dL_law_269 : decode cL_law 269 = .ok (.iadd, 1) := by decide +kernel
theorem dL_law_270 : decode cL_law 270 = .ok (.iaload, 1) := by decide +kernel
theorem dL_law_271 : decode cL_law 271 = .ok (.aload_n 0, 1) := by decide +kernel
theorem dL_law_272 : decode cL_law 272 = .ok (.iload_n 3, 1) := by decide +kernel
theorem dL_law_273 : decode cL_law 273 = .ok (.iconst 2, 1) := by decide +kernel
theorem dL_law_274 : decode cL_law 274 = .ok (.iadd, 1) := by decide +kernel
theorem dL_law_275 : decode cL_law 275 = .ok (.iaload, 1) := by decide +kernel
theorem dL_law_276 : decode cL_law 276 = .ok (.aload_n 0, 1) := by decide +kernel
theorem dL_law_277 : decode cL_law 277 = .ok (.iload_n 3, 1) := by decide +kernel
theorem dL_law_278 : decode cL_law 278 = .ok (.iconst 3, 1) := by decide +kernel
theorem dL_law_279 : decode cL_law 279 = .ok (.iadd, 1) := by decide +kernel
theorem dL_law_280 : decode cL_law 280 = .ok (.iaload, 1) := by decide +kernel
theorem dL_law_281 : decode cL_law 281 = .ok (.aload_n 0, 1) := by decide +kernel
theorem dL_law_282 : decode cL_law 282 = .ok (.iload_n 3, 1) := by decide +kernel
theorem dL_law_283 : decode cL_law 283 = .ok (.iconst 4, 1) := by decide +kernel
theorem dL_law_284 : decode cL_law 284 = .ok (.iadd, 1) := by decide +kernel
theorem dL_law_285 : decode cL_law 285 = .ok (.iaload, 1) := by decide +kernel
theorem dL_law_286 : decode cL_law 286 = .ok (.invokevirtual 38, 3) := by decide +kernel
theorem dL_law_289 : decode cL_law 289 = .ok (.if_icmp .eq 285, 3) := by decide +kernel
theorem dL_law_292 : decode cL_law 292 = .ok (.iconst 0, 1) := by decide +kernel
theorem dL_law_293 : decode cL_law 293 = .ok (.ireturn, 1) := by decide +kernel
theorem dL_law_294 : decode cL_law 294 = .ok (.aload_n 1, 1) := by decide +kernel
theorem dL_law_295 : decode cL_law 295 = .ok (.aload_n 0, 1) := by decide +kernel
theorem dL_law_296 : decode cL_law 296 = .ok (.iload_n 3, 1) := by decide +kernel
theorem dL_law_297 : decode cL_law 297 = .ok (.iconst 1, 1) := by decide +kernel
theorem dL_law_298 : decode cL_law 298 = .ok (.iadd, 1) := by decide +kernel
theorem dL_law_299 : decode cL_law 299 = .ok (.iaload, 1) := by decide +kernel
theorem dL_law_300 : decode cL_law 300 = .ok (.aload_n 0, 1) := by decide +kernel
theorem dL_law_301 : decode cL_law 301 = .ok (.iload_n 3, 1) := by decide +kernel
theorem dL_law_302 : decode cL_law 302 = .ok (.iconst 2, 1) := by decide +kernel
theorem dL_law_303 : decode cL_law 303 = .ok (.iadd, 1) := by decide +kernel
theorem dL_law_304 : decode cL_law 304 = .ok (.iaload, 1) := by decide +kernel
theorem dL_law_305 : decode cL_law 305 = .ok (.aload_n 0, 1) := by decide +kernel
theorem dL_law_306 : decode cL_law 306 = .ok (.iload_n 3, 1) := by decide +kernel
theorem dL_law_307 : decode cL_law 307 = .ok (.iconst 3, 1) := by decide +kernel
theorem dL_law_308 : decode cL_law 308 = .ok (.iadd, 1) := by decide +kernel
theorem dL_law_309 : decode cL_law 309 = .ok (.iaload, 1) := by decide +kernel
theorem dL_law_310 : decode cL_law 310 = .ok (.invokevirtual 39, 3) := by decide +kernel
theorem dL_law_313 : decode cL_law 313 = .ok (.aload_n 2, 1) := by decide +kernel
theorem dL_law_314 : decode cL_law 314 = .ok (.aload_n 0, 1) := by decide +kernel
theorem dL_law_315 : decode cL_law 315 = .ok (.iload_n 3, 1) := by decide +kernel
theorem dL_law_316 : decode cL_law 316 = .ok (.iconst 1, 1) := by decide +kernel
theorem dL_law_317 : decode cL_law 317 = .ok (.iadd, 1) := by decide +kernel
theorem dL_law_318 : decode cL_law 318 = .ok (.iaload, 1) := by decide +kernel
theorem dL_law_319 : decode cL_law 319 = .ok (.aload_n 0, 1) := by decide +kernel
theorem dL_law_320 : decode cL_law 320 = .ok (.iload_n 3, 1) := by decide +kernel
theorem dL_law_321 : decode cL_law 321 = .ok (.iconst 2, 1) := by decide +kernel
theorem dL_law_322 : decode cL_law 322 = .ok (.iadd, 1) := by decide +kernel
theorem dL_law_323 : decode cL_law 323 = .ok (.iaload, 1) := by decide +kernel
theorem dL_law_324 : decode cL_law 324 = .ok (.aload_n 0, 1) := by decide +kernel
theorem dL_law_325 : decode cL_law 325 = .ok (.iload_n 3, 1) := by decide +kernel
theorem dL_law_326 : decode cL_law 326 = .ok (.iconst 3, 1) := by decide +kernel
theorem dL_law_327 : decode cL_law 327 = .ok (.iadd, 1) := by decide +kernel
theorem dL_law_328 : decode cL_law 328 = .ok (.iaload, 1) := by decide +kernel
theorem dL_law_329 : decode cL_law 329 = .ok (.invokevirtual 42, 3) := by decide +kernel
theorem dL_law_332 : decode cL_law 332 = .ok (.if_icmp .eq 242, 3) := by decide +kernel
theorem dL_law_335 : decode cL_law 335 = .ok (.iconst 0, 1) := by decide +kernel
theorem dL_law_336 : decode cL_law 336 = .ok (.ireturn, 1) := by decide +kernel
theorem dL_law_337 : decode cL_law 337 = .ok (.aload_n 1, 1) := by decide +kernel
theorem dL_law_338 : decode cL_law 338 = .ok (.aload_n 0, 1) := by decide +kernel
theorem dL_law_339 : decode cL_law 339 = .ok (.iload_n 3, 1) := by decide +kernel
theorem dL_law_340 : decode cL_law 340 = .ok (.iconst 1, 1) := by decide +kernel
theorem dL_law_341 : decode cL_law 341 = .ok (.iadd, 1) := by decide +kernel
theorem dL_law_342 : decode cL_law 342 = .ok (.iaload, 1) := by decide +kernel
theorem dL_law_343 : decode cL_law 343 = .ok (.aload_n 0, 1) := by decide +kernel
theorem dL_law_344 : decode cL_law 344 = .ok (.iload_n 3, 1) := by decide +kernel
theorem dL_law_345 : decode cL_law 345 = .ok (.iconst 2, 1) := by decide +kernel
theorem dL_law_346 : decode cL_law 346 = .ok (.iadd, 1) := by decide +kernel
theorem dL_law_347 : decode cL_law 347 = .ok (.iaload, 1) := by decide +kernel
theorem dL_law_348 : decode cL_law 348 = .ok (.aload_n 0, 1) := by decide +kernel
theorem dL_law_349 : decode cL_law 349 = .ok (.iload_n 3, 1) := by decide +kernel
theorem dL_law_350 : decode cL_law 350 = .ok (.iconst 3, 1) := by decide +kernel
theorem dL_law_351 : decode cL_law 351 = .ok (.iadd, 1) := by decide +kernel
theorem dL_law_352 : decode cL_law 352 = .ok (.iaload, 1) := by decide +kernel
theorem dL_law_353 : decode cL_law 353 = .ok (.invokevirtual 43, 3) := by decide +kernel
theorem dL_law_356 : decode cL_law 356 = .ok (.aload_n 2, 1) := by decide +kernel
theorem dL_law_357 : decode cL_law 357 = .ok (.aload_n 0, 1) := by decide +kernel
theorem dL_law_358 : decode cL_law 358 = .ok (.iload_n 3, 1) := by decide +kernel
theorem dL_law_359 : decode cL_law 359 = .ok (.iconst 1, 1) := by decide +kernel
theorem dL_law_360 : decode cL_law 360 = .ok (.iadd, 1) := by decide +kernel
theorem dL_law_361 : decode cL_law 361 = .ok (.iaload, 1) := by decide +kernel
theorem dL_law_362 : decode cL_law 362 = .ok (.aload_n 0, 1) := by decide +kernel
theorem dL_law_363 : decode cL_law 363 = .ok (.iload_n 3, 1) := by decide +kernel
theorem dL_law_364 : decode cL_law 364 = .ok (.iconst 2, 1) := by decide +kernel
theorem dL_law_365 : decode cL_law 365 = .ok (.iadd, 1) := by decide +kernel
theorem dL_law_366 : decode cL_law 366 = .ok (.iaload, 1) := by decide +kernel
theorem dL_law_367 : decode cL_law 367 = .ok (.aload_n 0, 1) := by decide +kernel
theorem dL_law_368 : decode cL_law 368 = .ok (.iload_n 3, 1) := by decide +kernel
theorem dL_law_369 : decode cL_law 369 = .ok (.iconst 3, 1) := by decide +kernel
theorem dL_law_370 : decode cL_law 370 = .ok (.iadd, 1) := by decide +kernel
theorem dL_law_371 : decode cL_law 371 = .ok (.iaload, 1) := by decide +kernel
theorem dL_law_372 : decode cL_law 372 = .ok (.invokevirtual 46, 3) := by decide +kernel
theorem dL_law_375 : decode cL_law 375 = .ok (.if_icmp .eq 199, 3) := by decide +kernel
theorem dL_law_378 : decode cL_law 378 = .ok (.iconst 0, 1) := by decide +kernel
theorem dL_law_379 : decode cL_law 379 = .ok (.ireturn, 1) := by decide +kernel
theorem dL_law_380 : decode cL_law 380 = .ok (.aload_n 1, 1) := by decide +kernel
theorem dL_law_381 : decode cL_law 381 = .ok (.aload_n 0, 1) := by decide +kernel
theorem dL_law_382 : decode cL_law 382 = .ok (.iload_n 3, 1) := by decide +kernel
theorem dL_law_383 : decode cL_law 383 = .ok (.iconst 1, 1) := by decide +kernel
theorem dL_law_384 : decode cL_law 384 = .ok (.iadd, 1) := by decide +kernel
theorem dL_law_385 : decode cL_law 385 = .ok (.iaload, 1) := by decide +kernel
theorem dL_law_386 : decode cL_law 386 = .ok (.invokevirtual 47, 3) := by decide +kernel
theorem dL_law_389 : decode cL_law 389 = .ok (.aload_n 2, 1) := by decide +kernel
theorem dL_law_390 : decode cL_law 390 = .ok (.aload_n 0, 1) := by decide +kernel
theorem dL_law_391 : decode cL_law 391 = .ok (.iload_n 3, 1) := by decide +kernel
theorem dL_law_392 : decode cL_law 392 = .ok (.iconst 1, 1) := by decide +kernel
theorem dL_law_393 : decode cL_law 393 = .ok (.iadd, 1) := by decide +kernel
theorem dL_law_394 : decode cL_law 394 = .ok (.iaload, 1) := by decide +kernel
theorem dL_law_395 : decode cL_law 395 = .ok (.invokevirtual 51, 3) := by decide +kernel
theorem dL_law_398 : decode cL_law 398 = .ok (.if_icmp .eq 176, 3) := by decide +kernel
theorem dL_law_401 : decode cL_law 401 = .ok (.iconst 0, 1) := by decide +kernel
theorem dL_law_402 : decode cL_law 402 = .ok (.ireturn, 1) := by decide +kernel
theorem dL_law_403 : decode cL_law 403 = .ok (.aload_n 1, 1) := by decide +kernel
theorem dL_law_404 : decode cL_law 404 = .ok (.aload_n 0, 1) := by decide +kernel
theorem dL_law_405 : decode cL_law 405 = .ok (.iload_n 3, 1) := by decide +kernel
theorem dL_law_406 : decode cL_law 406 = .ok (.iconst 1, 1) := by decide +kernel
theorem dL_law_407 : decode cL_law 407 = .ok (.iadd, 1) := by decide +kernel
theorem dL_law_408 : decode cL_law 408 = .ok (.iaload, 1) := by decide +kernel
theorem dL_law_409 : decode cL_law 409 = .ok (.aload_n 0, 1) := by decide +kernel
theorem dL_law_410 : decode cL_law 410 = .ok (.iload_n 3, 1) := by decide +kernel
theorem dL_law_411 : decode cL_law 411 = .ok (.iconst 2, 1) := by decide +kernel
theorem dL_law_412 : decode cL_law 412 = .ok (.iadd, 1) := by decide +kernel
theorem dL_law_413 : decode cL_law 413 = .ok (.iaload, 1) := by decide +kernel
theorem dL_law_414 : decode cL_law 414 = .ok (.aload_n 0, 1) := by decide +kernel
theorem dL_law_415 : decode cL_law 415 = .ok (.iload_n 3, 1) := by decide +kernel
theorem dL_law_416 : decode cL_law 416 = .ok (.iconst 3, 1) := by decide +kernel
theorem dL_law_417 : decode cL_law 417 = .ok (.iadd, 1) := by decide +kernel
theorem dL_law_418 : decode cL_law 418 = .ok (.iaload, 1) := by decide +kernel
theorem dL_law_419 : decode cL_law 419 = .ok (.invokevirtual 52, 3) := by decide +kernel
theorem dL_law_422 : decode cL_law 422 = .ok (.aload_n 2, 1) := by decide +kernel
theorem dL_law_423 : decode cL_law 423 = .ok (.aload_n 0, 1) := by decide +kernel
theorem dL_law_424 : decode cL_law 424 = .ok (.iload_n 3, 1) := by decide +kernel
theorem dL_law_425 : decode cL_law 425 = .ok (.iconst 1, 1) := by decide +kernel
theorem dL_law_426 : decode cL_law 426 = .ok (.iadd, 1) := by decide +kernel
theorem dL_law_427 : decode cL_law 427 = .ok (.iaload, 1) := by decide +kernel
theorem dL_law_428 : decode cL_law 428 = .ok (.aload_n 0, 1) := by decide +kernel
theorem dL_law_429 : decode cL_law 429 = .ok (.iload_n 3, 1) := by decide +kernel
theorem dL_law_430 : decode cL_law 430 = .ok (.iconst 2, 1) := by decide +kernel
theorem dL_law_431 : decode cL_law 431 = .ok (.iadd, 1) := by decide +kernel
theorem dL_law_432 : decode cL_law 432 = .ok (.iaload, 1) := by decide +kernel
theorem dL_law_433 : decode cL_law 433 = .ok (.aload_n 0, 1) := by decide +kernel
theorem dL_law_434 : decode cL_law 434 = .ok (.iload_n 3, 1) := by decide +kernel
theorem dL_law_435 : decode cL_law 435 = .ok (.iconst 3, 1) := by decide +kernel
theorem dL_law_436 : decode cL_law 436 = .ok (.iadd, 1) := by decide +kernel
theorem dL_law_437 : decode cL_law 437 = .ok (.iaload, 1) := by decide +kernel
theorem dL_law_438 : decode cL_law 438 = .ok (.invokevirtual 56, 3) := by decide +kernel
theorem dL_law_441 : decode cL_law 441 = .ok (.if_icmp .eq 133, 3) := by decide +kernel
theorem dL_law_444 : decode cL_law 444 = .ok (.iconst 0, 1) := by decide +kernel
theorem dL_law_445 : decode cL_law 445 = .ok (.ireturn, 1) := by decide +kernel
theorem dL_law_446 : decode cL_law 446 = .ok (.aload_n 1, 1) := by decide +kernel
theorem dL_law_447 : decode cL_law 447 = .ok (.invokevirtual 57, 3) := by decide +kernel
theorem dL_law_450 : decode cL_law 450 = .ok (.aload_n 2, 1) := by decide +kernel
theorem dL_law_451 : decode cL_law 451 = .ok (.invokevirtual 61, 3) := by decide +kernel
theorem dL_law_454 : decode cL_law 454 = .ok (.if_icmp .eq 120, 3) := by decide +kernel
theorem dL_law_457 : decode cL_law 457 = .ok (.iconst 0, 1) := by decide +kernel
theorem dL_law_458 : decode cL_law 458 = .ok (.ireturn, 1) := by decide +kernel
theorem dL_law_459 : decode cL_law 459 = .ok (.aload_n 1, 1) := by decide +kernel
theorem dL_law_460 : decode cL_law 460 = .ok (.invokevirtual 62, 3) := by decide +kernel
theorem dL_law_463 : decode cL_law 463 = .ok (.aload_n 2, 1) := by decide +kernel
theorem dL_law_464 : decode cL_law 464 = .ok (.invokevirtual 65, 3) := by decide +kernel
theorem dL_law_467 : decode cL_law 467 = .ok (.if_icmp .eq 107, 3) := by decide +kernel
theorem dL_law_470 : decode cL_law 470 = .ok (.iconst 0, 1) := by decide +kernel
theorem dL_law_471 : decode cL_law 471 = .ok (.ireturn, 1) := by decide +kernel
theorem dL_law_472 : decode cL_law 472 = .ok (.aload_n 1, 1) := by decide +kernel
theorem dL_law_473 : decode cL_law 473 = .ok (.aload_n 0, 1) := by decide +kernel
theorem dL_law_474 : decode cL_law 474 = .ok (.iload_n 3, 1) := by decide +kernel
theorem dL_law_475 : decode cL_law 475 = .ok (.iconst 1, 1) := by decide +kernel
theorem dL_law_476 : decode cL_law 476 = .ok (.iadd, 1) := by decide +kernel
theorem dL_law_477 : decode cL_law 477 = .ok (.iaload, 1) := by decide +kernel
theorem dL_law_478 : decode cL_law 478 = .ok (.invokevirtual 66, 3) := by decide +kernel
theorem dL_law_481 : decode cL_law 481 = .ok (.aload_n 2, 1) := by decide +kernel
theorem dL_law_482 : decode cL_law 482 = .ok (.aload_n 0, 1) := by decide +kernel
theorem dL_law_483 : decode cL_law 483 = .ok (.iload_n 3, 1) := by decide +kernel
theorem dL_law_484 : decode cL_law 484 = .ok (.iconst 1, 1) := by decide +kernel
theorem dL_law_485 : decode cL_law 485 = .ok (.iadd, 1) := by decide +kernel
theorem dL_law_486 : decode cL_law 486 = .ok (.iaload, 1) := by decide +kernel
theorem dL_law_487 : decode cL_law 487 = .ok (.invokevirtual 70, 3) := by decide +kernel
theorem dL_law_490 : decode cL_law 490 = .ok (.if_icmp .eq 84, 3) := by decide +kernel
theorem dL_law_493 : decode cL_law 493 = .ok (.iconst 0, 1) := by decide +kernel
theorem dL_law_494 : decode cL_law 494 = .ok (.ireturn, 1) := by decide +kernel
theorem dL_law_495 : decode cL_law 495 = .ok (.aload_n 1, 1) := by decide +kernel
theorem dL_law_496 : decode cL_law 496 = .ok (.invokevirtual 71, 3) := by decide +kernel
theorem dL_law_499 : decode cL_law 499 = .ok (.aload_n 2, 1) := by decide +kernel
theorem dL_law_500 : decode cL_law 500 = .ok (.invokevirtual 75, 3) := by decide +kernel
theorem dL_law_503 : decode cL_law 503 = .ok (.if_icmp .eq 71, 3) := by decide +kernel
theorem dL_law_506 : decode cL_law 506 = .ok (.iconst 0, 1) := by decide +kernel
theorem dL_law_507 : decode cL_law 507 = .ok (.ireturn, 1) := by decide +kernel
theorem dL_law_508 : decode cL_law 508 = .ok (.aload_n 1, 1) := by decide +kernel
theorem dL_law_509 : decode cL_law 509 = .ok (.invokevirtual 76, 3) := by decide +kernel
theorem dL_law_512 : decode cL_law 512 = .ok (.aload_n 2, 1) := by decide +kernel
theorem dL_law_513 : decode cL_law 513 = .ok (.invokevirtual 79, 3) := by decide +kernel
theorem dL_law_516 : decode cL_law 516 = .ok (.if_icmp .eq 58, 3) := by decide +kernel
theorem dL_law_519 : decode cL_law 519 = .ok (.iconst 0, 1) := by decide +kernel
theorem dL_law_520 : decode cL_law 520 = .ok (.ireturn, 1) := by decide +kernel
theorem dL_law_521 : decode cL_law 521 = .ok (.aload_n 1, 1) := by decide +kernel
theorem dL_law_522 : decode cL_law 522 = .ok (.aload_n 0, 1) := by decide +kernel
theorem dL_law_523 : decode cL_law 523 = .ok (.iload_n 3, 1) := by decide +kernel
theorem dL_law_524 : decode cL_law 524 = .ok (.iconst 1, 1) := by decide +kernel
theorem dL_law_525 : decode cL_law 525 = .ok (.iadd, 1) := by decide +kernel
theorem dL_law_526 : decode cL_law 526 = .ok (.iaload, 1) := by decide +kernel
theorem dL_law_527 : decode cL_law 527 = .ok (.aload_n 0, 1) := by decide +kernel
theorem dL_law_528 : decode cL_law 528 = .ok (.iload_n 3, 1) := by decide +kernel
theorem dL_law_529 : decode cL_law 529 = .ok (.iconst 2, 1) := by decide +kernel
theorem dL_law_530 : decode cL_law 530 = .ok (.iadd, 1) := by decide +kernel
theorem dL_law_531 : decode cL_law 531 = .ok (.iaload, 1) := by decide +kernel
theorem dL_law_532 : decode cL_law 532 = .ok (.aload_n 0, 1) := by decide +kernel
theorem dL_law_533 : decode cL_law 533 = .ok (.iload_n 3, 1) := by decide +kernel
theorem dL_law_534 : decode cL_law 534 = .ok (.iconst 3, 1) := by decide +kernel
theorem dL_law_535 : decode cL_law 535 = .ok (.iadd, 1) := by decide +kernel
theorem dL_law_536 : decode cL_law 536 = .ok (.iaload, 1) := by decide +kernel
theorem dL_law_537 : decode cL_law 537 = .ok (.aload_n 0, 1) := by decide +kernel
theorem dL_law_538 : decode cL_law 538 = .ok (.iload_n 3, 1) := by decide +kernel
theorem dL_law_539 : decode cL_law 539 = .ok (.iconst 4, 1) := by decide +kernel
theorem dL_law_540 : decode cL_law 540 = .ok (.iadd, 1) := by decide +kernel
theorem dL_law_541 : decode cL_law 541 = .ok (.iaload, 1) := by decide +kernel
theorem dL_law_542 : decode cL_law 542 = .ok (.invokevirtual 80, 3) := by decide +kernel
theorem dL_law_545 : decode cL_law 545 = .ok (.aload_n 2, 1) := by decide +kernel
theorem dL_law_546 : decode cL_law 546 = .ok (.aload_n 0, 1) := by decide +kernel
theorem dL_law_547 : decode cL_law 547 = .ok (.iload_n 3, 1) := by decide +kernel
theorem dL_law_548 : decode cL_law 548 = .ok (.iconst 1, 1) := by decide +kernel
theorem dL_law_549 : decode cL_law 549 = .ok (.iadd, 1) := by decide +kernel
theorem dL_law_550 : decode cL_law 550 = .ok (.iaload, 1) := by decide +kernel
theorem dL_law_551 : decode cL_law 551 = .ok (.aload_n 0, 1) := by decide +kernel
theorem dL_law_552 : decode cL_law 552 = .ok (.iload_n 3, 1) := by decide +kernel
theorem dL_law_553 : decode cL_law 553 = .ok (.iconst 2, 1) := by decide +kernel
theorem dL_law_554 : decode cL_law 554 = .ok (.iadd, 1) := by decide +kernel
theorem dL_law_555 : decode cL_law 555 = .ok (.iaload, 1) := by decide +kernel
theorem dL_law_556 : decode cL_law 556 = .ok (.aload_n 0, 1) := by decide +kernel
theorem dL_law_557 : decode cL_law 557 = .ok (.iload_n 3, 1) := by decide +kernel
theorem dL_law_558 : decode cL_law 558 = .ok (.iconst 3, 1) := by decide +kernel
theorem dL_law_559 : decode cL_law 559 = .ok (.iadd, 1) := by decide +kernel
theorem dL_law_560 : decode cL_law 560 = .ok (.iaload, 1) := by decide +kernel
theorem dL_law_561 : decode cL_law 561 = .ok (.aload_n 0, 1) := by decide +kernel
theorem dL_law_562 : decode cL_law 562 = .ok (.iload_n 3, 1) := by decide +kernel
theorem dL_law_563 : decode cL_law 563 = .ok (.iconst 4, 1) := by decide +kernel
theorem dL_law_564 : decode cL_law 564 = .ok (.iadd, 1) := by decide +kernel
theorem dL_law_565 : decode cL_law 565 = .ok (.iaload, 1) := by decide +kernel
theorem dL_law_566 : decode cL_law 566 = .ok (.invokevirtual 83, 3) := by decide +kernel
theorem dL_law_569 : decode cL_law 569 = .ok (.if_icmp .eq 5, 3) := by decide +kernel
theorem dL_law_572 : decode cL_law 572 = .ok (.iconst 0, 1) := by decide +kernel
theorem dL_law_573 : decode cL_law 573 = .ok (.ireturn, 1) := by decide +kernel
theorem dL_law_574 : decode cL_law 574 = .ok (.iinc 3 5, 3) := by decide +kernel
theorem dL_law_577 : decode cL_law 577 = .ok (.goto (-549), 3) := by decide +kernel
theorem dL_law_580 : decode cL_law 580 = .ok (.iconst 1, 1) := by decide +kernel
theorem dL_law_581 : decode cL_law 581 = .ok (.ireturn, 1) := by decide +kernel
abbrev vwCl : List vw_C := [(RX0, TX0, 6), (RX1, TX1, 4)]
