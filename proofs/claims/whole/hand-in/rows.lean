section
-- ===== PART A: goes FIRST, ahead of the names: the tables' words, and 'selects' of the private methods out of them =====
/-- a private method of a class that the tables say can be made, by its rows of tables_1 -/
def lw_okq (q : MethodName × Nat) : Prop := (q.1.cls ≠ "java/lang/invoke/MethodHandle" ∧ q.1.cls ≠ "java/lang/invoke/VarHandle") ∧ Cond.instantiable q.1.cls q.2 ∈ tables_1 ∧ Cond.privateMethod q.1 ∈ tables_1 ∧ Cond.instanceMethod q.1 ∈ tables_1
theorem lw_p0 : lw_okq (⟨"PageIndex", "keyOfTriple", "(III)J"⟩, 6) := ⟨⟨by decide +kernel, by decide +kernel⟩, List.mem_of_getElem? (i := 7) (by decide +kernel), List.mem_of_getElem? (i := 52) (by decide +kernel), List.mem_of_getElem? (i := 53) (by decide +kernel)⟩
theorem lw_p1 : lw_okq (⟨"PageIndex", "keysBefore", "(J)I"⟩, 6) := ⟨⟨by decide +kernel, by decide +kernel⟩, List.mem_of_getElem? (i := 7) (by decide +kernel), List.mem_of_getElem? (i := 59) (by decide +kernel), List.mem_of_getElem? (i := 60) (by decide +kernel)⟩
theorem lw_p2 : lw_okq (⟨"PageIndex", "isKeyAt", "(IJ)Z"⟩, 6) := ⟨⟨by decide +kernel, by decide +kernel⟩, List.mem_of_getElem? (i := 7) (by decide +kernel), List.mem_of_getElem? (i := 63) (by decide +kernel), List.mem_of_getElem? (i := 64) (by decide +kernel)⟩
theorem lw_p3 : lw_okq (⟨"PageIndex", "putIn", "(IJ)V"⟩, 6) := ⟨⟨by decide +kernel, by decide +kernel⟩, List.mem_of_getElem? (i := 7) (by decide +kernel), List.mem_of_getElem? (i := 67) (by decide +kernel), List.mem_of_getElem? (i := 68) (by decide +kernel)⟩
theorem lw_p4 : lw_okq (⟨"PageIndex", "takeOut", "(II)V"⟩, 6) := ⟨⟨by decide +kernel, by decide +kernel⟩, List.mem_of_getElem? (i := 7) (by decide +kernel), List.mem_of_getElem? (i := 93) (by decide +kernel), List.mem_of_getElem? (i := 94) (by decide +kernel)⟩
theorem lw_p5 : lw_okq (⟨"PageIndex", "isHeld", "(J)Z"⟩, 6) := ⟨⟨by decide +kernel, by decide +kernel⟩, List.mem_of_getElem? (i := 7) (by decide +kernel), List.mem_of_getElem? (i := 101) (by decide +kernel), List.mem_of_getElem? (i := 102) (by decide +kernel)⟩
theorem lw_p6 : lw_okq (⟨"PageIndex", "endOf", "(IIII)I"⟩, 6) := ⟨⟨by decide +kernel, by decide +kernel⟩, List.mem_of_getElem? (i := 7) (by decide +kernel), List.mem_of_getElem? (i := 109) (by decide +kernel), List.mem_of_getElem? (i := 110) (by decide +kernel)⟩
theorem lw_p7 : lw_okq (⟨"PageIndex", "startOf", "(IIII)I"⟩, 6) := ⟨⟨by decide +kernel, by decide +kernel⟩, List.mem_of_getElem? (i := 7) (by decide +kernel), List.mem_of_getElem? (i := 125) (by decide +kernel), List.mem_of_getElem? (i := 126) (by decide +kernel)⟩
theorem lw_p8 : lw_okq (⟨"PageIndex", "beginnings", "(III)I"⟩, 6) := ⟨⟨by decide +kernel, by decide +kernel⟩, List.mem_of_getElem? (i := 7) (by decide +kernel), List.mem_of_getElem? (i := 133) (by decide +kernel), List.mem_of_getElem? (i := 134) (by decide +kernel)⟩
theorem lw_p9 : lw_okq (⟨"PageIndex", "standAt", "(I)Z"⟩, 6) := ⟨⟨by decide +kernel, by decide +kernel⟩, List.mem_of_getElem? (i := 7) (by decide +kernel), List.mem_of_getElem? (i := 145) (by decide +kernel), List.mem_of_getElem? (i := 146) (by decide +kernel)⟩
theorem lw_p10 : lw_okq (⟨"PageIndex", "cursorNumber", "(I)I"⟩, 6) := ⟨⟨by decide +kernel, by decide +kernel⟩, List.mem_of_getElem? (i := 7) (by decide +kernel), List.mem_of_getElem? (i := 165) (by decide +kernel), List.mem_of_getElem? (i := 166) (by decide +kernel)⟩
theorem lw_p11 : lw_okq (⟨"PageIndexModel", "key", "(III)J"⟩, 4) := ⟨⟨by decide +kernel, by decide +kernel⟩, List.mem_of_getElem? (i := 184) (by decide +kernel), List.mem_of_getElem? (i := 216) (by decide +kernel), List.mem_of_getElem? (i := 217) (by decide +kernel)⟩
theorem lw_p12 : lw_okq (⟨"PageIndexModel", "below", "(J)I"⟩, 4) := ⟨⟨by decide +kernel, by decide +kernel⟩, List.mem_of_getElem? (i := 184) (by decide +kernel), List.mem_of_getElem? (i := 224) (by decide +kernel), List.mem_of_getElem? (i := 225) (by decide +kernel)⟩
theorem lw_p13 : lw_okq (⟨"PageIndexModel", "isThere", "(IJ)Z"⟩, 4) := ⟨⟨by decide +kernel, by decide +kernel⟩, List.mem_of_getElem? (i := 184) (by decide +kernel), List.mem_of_getElem? (i := 228) (by decide +kernel), List.mem_of_getElem? (i := 229) (by decide +kernel)⟩
theorem lw_p14 : lw_okq (⟨"PageIndexModel", "take", "(I)V"⟩, 4) := ⟨⟨by decide +kernel, by decide +kernel⟩, List.mem_of_getElem? (i := 184) (by decide +kernel), List.mem_of_getElem? (i := 236) (by decide +kernel), List.mem_of_getElem? (i := 237) (by decide +kernel)⟩
theorem lw_p15 : lw_okq (⟨"PageIndexModel", "stand", "(I)Z"⟩, 4) := ⟨⟨by decide +kernel, by decide +kernel⟩, List.mem_of_getElem? (i := 184) (by decide +kernel), List.mem_of_getElem? (i := 268) (by decide +kernel), List.mem_of_getElem? (i := 269) (by decide +kernel)⟩
def lw_privs_1 : List (MethodName × Nat) := [(⟨"PageIndex", "keyOfTriple", "(III)J"⟩, 6), (⟨"PageIndex", "keysBefore", "(J)I"⟩, 6), (⟨"PageIndex", "isKeyAt", "(IJ)Z"⟩, 6), (⟨"PageIndex", "putIn", "(IJ)V"⟩, 6), (⟨"PageIndex", "takeOut", "(II)V"⟩, 6), (⟨"PageIndex", "isHeld", "(J)Z"⟩, 6), (⟨"PageIndex", "endOf", "(IIII)I"⟩, 6), (⟨"PageIndex", "startOf", "(IIII)I"⟩, 6), (⟨"PageIndex", "beginnings", "(III)I"⟩, 6), (⟨"PageIndex", "standAt", "(I)Z"⟩, 6), (⟨"PageIndex", "cursorNumber", "(I)I"⟩, 6), (⟨"PageIndexModel", "key", "(III)J"⟩, 4), (⟨"PageIndexModel", "below", "(J)I"⟩, 4), (⟨"PageIndexModel", "isThere", "(IJ)Z"⟩, 4), (⟨"PageIndexModel", "take", "(I)V"⟩, 4), (⟨"PageIndexModel", "stand", "(I)Z"⟩, 4)]
theorem lw_r1 : ∀ q ∈ lw_privs_1, lw_okq q := List.forall_mem_cons.mpr ⟨lw_p0, List.forall_mem_cons.mpr ⟨lw_p1, List.forall_mem_cons.mpr ⟨lw_p2, List.forall_mem_cons.mpr ⟨lw_p3, List.forall_mem_cons.mpr ⟨lw_p4, List.forall_mem_cons.mpr ⟨lw_p5, List.forall_mem_cons.mpr ⟨lw_p6, List.forall_mem_cons.mpr ⟨lw_p7, List.forall_mem_cons.mpr ⟨lw_p8, List.forall_mem_cons.mpr ⟨lw_p9, List.forall_mem_cons.mpr ⟨lw_p10, List.forall_mem_cons.mpr ⟨lw_p11, List.forall_mem_cons.mpr ⟨lw_p12, List.forall_mem_cons.mpr ⟨lw_p13, List.forall_mem_cons.mpr ⟨lw_p14, List.forall_mem_cons.mpr ⟨lw_p15, fun _ h => absurd h List.not_mem_nil⟩⟩⟩⟩⟩⟩⟩⟩⟩⟩⟩⟩⟩⟩⟩⟩
theorem lw_p16 : lw_okq (⟨"PageIndexModel", "number", "(I)I"⟩, 4) := ⟨⟨by decide +kernel, by decide +kernel⟩, List.mem_of_getElem? (i := 184) (by decide +kernel), List.mem_of_getElem? (i := 288) (by decide +kernel), List.mem_of_getElem? (i := 289) (by decide +kernel)⟩
theorem lw_p17 : lw_okq (⟨"PageIndexModel", "placeOf", "(I)I"⟩, 4) := ⟨⟨by decide +kernel, by decide +kernel⟩, List.mem_of_getElem? (i := 184) (by decide +kernel), List.mem_of_getElem? (i := 292) (by decide +kernel), List.mem_of_getElem? (i := 293) (by decide +kernel)⟩
def lw_privs_2 : List (MethodName × Nat) := [(⟨"PageIndexModel", "number", "(I)I"⟩, 4), (⟨"PageIndexModel", "placeOf", "(I)I"⟩, 4)]
theorem lw_r2 : ∀ q ∈ lw_privs_2, lw_okq q := List.forall_mem_cons.mpr ⟨lw_p16, List.forall_mem_cons.mpr ⟨lw_p17, fun _ h => absurd h List.not_mem_nil⟩⟩
def lw_privs : List (MethodName × Nat) := lw_privs_1 ++ (lw_privs_2)
def lw_tbl : List Cond := k2_sels lw_privs ++ tables_1
theorem lw_privs_ok : ∀ q ∈ lw_privs, lw_okq q := by
  show ∀ q ∈ lw_privs_1 ++ (lw_privs_2), lw_okq q
  exact List.forall_mem_append.mpr ⟨lw_r1, lw_r2⟩
/-! ===== BEGIN words of one list among another's, by their places ===== -/
theorem goodIn_r {big : List Cond} (ws : List Cond) (ps : List Nat) (hp : ws = ps.filterMap (fun i => big[i]?)) (h : ws.all goodWord = true) : GoodIn big ws := by
  intro w hw
  have h1 := List.all_eq_true.mp h w hw
  rw [hp] at hw
  obtain ⟨i, -, hi⟩ := List.mem_filterMap.mp hw
  have hm : w ∈ big := by first | exact List.mem_of_getElem? hi | exact List.getElem?_mem hi
  exact ⟨hm, good_of_word h1⟩
theorem goodIn_app {big a b : List Cond} (ha : GoodIn big a) (hb : GoodIn big b) : GoodIn big (a ++ b) := fun w h => (List.mem_append.mp h).elim (ha w) (hb w)
theorem goodIn_ca {big a b : List Cond} {c : Cond} (ha : GoodIn big (c :: a)) (hb : GoodIn big b) : GoodIn big (c :: (a ++ b)) := fun w h => (List.mem_cons.mp h).elim (fun e => ha w (List.mem_cons.mpr (Or.inl e))) (fun h => (List.mem_append.mp h).elim (fun h => ha w (List.mem_cons.mpr (Or.inr h))) (hb w))
theorem goodIn_sub {big ws : List Cond} (hm : ∀ w ∈ ws, w ∈ big) (h : ws.all goodWord = true) : GoodIn big ws := fun w hw => ⟨hm w hw, good_of_word (List.all_eq_true.mp h w hw)⟩
/-! ===== END ===== -/

/-! ===== BEGIN printed: names, fields, word lists, decode rows ===== -/
def RX0 : String := "PageIndex"
def TX0 : u_T := fun k => match k with
  | 0 => ("PageIndex", "placeOfX", "I", true)
  | 1 => ("PageIndex", "placeOfY", "I", true)
  | 2 => ("PageIndex", "placeOfZ", "I", true)
  | 3 => ("PageIndex", "keys", "[J", false)
  | 4 => ("PageIndex", "held", "I", false)
  | _ => ("PageIndex", "cursor", "J", false)
def tyX0 : Nat → FieldType := fun k => match k with
  | 0 => .int
  | 1 => .int
  | 2 => .int
  | 3 => .array .long
  | 4 => .int
  | _ => .long
abbrev wsX00 : List Cond := u_ws RX0 TX0 6
theorem nmX0 : ∀ a, a < 6 → ∀ b, b < 6 → a ≠ b → (TX0 a).2.1 ≠ (TX0 b).2.1 := by decide +kernel
theorem tyX0_ok : ∀ k, k < 6 → parseFieldDescriptor (TX0 k).2.2.1 = some (tyX0 k) := by decide +kernel
abbrev cX0_init : ByteArray := prog_1_method_1_code
def yX0_init : MethodName := ⟨RX0, "<init>", "(I)V"⟩
abbrev cX0_insert : ByteArray := prog_1_method_2_code
def yX0_insert : MethodName := ⟨RX0, "insert", "(III)I"⟩
abbrev cX0_remove : ByteArray := prog_1_method_3_code
def yX0_remove : MethodName := ⟨RX0, "remove", "(III)I"⟩
abbrev cX0_has : ByteArray := prog_1_method_4_code
def yX0_has : MethodName := ⟨RX0, "has", "(III)I"⟩
abbrev cX0_count : ByteArray := prog_1_method_5_code
def yX0_count : MethodName := ⟨RX0, "count", "(IIII)I"⟩
abbrev cX0_different : ByteArray := prog_1_method_6_code
def yX0_different : MethodName := ⟨RX0, "different", "(III)I"⟩
abbrev cX0_rank : ByteArray := prog_1_method_7_code
def yX0_rank : MethodName := ⟨RX0, "rank", "(III)I"⟩
abbrev cX0_choose : ByteArray := prog_1_method_8_code
def yX0_choose : MethodName := ⟨RX0, "choose", "(I)Z"⟩
abbrev cX0_seek : ByteArray := prog_1_method_9_code
def yX0_seek : MethodName := ⟨RX0, "seek", "(III)Z"⟩
abbrev cX0_next : ByteArray := prog_1_method_10_code
def yX0_next : MethodName := ⟨RX0, "next", "()Z"⟩
abbrev cX0_previous : ByteArray := prog_1_method_11_code
def yX0_previous : MethodName := ⟨RX0, "previous", "()Z"⟩
abbrev cX0_told : ByteArray := prog_1_method_12_code
def yX0_told : MethodName := ⟨RX0, "told", "(I)I"⟩
abbrev cX0_stands : ByteArray := prog_1_method_13_code
def yX0_stands : MethodName := ⟨RX0, "stands", "()I"⟩
abbrev cX0_size : ByteArray := prog_1_method_14_code
def yX0_size : MethodName := ⟨RX0, "size", "()I"⟩
abbrev cX0_cut : ByteArray := prog_1_method_15_code
def yX0_cut : MethodName := ⟨RX0, "cut", "(IIII)I"⟩
abbrev cX0_isNumber : ByteArray := prog_1_method_16_code
def yX0_isNumber : MethodName := ⟨RX0, "isNumber", "(I)Z"⟩
abbrev cX0_areNumbers : ByteArray := prog_1_method_17_code
def yX0_areNumbers : MethodName := ⟨RX0, "areNumbers", "(III)Z"⟩
abbrev cX0_areFirstNumbers : ByteArray := prog_1_method_18_code
def yX0_areFirstNumbers : MethodName := ⟨RX0, "areFirstNumbers", "(IIII)Z"⟩
abbrev cX0_shiftOf : ByteArray := prog_1_method_19_code
def yX0_shiftOf : MethodName := ⟨RX0, "shiftOf", "(I)I"⟩
abbrev cX0_keyOf : ByteArray := prog_1_method_20_code
def yX0_keyOf : MethodName := ⟨RX0, "keyOf", "(III)J"⟩
abbrev cX0_keyOfTriple : ByteArray := prog_1_method_21_code
def yX0_keyOfTriple : MethodName := ⟨RX0, "keyOfTriple", "(III)J"⟩
abbrev cX0_firstKey : ByteArray := prog_1_method_22_code
def yX0_firstKey : MethodName := ⟨RX0, "firstKey", "(IIII)J"⟩
abbrev cX0_keysInAll : ByteArray := prog_1_method_23_code
def yX0_keysInAll : MethodName := ⟨RX0, "keysInAll", "(I)J"⟩
abbrev cX0_startOf : ByteArray := prog_1_method_24_code
def yX0_startOf : MethodName := ⟨RX0, "startOf", "(IIII)I"⟩
abbrev cX0_endOf : ByteArray := prog_1_method_25_code
def yX0_endOf : MethodName := ⟨RX0, "endOf", "(IIII)I"⟩
abbrev cX0_keysBefore : ByteArray := prog_1_method_26_code
def yX0_keysBefore : MethodName := ⟨RX0, "keysBefore", "(J)I"⟩
abbrev cX0_isKeyAt : ByteArray := prog_1_method_27_code
def yX0_isKeyAt : MethodName := ⟨RX0, "isKeyAt", "(IJ)Z"⟩
abbrev cX0_isHeld : ByteArray := prog_1_method_28_code
def yX0_isHeld : MethodName := ⟨RX0, "isHeld", "(J)Z"⟩
abbrev cX0_beginnings : ByteArray := prog_1_method_29_code
def yX0_beginnings : MethodName := ⟨RX0, "beginnings", "(III)I"⟩
abbrev cX0_putIn : ByteArray := prog_1_method_30_code
def yX0_putIn : MethodName := ⟨RX0, "putIn", "(IJ)V"⟩
abbrev cX0_takeOut : ByteArray := prog_1_method_31_code
def yX0_takeOut : MethodName := ⟨RX0, "takeOut", "(II)V"⟩
abbrev cX0_standAt : ByteArray := prog_1_method_32_code
def yX0_standAt : MethodName := ⟨RX0, "standAt", "(I)Z"⟩
abbrev cX0_cursorNumber : ByteArray := prog_1_method_33_code
def yX0_cursorNumber : MethodName := ⟨RX0, "cursorNumber", "(I)I"⟩
def RX1 : String := "PageIndexModel"
def TX1 : u_T := fun k => match k with
  | 0 => ("PageIndexModel", "keys", "[J", true)
  | 1 => ("PageIndexModel", "size", "I", false)
  | 2 => ("PageIndexModel", "order", "I", true)
  | _ => ("PageIndexModel", "cursor", "J", false)
def tyX1 : Nat → FieldType := fun k => match k with
  | 0 => .array .long
  | 1 => .int
  | 2 => .int
  | _ => .long
abbrev wsX10 : List Cond := u_ws RX1 TX1 4
theorem nmX1 : ∀ a, a < 4 → ∀ b, b < 4 → a ≠ b → (TX1 a).2.1 ≠ (TX1 b).2.1 := by decide +kernel
theorem tyX1_ok : ∀ k, k < 4 → parseFieldDescriptor (TX1 k).2.2.1 = some (tyX1 k) := by decide +kernel
abbrev cX1_init : ByteArray := prog_3_method_1_code
def yX1_init : MethodName := ⟨RX1, "<init>", "(I)V"⟩
abbrev cX1_isNumber : ByteArray := prog_3_method_2_code
def yX1_isNumber : MethodName := ⟨RX1, "isNumber", "(I)Z"⟩
abbrev cX1_areNumbers : ByteArray := prog_3_method_3_code
def yX1_areNumbers : MethodName := ⟨RX1, "areNumbers", "(IIII)Z"⟩
abbrev cX1_packed : ByteArray := prog_3_method_4_code
def yX1_packed : MethodName := ⟨RX1, "packed", "(JJJ)J"⟩
abbrev cX1_key : ByteArray := prog_3_method_5_code
def yX1_key : MethodName := ⟨RX1, "key", "(III)J"⟩
abbrev cX1_below : ByteArray := prog_3_method_6_code
def yX1_below : MethodName := ⟨RX1, "below", "(J)I"⟩
abbrev cX1_isThere : ByteArray := prog_3_method_7_code
def yX1_isThere : MethodName := ⟨RX1, "isThere", "(IJ)Z"⟩
abbrev cX1_insert : ByteArray := prog_3_method_8_code
def yX1_insert : MethodName := ⟨RX1, "insert", "(III)I"⟩
abbrev cX1_take : ByteArray := prog_3_method_9_code
def yX1_take : MethodName := ⟨RX1, "take", "(I)V"⟩
abbrev cX1_remove : ByteArray := prog_3_method_10_code
def yX1_remove : MethodName := ⟨RX1, "remove", "(III)I"⟩
def RJx8e188 : String := "java/lang/Cloneable"
def TJx8e188 : u_T := fun k => match k with
  | _ => ("", "", "", false)
def tyJx8e188 : Nat → FieldType := fun k => match k with
  | _ => .int
abbrev wsJx8e1880 : List Cond := u_ws RJx8e188 TJx8e188 0
theorem nmJx8e188 : ∀ a, a < 0 → ∀ b, b < 0 → a ≠ b → (TJx8e188 a).2.1 ≠ (TJx8e188 b).2.1 := by decide +kernel
theorem tyJx8e188_ok : ∀ k, k < 0 → parseFieldDescriptor (TJx8e188 k).2.2.1 = some (tyJx8e188 k) := by decide +kernel
def RJ9 : String := "java/lang/Math"
def TJ9 : u_T := fun k => match k with
  | _ => ("", "", "", false)
def tyJ9 : Nat → FieldType := fun k => match k with
  | _ => .int
abbrev wsJ90 : List Cond := u_ws RJ9 TJ9 0
theorem nmJ9 : ∀ a, a < 0 → ∀ b, b < 0 → a ≠ b → (TJ9 a).2.1 ≠ (TJ9 b).2.1 := by decide +kernel
theorem tyJ9_ok : ∀ k, k < 0 → parseFieldDescriptor (TJ9 k).2.2.1 = some (tyJ9 k) := by decide +kernel
abbrev cJ9_floorMod_7cf53 : ByteArray := prog_5_method_50_code
def yJ9_floorMod_7cf53 : MethodName := ⟨RJ9, "floorMod", "(II)I"⟩
abbrev cJ9_min_7cf53 : ByteArray := prog_5_method_69_code
def yJ9_min_7cf53 : MethodName := ⟨RJ9, "min", "(II)I"⟩
def RJ10 : String := "java/lang/System"
def TJ10 : u_T := fun k => match k with
  | _ => ("", "", "", false)
def tyJ10 : Nat → FieldType := fun k => match k with
  | _ => .int
abbrev wsJ100 : List Cond := u_ws RJ10 TJ10 0
theorem nmJ10 : ∀ a, a < 0 → ∀ b, b < 0 → a ≠ b → (TJ10 a).2.1 ≠ (TJ10 b).2.1 := by decide +kernel
theorem tyJ10_ok : ∀ k, k < 0 → parseFieldDescriptor (TJ10 k).2.2.1 = some (tyJ10 k) := by decide +kernel
def RJ7 : String := "java/util/Arrays"
def TJ7 : u_T := fun k => match k with
  | _ => ("", "", "", false)
def tyJ7 : Nat → FieldType := fun k => match k with
  | _ => .int
abbrev wsJ70 : List Cond := u_ws RJ7 TJ7 0
theorem nmJ7 : ∀ a, a < 0 → ∀ b, b < 0 → a ≠ b → (TJ7 a).2.1 ≠ (TJ7 b).2.1 := by decide +kernel
theorem tyJ7_ok : ∀ k, k < 0 → parseFieldDescriptor (TJ7 k).2.2.1 = some (tyJ7 k) := by decide +kernel
abbrev cJ7_copyOf_c38d5 : ByteArray := prog_7_method_124_code
def yJ7_copyOf_c38d5 : MethodName := ⟨RJ7, "copyOf", "([JI)[J"⟩
def RL : String := "PageIndexLaw"
abbrev cL_cell : ByteArray := method_2_code
def yL_cell : MethodName := ⟨RL, "cell", "([II)I"⟩
abbrev cL_law : ByteArray := code
def yL_law : MethodName := ⟨RL, "law", "([I)Z"⟩
def wsJ9_floorMod_7cf53 : List Cond := .code yJ9_floorMod_7cf53 cJ9_floorMod_7cf53 3 (some .int) :: ([])
def wsX0_init : List Cond := .code yX0_init cX0_init 3 none :: ([.methodLink RX0 3 objectInit, .instanceMethod objectInit, .code objectInit ⟨#[0xb1]⟩ 1 none, .fieldLink RX0 15 "PageIndex" "PLACES" "[I", .fieldLink RX0 19 "PageIndex" "placeOfX" "I", .fieldLink RX0 23 "PageIndex" "placeOfY" "I", .fieldLink RX0 26 "PageIndex" "placeOfZ" "I", .arrayClass .long, .fieldLink RX0 29 "PageIndex" "keys" "[J", .fieldLink RX0 33 "PageIndex" "held" "I", .constantLong RX0 36 (-1), .fieldLink RX0 38 "PageIndex" "cursor" "J", .methodLink RX0 9 yJ9_floorMod_7cf53, .static yJ9_floorMod_7cf53, .initialized RJ9, .code yJ9_floorMod_7cf53 cJ9_floorMod_7cf53 3 (some .int)] ++ wsX00)
def wsX0_isNumber : List Cond := .code yX0_isNumber cX0_isNumber 1 (some .boolean) :: ([.constant RX0 95 (1048575)])
def wsX0_areNumbers : List Cond := .code yX0_areNumbers cX0_areNumbers 3 (some .boolean) :: ([.methodLink RX0 96 yX0_isNumber, .static yX0_isNumber, .initialized RX0, .code yX0_isNumber cX0_isNumber 1 (some .boolean), .constant RX0 95 (1048575)])
def wsX0_shiftOf : List Cond := .code yX0_shiftOf cX0_shiftOf 1 (some .int) :: ([])
def wsX0_keyOfTriple : List Cond := .code yX0_keyOfTriple cX0_keyOfTriple 4 (some .long) :: ([.fieldLink RX0 19 "PageIndex" "placeOfX" "I", .fieldLink RX0 23 "PageIndex" "placeOfY" "I", .fieldLink RX0 26 "PageIndex" "placeOfZ" "I", .methodLink RX0 77 yX0_shiftOf, .static yX0_shiftOf, .initialized RX0, .code yX0_shiftOf cX0_shiftOf 1 (some .int)] ++ wsX00)
def wsX0_keysBefore : List Cond := .code yX0_keysBefore cX0_keysBefore 6 (some .int) :: ([.fieldLink RX0 33 "PageIndex" "held" "I", .fieldLink RX0 29 "PageIndex" "keys" "[J"] ++ wsX00)
def wsX0_isKeyAt : List Cond := .code yX0_isKeyAt cX0_isKeyAt 4 (some .boolean) :: ([.fieldLink RX0 33 "PageIndex" "held" "I", .fieldLink RX0 29 "PageIndex" "keys" "[J"] ++ wsX00)
def wsJ7_copyOf_c38d5 : List Cond := .code yJ7_copyOf_c38d5 cJ7_copyOf_c38d5 3 (some (.array .long)) :: ([.methodLink RJ7 319 ⟨"[J", "clone", "()Ljava/lang/Object;"⟩, .sameMethod "[J" "java/lang/Object" "clone" "()Ljava/lang/Object;", .native ⟨"java/lang/Object", "clone", "()Ljava/lang/Object;"⟩, .instanceMethod ⟨"java/lang/Object", "clone", "()Ljava/lang/Object;"⟩, .selects "[J" ⟨"[J", "clone", "()Ljava/lang/Object;"⟩ ⟨"java/lang/Object", "clone", "()Ljava/lang/Object;"⟩, .classLink RJ7 320 "[J", .arrayClass .long, .methodLink RJ7 304 Lib.Math.min.name, .static Lib.Math.min.name, .initialized "java/lang/Math", .code Lib.Math.min.name Lib.Math.min.code 2 (some .int), .methodLink RJ7 150 arraycopyName, .native arraycopyName, .static arraycopyName, .initialized "java/lang/System"])
def wsX0_putIn : List Cond := .code yX0_putIn cX0_putIn 4 none :: ([.fieldLink RX0 33 "PageIndex" "held" "I", .fieldLink RX0 29 "PageIndex" "keys" "[J", .methodLink RX0 111 Lib.Math.min.name, .static Lib.Math.min.name, .initialized "java/lang/Math", .code Lib.Math.min.name Lib.Math.min.code 2 (some .int), .methodLink RX0 120 arraycopyName, .native arraycopyName, .static arraycopyName, .initialized "java/lang/System", .methodLink RX0 114 yJ7_copyOf_c38d5, .static yJ7_copyOf_c38d5, .initialized RJ7, .code yJ7_copyOf_c38d5 cJ7_copyOf_c38d5 3 (some (.array .long)), .methodLink RJ7 319 ⟨"[J", "clone", "()Ljava/lang/Object;"⟩, .sameMethod "[J" "java/lang/Object" "clone" "()Ljava/lang/Object;", .native ⟨"java/lang/Object", "clone", "()Ljava/lang/Object;"⟩, .instanceMethod ⟨"java/lang/Object", "clone", "()Ljava/lang/Object;"⟩, .selects "[J" ⟨"[J", "clone", "()Ljava/lang/Object;"⟩ ⟨"java/lang/Object", "clone", "()Ljava/lang/Object;"⟩, .classLink RJ7 320 "[J", .arrayClass .long, .methodLink RJ7 304 Lib.Math.min.name, .methodLink RJ7 150 arraycopyName] ++ wsX00)
def wsX0_insert_r1 : List Cond := [Cond.fieldLink RX0 33 "PageIndex" "held" "I", Cond.methodLink RX0 42 yX0_areNumbers, Cond.static yX0_areNumbers, Cond.initialized RX0, Cond.code yX0_areNumbers cX0_areNumbers 3 (some .boolean), Cond.methodLink RX0 96 yX0_isNumber, Cond.static yX0_isNumber, Cond.code yX0_isNumber cX0_isNumber 1 (some .boolean), Cond.constant RX0 95 (1048575), Cond.methodLink RX0 46 yX0_keyOfTriple, Cond.instanceMethod yX0_keyOfTriple, Cond.selects RX0 yX0_keyOfTriple yX0_keyOfTriple, Cond.code yX0_keyOfTriple cX0_keyOfTriple 4 (some .long), Cond.fieldLink RX0 19 "PageIndex" "placeOfX" "I", Cond.fieldLink RX0 23 "PageIndex" "placeOfY" "I", Cond.fieldLink RX0 26 "PageIndex" "placeOfZ" "I", Cond.methodLink RX0 77 yX0_shiftOf, Cond.static yX0_shiftOf, Cond.code yX0_shiftOf cX0_shiftOf 1 (some .int), Cond.methodLink RX0 50 yX0_keysBefore, Cond.instanceMethod yX0_keysBefore, Cond.selects RX0 yX0_keysBefore yX0_keysBefore, Cond.code yX0_keysBefore cX0_keysBefore 6 (some .int), Cond.fieldLink RX0 29 "PageIndex" "keys" "[J"]
def wsX0_insert_r2 : List Cond := [Cond.methodLink RX0 54 yX0_isKeyAt, Cond.instanceMethod yX0_isKeyAt, Cond.selects RX0 yX0_isKeyAt yX0_isKeyAt, Cond.code yX0_isKeyAt cX0_isKeyAt 4 (some .boolean), Cond.methodLink RX0 58 yX0_putIn, Cond.instanceMethod yX0_putIn, Cond.selects RX0 yX0_putIn yX0_putIn, Cond.code yX0_putIn cX0_putIn 4 none, Cond.methodLink RX0 111 Lib.Math.min.name, Cond.static Lib.Math.min.name, Cond.initialized "java/lang/Math", Cond.code Lib.Math.min.name Lib.Math.min.code 2 (some .int), Cond.methodLink RX0 120 arraycopyName, Cond.native arraycopyName, Cond.static arraycopyName, Cond.initialized "java/lang/System", Cond.methodLink RX0 114 yJ7_copyOf_c38d5, Cond.static yJ7_copyOf_c38d5, Cond.initialized RJ7, Cond.code yJ7_copyOf_c38d5 cJ7_copyOf_c38d5 3 (some (.array .long)), Cond.methodLink RJ7 319 ⟨"[J", "clone", "()Ljava/lang/Object;"⟩, Cond.sameMethod "[J" "java/lang/Object" "clone" "()Ljava/lang/Object;", Cond.native ⟨"java/lang/Object", "clone", "()Ljava/lang/Object;"⟩, Cond.instanceMethod ⟨"java/lang/Object", "clone", "()Ljava/lang/Object;"⟩]
def wsX0_insert_r3 : List Cond := [Cond.selects "[J" ⟨"[J", "clone", "()Ljava/lang/Object;"⟩ ⟨"java/lang/Object", "clone", "()Ljava/lang/Object;"⟩, Cond.classLink RJ7 320 "[J", Cond.arrayClass .long, Cond.methodLink RJ7 304 Lib.Math.min.name, Cond.methodLink RJ7 150 arraycopyName]
def wsX0_insert : List Cond := .code yX0_insert cX0_insert 7 (some .int) :: ((wsX0_insert_r1 ++ (wsX0_insert_r2 ++ wsX0_insert_r3)) ++ wsX00)
def wsX0_takeOut : List Cond := .code yX0_takeOut cX0_takeOut 3 none :: ([.fieldLink RX0 29 "PageIndex" "keys" "[J", .fieldLink RX0 33 "PageIndex" "held" "I", .methodLink RX0 120 arraycopyName, .native arraycopyName, .static arraycopyName, .initialized "java/lang/System"] ++ wsX00)
def wsX0_remove_r1 : List Cond := [Cond.methodLink RX0 42 yX0_areNumbers, Cond.static yX0_areNumbers, Cond.initialized RX0, Cond.code yX0_areNumbers cX0_areNumbers 3 (some .boolean), Cond.methodLink RX0 96 yX0_isNumber, Cond.static yX0_isNumber, Cond.code yX0_isNumber cX0_isNumber 1 (some .boolean), Cond.constant RX0 95 (1048575), Cond.methodLink RX0 46 yX0_keyOfTriple, Cond.instanceMethod yX0_keyOfTriple, Cond.selects RX0 yX0_keyOfTriple yX0_keyOfTriple, Cond.code yX0_keyOfTriple cX0_keyOfTriple 4 (some .long), Cond.fieldLink RX0 19 "PageIndex" "placeOfX" "I", Cond.fieldLink RX0 23 "PageIndex" "placeOfY" "I", Cond.fieldLink RX0 26 "PageIndex" "placeOfZ" "I", Cond.methodLink RX0 77 yX0_shiftOf, Cond.static yX0_shiftOf, Cond.code yX0_shiftOf cX0_shiftOf 1 (some .int), Cond.methodLink RX0 50 yX0_keysBefore, Cond.instanceMethod yX0_keysBefore, Cond.selects RX0 yX0_keysBefore yX0_keysBefore, Cond.code yX0_keysBefore cX0_keysBefore 6 (some .int), Cond.fieldLink RX0 33 "PageIndex" "held" "I", Cond.fieldLink RX0 29 "PageIndex" "keys" "[J"]
def wsX0_remove_r2 : List Cond := [Cond.methodLink RX0 54 yX0_isKeyAt, Cond.instanceMethod yX0_isKeyAt, Cond.selects RX0 yX0_isKeyAt yX0_isKeyAt, Cond.code yX0_isKeyAt cX0_isKeyAt 4 (some .boolean), Cond.methodLink RX0 62 yX0_takeOut, Cond.instanceMethod yX0_takeOut, Cond.selects RX0 yX0_takeOut yX0_takeOut, Cond.code yX0_takeOut cX0_takeOut 3 none, Cond.methodLink RX0 120 arraycopyName, Cond.native arraycopyName, Cond.static arraycopyName, Cond.initialized "java/lang/System"]
def wsX0_remove : List Cond := .code yX0_remove cX0_remove 7 (some .int) :: ((wsX0_remove_r1 ++ wsX0_remove_r2) ++ wsX00)
def wsX0_isHeld : List Cond := .code yX0_isHeld cX0_isHeld 3 (some .boolean) :: ([.methodLink RX0 50 yX0_keysBefore, .instanceMethod yX0_keysBefore, .selects RX0 yX0_keysBefore yX0_keysBefore, .initialized RX0, .code yX0_keysBefore cX0_keysBefore 6 (some .int), .fieldLink RX0 33 "PageIndex" "held" "I", .fieldLink RX0 29 "PageIndex" "keys" "[J", .methodLink RX0 54 yX0_isKeyAt, .instanceMethod yX0_isKeyAt, .selects RX0 yX0_isKeyAt yX0_isKeyAt, .code yX0_isKeyAt cX0_isKeyAt 4 (some .boolean)] ++ wsX00)
def wsX0_has_r1 : List Cond := [Cond.methodLink RX0 42 yX0_areNumbers, Cond.static yX0_areNumbers, Cond.initialized RX0, Cond.code yX0_areNumbers cX0_areNumbers 3 (some .boolean), Cond.methodLink RX0 96 yX0_isNumber, Cond.static yX0_isNumber, Cond.code yX0_isNumber cX0_isNumber 1 (some .boolean), Cond.constant RX0 95 (1048575), Cond.methodLink RX0 46 yX0_keyOfTriple, Cond.instanceMethod yX0_keyOfTriple, Cond.selects RX0 yX0_keyOfTriple yX0_keyOfTriple, Cond.code yX0_keyOfTriple cX0_keyOfTriple 4 (some .long), Cond.fieldLink RX0 19 "PageIndex" "placeOfX" "I", Cond.fieldLink RX0 23 "PageIndex" "placeOfY" "I", Cond.fieldLink RX0 26 "PageIndex" "placeOfZ" "I", Cond.methodLink RX0 77 yX0_shiftOf, Cond.static yX0_shiftOf, Cond.code yX0_shiftOf cX0_shiftOf 1 (some .int), Cond.methodLink RX0 66 yX0_isHeld, Cond.instanceMethod yX0_isHeld, Cond.selects RX0 yX0_isHeld yX0_isHeld, Cond.code yX0_isHeld cX0_isHeld 3 (some .boolean), Cond.methodLink RX0 50 yX0_keysBefore, Cond.instanceMethod yX0_keysBefore]
def wsX0_has_r2 : List Cond := [Cond.selects RX0 yX0_keysBefore yX0_keysBefore, Cond.code yX0_keysBefore cX0_keysBefore 6 (some .int), Cond.fieldLink RX0 33 "PageIndex" "held" "I", Cond.fieldLink RX0 29 "PageIndex" "keys" "[J", Cond.methodLink RX0 54 yX0_isKeyAt, Cond.instanceMethod yX0_isKeyAt, Cond.selects RX0 yX0_isKeyAt yX0_isKeyAt, Cond.code yX0_isKeyAt cX0_isKeyAt 4 (some .boolean)]
def wsX0_has : List Cond := .code yX0_has cX0_has 4 (some .int) :: ((wsX0_has_r1 ++ wsX0_has_r2) ++ wsX00)
def wsX0_areFirstNumbers : List Cond := .code yX0_areFirstNumbers cX0_areFirstNumbers 4 (some .boolean) :: ([.methodLink RX0 96 yX0_isNumber, .static yX0_isNumber, .initialized RX0, .code yX0_isNumber cX0_isNumber 1 (some .boolean), .constant RX0 95 (1048575)])
def wsX0_keyOf : List Cond := .code yX0_keyOf cX0_keyOf 3 (some .long) :: ([.methodLink RX0 77 yX0_shiftOf, .static yX0_shiftOf, .initialized RX0, .code yX0_shiftOf cX0_shiftOf 1 (some .int)])
def wsX0_firstKey : List Cond := .code yX0_firstKey cX0_firstKey 4 (some .long) :: ([.methodLink RX0 85 yX0_keyOf, .static yX0_keyOf, .initialized RX0, .code yX0_keyOf cX0_keyOf 3 (some .long), .methodLink RX0 77 yX0_shiftOf, .static yX0_shiftOf, .code yX0_shiftOf cX0_shiftOf 1 (some .int)])
def wsX0_keysInAll : List Cond := .code yX0_keysInAll cX0_keysInAll 1 (some .long) :: ([])
def wsX0_endOf_r1 : List Cond := [Cond.methodLink RX0 99 yX0_areFirstNumbers, Cond.static yX0_areFirstNumbers, Cond.initialized RX0, Cond.code yX0_areFirstNumbers cX0_areFirstNumbers 4 (some .boolean), Cond.methodLink RX0 96 yX0_isNumber, Cond.static yX0_isNumber, Cond.code yX0_isNumber cX0_isNumber 1 (some .boolean), Cond.constant RX0 95 (1048575), Cond.methodLink RX0 103 yX0_firstKey, Cond.static yX0_firstKey, Cond.code yX0_firstKey cX0_firstKey 4 (some .long), Cond.methodLink RX0 85 yX0_keyOf, Cond.static yX0_keyOf, Cond.code yX0_keyOf cX0_keyOf 3 (some .long), Cond.methodLink RX0 77 yX0_shiftOf, Cond.static yX0_shiftOf, Cond.code yX0_shiftOf cX0_shiftOf 1 (some .int), Cond.methodLink RX0 107 yX0_keysInAll, Cond.static yX0_keysInAll, Cond.code yX0_keysInAll cX0_keysInAll 1 (some .long), Cond.methodLink RX0 50 yX0_keysBefore, Cond.instanceMethod yX0_keysBefore, Cond.selects RX0 yX0_keysBefore yX0_keysBefore, Cond.code yX0_keysBefore cX0_keysBefore 6 (some .int)]
def wsX0_endOf_r2 : List Cond := [Cond.fieldLink RX0 33 "PageIndex" "held" "I", Cond.fieldLink RX0 29 "PageIndex" "keys" "[J"]
def wsX0_endOf : List Cond := .code yX0_endOf cX0_endOf 5 (some .int) :: ((wsX0_endOf_r1 ++ wsX0_endOf_r2) ++ wsX00)
def wsX0_startOf : List Cond := .code yX0_startOf cX0_startOf 5 (some .int) :: ([.methodLink RX0 99 yX0_areFirstNumbers, .static yX0_areFirstNumbers, .initialized RX0, .code yX0_areFirstNumbers cX0_areFirstNumbers 4 (some .boolean), .methodLink RX0 96 yX0_isNumber, .static yX0_isNumber, .code yX0_isNumber cX0_isNumber 1 (some .boolean), .constant RX0 95 (1048575), .methodLink RX0 103 yX0_firstKey, .static yX0_firstKey, .code yX0_firstKey cX0_firstKey 4 (some .long), .methodLink RX0 85 yX0_keyOf, .static yX0_keyOf, .code yX0_keyOf cX0_keyOf 3 (some .long), .methodLink RX0 77 yX0_shiftOf, .static yX0_shiftOf, .code yX0_shiftOf cX0_shiftOf 1 (some .int), .methodLink RX0 50 yX0_keysBefore, .instanceMethod yX0_keysBefore, .selects RX0 yX0_keysBefore yX0_keysBefore, .code yX0_keysBefore cX0_keysBefore 6 (some .int), .fieldLink RX0 33 "PageIndex" "held" "I", .fieldLink RX0 29 "PageIndex" "keys" "[J"] ++ wsX00)
def wsX0_count_r1 : List Cond := [Cond.methodLink RX0 70 yX0_endOf, Cond.instanceMethod yX0_endOf, Cond.selects RX0 yX0_endOf yX0_endOf, Cond.initialized RX0, Cond.code yX0_endOf cX0_endOf 5 (some .int), Cond.methodLink RX0 99 yX0_areFirstNumbers, Cond.static yX0_areFirstNumbers, Cond.code yX0_areFirstNumbers cX0_areFirstNumbers 4 (some .boolean), Cond.methodLink RX0 96 yX0_isNumber, Cond.static yX0_isNumber, Cond.code yX0_isNumber cX0_isNumber 1 (some .boolean), Cond.constant RX0 95 (1048575), Cond.methodLink RX0 103 yX0_firstKey, Cond.static yX0_firstKey, Cond.code yX0_firstKey cX0_firstKey 4 (some .long), Cond.methodLink RX0 85 yX0_keyOf, Cond.static yX0_keyOf, Cond.code yX0_keyOf cX0_keyOf 3 (some .long), Cond.methodLink RX0 77 yX0_shiftOf, Cond.static yX0_shiftOf, Cond.code yX0_shiftOf cX0_shiftOf 1 (some .int), Cond.methodLink RX0 107 yX0_keysInAll, Cond.static yX0_keysInAll, Cond.code yX0_keysInAll cX0_keysInAll 1 (some .long)]
def wsX0_count_r2 : List Cond := [Cond.methodLink RX0 50 yX0_keysBefore, Cond.instanceMethod yX0_keysBefore, Cond.selects RX0 yX0_keysBefore yX0_keysBefore, Cond.code yX0_keysBefore cX0_keysBefore 6 (some .int), Cond.fieldLink RX0 33 "PageIndex" "held" "I", Cond.fieldLink RX0 29 "PageIndex" "keys" "[J", Cond.methodLink RX0 74 yX0_startOf, Cond.instanceMethod yX0_startOf, Cond.selects RX0 yX0_startOf yX0_startOf, Cond.code yX0_startOf cX0_startOf 5 (some .int)]
def wsX0_count : List Cond := .code yX0_count cX0_count 5 (some .int) :: ((wsX0_count_r1 ++ wsX0_count_r2) ++ wsX00)
def wsX0_beginnings : List Cond := .code yX0_beginnings cX0_beginnings 10 (some .int) :: ([.constantLong RX0 36 (-1), .fieldLink RX0 29 "PageIndex" "keys" "[J"] ++ wsX00)
def wsX0_different_r1 : List Cond := [Cond.methodLink RX0 74 yX0_startOf, Cond.instanceMethod yX0_startOf, Cond.selects RX0 yX0_startOf yX0_startOf, Cond.initialized RX0, Cond.code yX0_startOf cX0_startOf 5 (some .int), Cond.methodLink RX0 99 yX0_areFirstNumbers, Cond.static yX0_areFirstNumbers, Cond.code yX0_areFirstNumbers cX0_areFirstNumbers 4 (some .boolean), Cond.methodLink RX0 96 yX0_isNumber, Cond.static yX0_isNumber, Cond.code yX0_isNumber cX0_isNumber 1 (some .boolean), Cond.constant RX0 95 (1048575), Cond.methodLink RX0 103 yX0_firstKey, Cond.static yX0_firstKey, Cond.code yX0_firstKey cX0_firstKey 4 (some .long), Cond.methodLink RX0 85 yX0_keyOf, Cond.static yX0_keyOf, Cond.code yX0_keyOf cX0_keyOf 3 (some .long), Cond.methodLink RX0 77 yX0_shiftOf, Cond.static yX0_shiftOf, Cond.code yX0_shiftOf cX0_shiftOf 1 (some .int), Cond.methodLink RX0 50 yX0_keysBefore, Cond.instanceMethod yX0_keysBefore, Cond.selects RX0 yX0_keysBefore yX0_keysBefore]
def wsX0_different_r2 : List Cond := [Cond.code yX0_keysBefore cX0_keysBefore 6 (some .int), Cond.fieldLink RX0 33 "PageIndex" "held" "I", Cond.fieldLink RX0 29 "PageIndex" "keys" "[J", Cond.methodLink RX0 70 yX0_endOf, Cond.instanceMethod yX0_endOf, Cond.selects RX0 yX0_endOf yX0_endOf, Cond.code yX0_endOf cX0_endOf 5 (some .int), Cond.methodLink RX0 107 yX0_keysInAll, Cond.static yX0_keysInAll, Cond.code yX0_keysInAll cX0_keysInAll 1 (some .long), Cond.methodLink RX0 81 yX0_beginnings, Cond.instanceMethod yX0_beginnings, Cond.selects RX0 yX0_beginnings yX0_beginnings, Cond.code yX0_beginnings cX0_beginnings 10 (some .int), Cond.constantLong RX0 36 (-1)]
def wsX0_different : List Cond := .code yX0_different cX0_different 4 (some .int) :: ((wsX0_different_r1 ++ wsX0_different_r2) ++ wsX00)
def wsX0_rank : List Cond := .code yX0_rank cX0_rank 4 (some .int) :: ([.methodLink RX0 42 yX0_areNumbers, .static yX0_areNumbers, .initialized RX0, .code yX0_areNumbers cX0_areNumbers 3 (some .boolean), .methodLink RX0 96 yX0_isNumber, .static yX0_isNumber, .code yX0_isNumber cX0_isNumber 1 (some .boolean), .constant RX0 95 (1048575), .methodLink RX0 85 yX0_keyOf, .static yX0_keyOf, .code yX0_keyOf cX0_keyOf 3 (some .long), .methodLink RX0 77 yX0_shiftOf, .static yX0_shiftOf, .code yX0_shiftOf cX0_shiftOf 1 (some .int), .methodLink RX0 50 yX0_keysBefore, .instanceMethod yX0_keysBefore, .selects RX0 yX0_keysBefore yX0_keysBefore, .code yX0_keysBefore cX0_keysBefore 6 (some .int), .fieldLink RX0 33 "PageIndex" "held" "I", .fieldLink RX0 29 "PageIndex" "keys" "[J"] ++ wsX00)
def wsX0_standAt : List Cond := .code yX0_standAt cX0_standAt 3 (some .boolean) :: ([.fieldLink RX0 33 "PageIndex" "held" "I", .fieldLink RX0 29 "PageIndex" "keys" "[J", .constantLong RX0 36 (-1), .fieldLink RX0 38 "PageIndex" "cursor" "J"] ++ wsX00)
def wsX0_choose : List Cond := .code yX0_choose cX0_choose 2 (some .boolean) :: ([.methodLink RX0 88 yX0_standAt, .instanceMethod yX0_standAt, .selects RX0 yX0_standAt yX0_standAt, .initialized RX0, .code yX0_standAt cX0_standAt 3 (some .boolean), .fieldLink RX0 33 "PageIndex" "held" "I", .fieldLink RX0 29 "PageIndex" "keys" "[J", .constantLong RX0 36 (-1), .fieldLink RX0 38 "PageIndex" "cursor" "J"] ++ wsX00)
def wsX0_seek_r1 : List Cond := [Cond.methodLink RX0 42 yX0_areNumbers, Cond.static yX0_areNumbers, Cond.initialized RX0, Cond.code yX0_areNumbers cX0_areNumbers 3 (some .boolean), Cond.methodLink RX0 96 yX0_isNumber, Cond.static yX0_isNumber, Cond.code yX0_isNumber cX0_isNumber 1 (some .boolean), Cond.constant RX0 95 (1048575), Cond.methodLink RX0 85 yX0_keyOf, Cond.static yX0_keyOf, Cond.code yX0_keyOf cX0_keyOf 3 (some .long), Cond.methodLink RX0 77 yX0_shiftOf, Cond.static yX0_shiftOf, Cond.code yX0_shiftOf cX0_shiftOf 1 (some .int), Cond.methodLink RX0 50 yX0_keysBefore, Cond.instanceMethod yX0_keysBefore, Cond.selects RX0 yX0_keysBefore yX0_keysBefore, Cond.code yX0_keysBefore cX0_keysBefore 6 (some .int), Cond.fieldLink RX0 33 "PageIndex" "held" "I", Cond.fieldLink RX0 29 "PageIndex" "keys" "[J", Cond.methodLink RX0 88 yX0_standAt, Cond.instanceMethod yX0_standAt, Cond.selects RX0 yX0_standAt yX0_standAt, Cond.code yX0_standAt cX0_standAt 3 (some .boolean)]
def wsX0_seek_r2 : List Cond := [Cond.constantLong RX0 36 (-1), Cond.fieldLink RX0 38 "PageIndex" "cursor" "J"]
def wsX0_seek : List Cond := .code yX0_seek cX0_seek 4 (some .boolean) :: ((wsX0_seek_r1 ++ wsX0_seek_r2) ++ wsX00)
def wsX0_next : List Cond := .code yX0_next cX0_next 1 (some .boolean) :: ([.fieldLink RX0 38 "PageIndex" "cursor" "J", .methodLink RX0 50 yX0_keysBefore, .instanceMethod yX0_keysBefore, .selects RX0 yX0_keysBefore yX0_keysBefore, .initialized RX0, .code yX0_keysBefore cX0_keysBefore 6 (some .int), .fieldLink RX0 33 "PageIndex" "held" "I", .fieldLink RX0 29 "PageIndex" "keys" "[J", .methodLink RX0 88 yX0_standAt, .instanceMethod yX0_standAt, .selects RX0 yX0_standAt yX0_standAt, .code yX0_standAt cX0_standAt 3 (some .boolean), .constantLong RX0 36 (-1)] ++ wsX00)
def wsX0_previous : List Cond := .code yX0_previous cX0_previous 2 (some .boolean) :: ([.fieldLink RX0 38 "PageIndex" "cursor" "J", .constantLong RX0 36 (-1), .fieldLink RX0 33 "PageIndex" "held" "I", .methodLink RX0 50 yX0_keysBefore, .instanceMethod yX0_keysBefore, .selects RX0 yX0_keysBefore yX0_keysBefore, .initialized RX0, .code yX0_keysBefore cX0_keysBefore 6 (some .int), .fieldLink RX0 29 "PageIndex" "keys" "[J", .methodLink RX0 88 yX0_standAt, .instanceMethod yX0_standAt, .selects RX0 yX0_standAt yX0_standAt, .code yX0_standAt cX0_standAt 3 (some .boolean)] ++ wsX00)
def wsX0_cursorNumber : List Cond := .code yX0_cursorNumber cX0_cursorNumber 2 (some .int) :: ([.fieldLink RX0 38 "PageIndex" "cursor" "J", .constant RX0 95 (1048575), .methodLink RX0 77 yX0_shiftOf, .static yX0_shiftOf, .initialized RX0, .code yX0_shiftOf cX0_shiftOf 1 (some .int)] ++ wsX00)
def wsX0_told : List Cond := .code yX0_told cX0_told 2 (some .int) :: ([.fieldLink RX0 38 "PageIndex" "cursor" "J", .constantLong RX0 36 (-1), .fieldLink RX0 19 "PageIndex" "placeOfX" "I", .fieldLink RX0 23 "PageIndex" "placeOfY" "I", .fieldLink RX0 26 "PageIndex" "placeOfZ" "I", .methodLink RX0 92 yX0_cursorNumber, .instanceMethod yX0_cursorNumber, .selects RX0 yX0_cursorNumber yX0_cursorNumber, .initialized RX0, .code yX0_cursorNumber cX0_cursorNumber 2 (some .int), .constant RX0 95 (1048575), .methodLink RX0 77 yX0_shiftOf, .static yX0_shiftOf, .code yX0_shiftOf cX0_shiftOf 1 (some .int)] ++ wsX00)
def wsX0_stands : List Cond := .code yX0_stands cX0_stands 1 (some .int) :: ([.fieldLink RX0 38 "PageIndex" "cursor" "J", .constantLong RX0 36 (-1), .methodLink RX0 66 yX0_isHeld, .instanceMethod yX0_isHeld, .selects RX0 yX0_isHeld yX0_isHeld, .initialized RX0, .code yX0_isHeld cX0_isHeld 3 (some .boolean), .methodLink RX0 50 yX0_keysBefore, .instanceMethod yX0_keysBefore, .selects RX0 yX0_keysBefore yX0_keysBefore, .code yX0_keysBefore cX0_keysBefore 6 (some .int), .fieldLink RX0 33 "PageIndex" "held" "I", .fieldLink RX0 29 "PageIndex" "keys" "[J", .methodLink RX0 54 yX0_isKeyAt, .instanceMethod yX0_isKeyAt, .selects RX0 yX0_isKeyAt yX0_isKeyAt, .code yX0_isKeyAt cX0_isKeyAt 4 (some .boolean)] ++ wsX00)
def wsX0_size : List Cond := .code yX0_size cX0_size 1 (some .int) :: ([.fieldLink RX0 33 "PageIndex" "held" "I"] ++ wsX00)
def wsX0_cut_r1 : List Cond := [Cond.methodLink RX0 74 yX0_startOf, Cond.instanceMethod yX0_startOf, Cond.selects RX0 yX0_startOf yX0_startOf, Cond.initialized RX0, Cond.code yX0_startOf cX0_startOf 5 (some .int), Cond.methodLink RX0 99 yX0_areFirstNumbers, Cond.static yX0_areFirstNumbers, Cond.code yX0_areFirstNumbers cX0_areFirstNumbers 4 (some .boolean), Cond.methodLink RX0 96 yX0_isNumber, Cond.static yX0_isNumber, Cond.code yX0_isNumber cX0_isNumber 1 (some .boolean), Cond.constant RX0 95 (1048575), Cond.methodLink RX0 103 yX0_firstKey, Cond.static yX0_firstKey, Cond.code yX0_firstKey cX0_firstKey 4 (some .long), Cond.methodLink RX0 85 yX0_keyOf, Cond.static yX0_keyOf, Cond.code yX0_keyOf cX0_keyOf 3 (some .long), Cond.methodLink RX0 77 yX0_shiftOf, Cond.static yX0_shiftOf, Cond.code yX0_shiftOf cX0_shiftOf 1 (some .int), Cond.methodLink RX0 50 yX0_keysBefore, Cond.instanceMethod yX0_keysBefore, Cond.selects RX0 yX0_keysBefore yX0_keysBefore]
def wsX0_cut_r2 : List Cond := [Cond.code yX0_keysBefore cX0_keysBefore 6 (some .int), Cond.fieldLink RX0 33 "PageIndex" "held" "I", Cond.fieldLink RX0 29 "PageIndex" "keys" "[J", Cond.methodLink RX0 70 yX0_endOf, Cond.instanceMethod yX0_endOf, Cond.selects RX0 yX0_endOf yX0_endOf, Cond.code yX0_endOf cX0_endOf 5 (some .int), Cond.methodLink RX0 107 yX0_keysInAll, Cond.static yX0_keysInAll, Cond.code yX0_keysInAll cX0_keysInAll 1 (some .long), Cond.methodLink RX0 62 yX0_takeOut, Cond.instanceMethod yX0_takeOut, Cond.selects RX0 yX0_takeOut yX0_takeOut, Cond.code yX0_takeOut cX0_takeOut 3 none, Cond.methodLink RX0 120 arraycopyName, Cond.native arraycopyName, Cond.static arraycopyName, Cond.initialized "java/lang/System"]
def wsX0_cut : List Cond := .code yX0_cut cX0_cut 7 (some .int) :: ((wsX0_cut_r1 ++ wsX0_cut_r2) ++ wsX00)
def wsX1_init : List Cond := .code yX1_init cX1_init 2 none :: ([.methodLink RX1 1 objectInit, .instanceMethod objectInit, .code objectInit ⟨#[0xb1]⟩ 1 none, .arrayClass .long, .fieldLink RX1 7 "PageIndexModel" "keys" "[J", .constantLong RX1 13 (-1), .fieldLink RX1 15 "PageIndexModel" "cursor" "J", .fieldLink RX1 25 "PageIndexModel" "order" "I", .methodLink RX1 19 yJ9_floorMod_7cf53, .static yJ9_floorMod_7cf53, .initialized RJ9, .code yJ9_floorMod_7cf53 cJ9_floorMod_7cf53 3 (some .int)] ++ wsX10)
def wsX1_isNumber : List Cond := .code yX1_isNumber cX1_isNumber 1 (some .boolean) :: ([.constant RX1 29 (1048576)])
def wsX1_areNumbers : List Cond := .code yX1_areNumbers cX1_areNumbers 4 (some .boolean) :: ([.methodLink RX1 30 yX1_isNumber, .static yX1_isNumber, .initialized RX1, .code yX1_isNumber cX1_isNumber 1 (some .boolean), .constant RX1 29 (1048576)])
def wsX1_packed : List Cond := .code yX1_packed cX1_packed 6 (some .long) :: ([.constantLong RX1 34 (1048576)])
def wsX1_key : List Cond := .code yX1_key cX1_key 4 (some .long) :: ([.fieldLink RX1 25 "PageIndexModel" "order" "I", .methodLink RX1 36 yX1_packed, .static yX1_packed, .initialized RX1, .code yX1_packed cX1_packed 6 (some .long), .constantLong RX1 34 (1048576)] ++ wsX10)
def wsX1_below : List Cond := .code yX1_below cX1_below 4 (some .int) :: ([.fieldLink RX1 40 "PageIndexModel" "size" "I", .fieldLink RX1 7 "PageIndexModel" "keys" "[J"] ++ wsX10)
def wsX1_isThere : List Cond := .code yX1_isThere cX1_isThere 4 (some .boolean) :: ([.fieldLink RX1 40 "PageIndexModel" "size" "I", .fieldLink RX1 7 "PageIndexModel" "keys" "[J"] ++ wsX10)
def wsX1_insert_r1 : List Cond := [Cond.fieldLink RX1 40 "PageIndexModel" "size" "I", Cond.fieldLink RX1 7 "PageIndexModel" "keys" "[J", Cond.methodLink RX1 43 yX1_areNumbers, Cond.static yX1_areNumbers, Cond.initialized RX1, Cond.code yX1_areNumbers cX1_areNumbers 4 (some .boolean), Cond.methodLink RX1 30 yX1_isNumber, Cond.static yX1_isNumber, Cond.code yX1_isNumber cX1_isNumber 1 (some .boolean), Cond.constant RX1 29 (1048576), Cond.methodLink RX1 47 yX1_key, Cond.instanceMethod yX1_key, Cond.selects RX1 yX1_key yX1_key, Cond.code yX1_key cX1_key 4 (some .long), Cond.fieldLink RX1 25 "PageIndexModel" "order" "I", Cond.methodLink RX1 36 yX1_packed, Cond.static yX1_packed, Cond.code yX1_packed cX1_packed 6 (some .long), Cond.constantLong RX1 34 (1048576), Cond.methodLink RX1 51 yX1_below, Cond.instanceMethod yX1_below, Cond.selects RX1 yX1_below yX1_below, Cond.code yX1_below cX1_below 4 (some .int), Cond.methodLink RX1 55 yX1_isThere]
def wsX1_insert_r2 : List Cond := [Cond.instanceMethod yX1_isThere, Cond.selects RX1 yX1_isThere yX1_isThere, Cond.code yX1_isThere cX1_isThere 4 (some .boolean)]
def wsX1_insert : List Cond := .code yX1_insert cX1_insert 8 (some .int) :: ((wsX1_insert_r1 ++ wsX1_insert_r2) ++ wsX10)
def wsX1_take : List Cond := .code yX1_take cX1_take 3 none :: ([.fieldLink RX1 40 "PageIndexModel" "size" "I", .fieldLink RX1 7 "PageIndexModel" "keys" "[J"] ++ wsX10)
def wsX1_remove_r1 : List Cond := [Cond.methodLink RX1 43 yX1_areNumbers, Cond.static yX1_areNumbers, Cond.initialized RX1, Cond.code yX1_areNumbers cX1_areNumbers 4 (some .boolean), Cond.methodLink RX1 30 yX1_isNumber, Cond.static yX1_isNumber, Cond.code yX1_isNumber cX1_isNumber 1 (some .boolean), Cond.constant RX1 29 (1048576), Cond.methodLink RX1 47 yX1_key, Cond.instanceMethod yX1_key, Cond.selects RX1 yX1_key yX1_key, Cond.code yX1_key cX1_key 4 (some .long), Cond.fieldLink RX1 25 "PageIndexModel" "order" "I", Cond.methodLink RX1 36 yX1_packed, Cond.static yX1_packed, Cond.code yX1_packed cX1_packed 6 (some .long), Cond.constantLong RX1 34 (1048576), Cond.methodLink RX1 51 yX1_below, Cond.instanceMethod yX1_below, Cond.selects RX1 yX1_below yX1_below, Cond.code yX1_below cX1_below 4 (some .int), Cond.fieldLink RX1 40 "PageIndexModel" "size" "I", Cond.fieldLink RX1 7 "PageIndexModel" "keys" "[J", Cond.methodLink RX1 55 yX1_isThere]
def wsX1_remove_r2 : List Cond := [Cond.instanceMethod yX1_isThere, Cond.selects RX1 yX1_isThere yX1_isThere, Cond.code yX1_isThere cX1_isThere 4 (some .boolean), Cond.methodLink RX1 59 yX1_take, Cond.instanceMethod yX1_take, Cond.selects RX1 yX1_take yX1_take, Cond.code yX1_take cX1_take 3 none]
def wsX1_remove : List Cond := .code yX1_remove cX1_remove 7 (some .int) :: ((wsX1_remove_r1 ++ wsX1_remove_r2) ++ wsX10)
def wsJ9_min_7cf53 : List Cond := .code yJ9_min_7cf53 cJ9_min_7cf53 2 (some .int) :: ([])
def wsL_cell : List Cond := .code yL_cell cL_cell 2 (some .int) :: ([])
def wsL_law_r1 : List Cond := [Cond.classLink RL 7 RX0, Cond.instantiable RX0 6, Cond.initialized RX0, Cond.classLink RL 18 RX1, Cond.instantiable RX1 4, Cond.initialized RX1, Cond.methodLink RL 9 yL_cell, Cond.static yL_cell, Cond.initialized RL, Cond.code yL_cell cL_cell 2 (some .int), Cond.methodLink RL 15 yX0_init, Cond.instanceMethod yX0_init, Cond.code yX0_init cX0_init 3 none, Cond.methodLink RX0 3 objectInit, Cond.instanceMethod objectInit, Cond.code objectInit ⟨#[0xb1]⟩ 1 none, Cond.fieldLink RX0 15 "PageIndex" "PLACES" "[I", Cond.fieldLink RX0 19 "PageIndex" "placeOfX" "I", Cond.fieldLink RX0 23 "PageIndex" "placeOfY" "I", Cond.fieldLink RX0 26 "PageIndex" "placeOfZ" "I", Cond.arrayClass .long, Cond.fieldLink RX0 29 "PageIndex" "keys" "[J", Cond.fieldLink RX0 33 "PageIndex" "held" "I", Cond.constantLong RX0 36 (-1)]
def wsL_law_r2 : List Cond := [Cond.fieldLink RX0 38 "PageIndex" "cursor" "J", Cond.methodLink RX0 9 yJ9_floorMod_7cf53, Cond.static yJ9_floorMod_7cf53, Cond.initialized RJ9, Cond.code yJ9_floorMod_7cf53 cJ9_floorMod_7cf53 3 (some .int), Cond.methodLink RL 20 yX1_init, Cond.instanceMethod yX1_init, Cond.code yX1_init cX1_init 2 none, Cond.methodLink RX1 1 objectInit, Cond.fieldLink RX1 7 "PageIndexModel" "keys" "[J", Cond.constantLong RX1 13 (-1), Cond.fieldLink RX1 15 "PageIndexModel" "cursor" "J", Cond.fieldLink RX1 25 "PageIndexModel" "order" "I", Cond.methodLink RX1 19 yJ9_floorMod_7cf53, Cond.methodLink RL 21 yX0_insert, Cond.instanceMethod yX0_insert, Cond.selects RX0 yX0_insert yX0_insert, Cond.code yX0_insert cX0_insert 7 (some .int), Cond.methodLink RX0 42 yX0_areNumbers, Cond.static yX0_areNumbers, Cond.code yX0_areNumbers cX0_areNumbers 3 (some .boolean), Cond.methodLink RX0 96 yX0_isNumber, Cond.static yX0_isNumber, Cond.code yX0_isNumber cX0_isNumber 1 (some .boolean)]
def wsL_law_r3 : List Cond := [Cond.constant RX0 95 (1048575), Cond.methodLink RX0 46 yX0_keyOfTriple, Cond.instanceMethod yX0_keyOfTriple, Cond.selects RX0 yX0_keyOfTriple yX0_keyOfTriple, Cond.code yX0_keyOfTriple cX0_keyOfTriple 4 (some .long), Cond.methodLink RX0 77 yX0_shiftOf, Cond.static yX0_shiftOf, Cond.code yX0_shiftOf cX0_shiftOf 1 (some .int), Cond.methodLink RX0 50 yX0_keysBefore, Cond.instanceMethod yX0_keysBefore, Cond.selects RX0 yX0_keysBefore yX0_keysBefore, Cond.code yX0_keysBefore cX0_keysBefore 6 (some .int), Cond.methodLink RX0 54 yX0_isKeyAt, Cond.instanceMethod yX0_isKeyAt, Cond.selects RX0 yX0_isKeyAt yX0_isKeyAt, Cond.code yX0_isKeyAt cX0_isKeyAt 4 (some .boolean), Cond.methodLink RX0 58 yX0_putIn, Cond.instanceMethod yX0_putIn, Cond.selects RX0 yX0_putIn yX0_putIn, Cond.code yX0_putIn cX0_putIn 4 none, Cond.methodLink RX0 111 Lib.Math.min.name, Cond.static Lib.Math.min.name, Cond.initialized "java/lang/Math", Cond.code Lib.Math.min.name Lib.Math.min.code 2 (some .int)]
def wsL_law_r4 : List Cond := [Cond.methodLink RX0 120 arraycopyName, Cond.native arraycopyName, Cond.static arraycopyName, Cond.initialized "java/lang/System", Cond.methodLink RX0 114 yJ7_copyOf_c38d5, Cond.static yJ7_copyOf_c38d5, Cond.initialized RJ7, Cond.code yJ7_copyOf_c38d5 cJ7_copyOf_c38d5 3 (some (.array .long)), Cond.methodLink RJ7 319 ⟨"[J", "clone", "()Ljava/lang/Object;"⟩, Cond.sameMethod "[J" "java/lang/Object" "clone" "()Ljava/lang/Object;", Cond.native ⟨"java/lang/Object", "clone", "()Ljava/lang/Object;"⟩, Cond.instanceMethod ⟨"java/lang/Object", "clone", "()Ljava/lang/Object;"⟩, Cond.selects "[J" ⟨"[J", "clone", "()Ljava/lang/Object;"⟩ ⟨"java/lang/Object", "clone", "()Ljava/lang/Object;"⟩, Cond.classLink RJ7 320 "[J", Cond.methodLink RJ7 304 Lib.Math.min.name, Cond.methodLink RJ7 150 arraycopyName, Cond.methodLink RL 25 yX1_insert, Cond.instanceMethod yX1_insert, Cond.selects RX1 yX1_insert yX1_insert, Cond.code yX1_insert cX1_insert 8 (some .int), Cond.fieldLink RX1 40 "PageIndexModel" "size" "I", Cond.methodLink RX1 43 yX1_areNumbers, Cond.static yX1_areNumbers, Cond.code yX1_areNumbers cX1_areNumbers 4 (some .boolean)]
def wsL_law_r5 : List Cond := [Cond.methodLink RX1 30 yX1_isNumber, Cond.static yX1_isNumber, Cond.code yX1_isNumber cX1_isNumber 1 (some .boolean), Cond.constant RX1 29 (1048576), Cond.methodLink RX1 47 yX1_key, Cond.instanceMethod yX1_key, Cond.selects RX1 yX1_key yX1_key, Cond.code yX1_key cX1_key 4 (some .long), Cond.methodLink RX1 36 yX1_packed, Cond.static yX1_packed, Cond.code yX1_packed cX1_packed 6 (some .long), Cond.constantLong RX1 34 (1048576), Cond.methodLink RX1 51 yX1_below, Cond.instanceMethod yX1_below, Cond.selects RX1 yX1_below yX1_below, Cond.code yX1_below cX1_below 4 (some .int), Cond.methodLink RX1 55 yX1_isThere, Cond.instanceMethod yX1_isThere, Cond.selects RX1 yX1_isThere yX1_isThere, Cond.code yX1_isThere cX1_isThere 4 (some .boolean), Cond.methodLink RL 26 yX0_remove, Cond.instanceMethod yX0_remove, Cond.selects RX0 yX0_remove yX0_remove, Cond.code yX0_remove cX0_remove 7 (some .int)]
def wsL_law_r6 : List Cond := [Cond.methodLink RX0 62 yX0_takeOut, Cond.instanceMethod yX0_takeOut, Cond.selects RX0 yX0_takeOut yX0_takeOut, Cond.code yX0_takeOut cX0_takeOut 3 none, Cond.methodLink RL 29 yX1_remove, Cond.instanceMethod yX1_remove, Cond.selects RX1 yX1_remove yX1_remove, Cond.code yX1_remove cX1_remove 7 (some .int), Cond.methodLink RX1 59 yX1_take, Cond.instanceMethod yX1_take, Cond.selects RX1 yX1_take yX1_take, Cond.code yX1_take cX1_take 3 none, Cond.methodLink RL 30 yX0_has, Cond.instanceMethod yX0_has, Cond.selects RX0 yX0_has yX0_has, Cond.code yX0_has cX0_has 4 (some .int), Cond.methodLink RX0 66 yX0_isHeld, Cond.instanceMethod yX0_isHeld, Cond.selects RX0 yX0_isHeld yX0_isHeld, Cond.code yX0_isHeld cX0_isHeld 3 (some .boolean), Cond.methodLink RL 34 yX0_count, Cond.instanceMethod yX0_count, Cond.selects RX0 yX0_count yX0_count, Cond.code yX0_count cX0_count 5 (some .int)]
def wsL_law_r7 : List Cond := [Cond.methodLink RX0 70 yX0_endOf, Cond.instanceMethod yX0_endOf, Cond.selects RX0 yX0_endOf yX0_endOf, Cond.code yX0_endOf cX0_endOf 5 (some .int), Cond.methodLink RX0 99 yX0_areFirstNumbers, Cond.static yX0_areFirstNumbers, Cond.code yX0_areFirstNumbers cX0_areFirstNumbers 4 (some .boolean), Cond.methodLink RX0 103 yX0_firstKey, Cond.static yX0_firstKey, Cond.code yX0_firstKey cX0_firstKey 4 (some .long), Cond.methodLink RX0 85 yX0_keyOf, Cond.static yX0_keyOf, Cond.code yX0_keyOf cX0_keyOf 3 (some .long), Cond.methodLink RX0 107 yX0_keysInAll, Cond.static yX0_keysInAll, Cond.code yX0_keysInAll cX0_keysInAll 1 (some .long), Cond.methodLink RX0 74 yX0_startOf, Cond.instanceMethod yX0_startOf, Cond.selects RX0 yX0_startOf yX0_startOf, Cond.code yX0_startOf cX0_startOf 5 (some .int), Cond.methodLink RL 39 yX0_different, Cond.instanceMethod yX0_different, Cond.selects RX0 yX0_different yX0_different, Cond.code yX0_different cX0_different 4 (some .int)]
def wsL_law_r8 : List Cond := [Cond.methodLink RX0 81 yX0_beginnings, Cond.instanceMethod yX0_beginnings, Cond.selects RX0 yX0_beginnings yX0_beginnings, Cond.code yX0_beginnings cX0_beginnings 10 (some .int), Cond.methodLink RL 43 yX0_rank, Cond.instanceMethod yX0_rank, Cond.selects RX0 yX0_rank yX0_rank, Cond.code yX0_rank cX0_rank 4 (some .int), Cond.methodLink RL 47 yX0_choose, Cond.instanceMethod yX0_choose, Cond.selects RX0 yX0_choose yX0_choose, Cond.code yX0_choose cX0_choose 2 (some .boolean), Cond.methodLink RX0 88 yX0_standAt, Cond.instanceMethod yX0_standAt, Cond.selects RX0 yX0_standAt yX0_standAt, Cond.code yX0_standAt cX0_standAt 3 (some .boolean), Cond.methodLink RL 52 yX0_seek, Cond.instanceMethod yX0_seek, Cond.selects RX0 yX0_seek yX0_seek, Cond.code yX0_seek cX0_seek 4 (some .boolean), Cond.methodLink RL 57 yX0_next, Cond.instanceMethod yX0_next, Cond.selects RX0 yX0_next yX0_next, Cond.code yX0_next cX0_next 1 (some .boolean)]
def wsL_law_r9 : List Cond := [Cond.methodLink RL 62 yX0_previous, Cond.instanceMethod yX0_previous, Cond.selects RX0 yX0_previous yX0_previous, Cond.code yX0_previous cX0_previous 2 (some .boolean), Cond.methodLink RL 66 yX0_told, Cond.instanceMethod yX0_told, Cond.selects RX0 yX0_told yX0_told, Cond.code yX0_told cX0_told 2 (some .int), Cond.methodLink RX0 92 yX0_cursorNumber, Cond.instanceMethod yX0_cursorNumber, Cond.selects RX0 yX0_cursorNumber yX0_cursorNumber, Cond.code yX0_cursorNumber cX0_cursorNumber 2 (some .int), Cond.methodLink RL 71 yX0_stands, Cond.instanceMethod yX0_stands, Cond.selects RX0 yX0_stands yX0_stands, Cond.code yX0_stands cX0_stands 1 (some .int), Cond.methodLink RL 76 yX0_size, Cond.instanceMethod yX0_size, Cond.selects RX0 yX0_size yX0_size, Cond.code yX0_size cX0_size 1 (some .int), Cond.methodLink RL 80 yX0_cut, Cond.instanceMethod yX0_cut, Cond.selects RX0 yX0_cut yX0_cut, Cond.code yX0_cut cX0_cut 7 (some .int)]
def wsL_law : List Cond := (wsL_law_r1 ++ (wsL_law_r2 ++ (wsL_law_r3 ++ (wsL_law_r4 ++ (wsL_law_r5 ++ (wsL_law_r6 ++ (wsL_law_r7 ++ (wsL_law_r8 ++ wsL_law_r9)))))))) ++ wsX00 ++ wsX10 ++ ([] : List Cond)
set_option maxRecDepth 20000 in
theorem wsL_law_in : ∀ w ∈ wsL_law, w ∈ lw_tbl := fun w h => (goodIn_p wsL_law [200, 28, 31, 34, 205, 61, 64, 67, 72, 75, 79, 83, 87, 90, 93, 225, 228, 231, 236, 239, 244, 248, 109, 113, 252, 256, 117, 121, 125, 129, 132, 135, 138, 141, 145, 149, 153, 157, 161, 165, 169, 173, 177, 181, 185, 189, 193, 197] (by decide +kernel) (by decide +kernel) w h).1
theorem inlX0 : ∀ w ∈ wsX00, w ∈ wsL_law := fun _ h => List.mem_append_left _ (List.mem_append_left _ (List.mem_append_right _ h))
theorem inX0 : ∀ w ∈ wsX00, w ∈ lw_tbl := fun w h => wsL_law_in w (inlX0 w h)
theorem inlX1 : ∀ w ∈ wsX10, w ∈ wsL_law := fun _ h => List.mem_append_left _ (List.mem_append_right _ h)
theorem inX1 : ∀ w ∈ wsX10, w ∈ lw_tbl := fun w h => wsL_law_in w (inlX1 w h)
theorem inJx8e188 : ∀ w ∈ wsJx8e1880, w ∈ lw_tbl := by decide +kernel
theorem inJ9 : ∀ w ∈ wsJ90, w ∈ lw_tbl := by decide +kernel
theorem inJ10 : ∀ w ∈ wsJ100, w ∈ lw_tbl := by decide +kernel
theorem inJ7 : ∀ w ∈ wsJ70, w ∈ lw_tbl := by decide +kernel
set_option maxRecDepth 20000 in
theorem ggX0_init_J9_floorMod_7cf53 : GoodIn wsX0_init wsJ9_floorMod_7cf53 := goodIn_r _ [16] (by decide +kernel) (by decide +kernel)
set_option maxRecDepth 20000 in
theorem gX0_init_J9_floorMod_7cf53 : GoodIn wsX0_init (va_wsS RX0 9 yJ9_floorMod_7cf53 wsJ9_floorMod_7cf53) := goodIn_app (goodIn_of _ (by decide +kernel)) ggX0_init_J9_floorMod_7cf53
theorem dX0_init_0 : decode cX0_init 0 = .ok (.aload_n 0, 1) := by decide +kernel
theorem dX0_init_1 : decode cX0_init 1 = .ok (.invokespecial 3, 3) := by decide +kernel
theorem dX0_init_4 : decode cX0_init 4 = .ok (.iconst 3, 1) := by decide +kernel
theorem dX0_init_5 : decode cX0_init 5 = .ok (.iload_n 1, 1) := by decide +kernel
theorem dX0_init_6 : decode cX0_init 6 = .ok (.bipush 6, 2) := by decide +kernel
theorem dX0_init_8 : decode cX0_init 8 = .ok (.invokestatic 9, 3) := by decide +kernel
theorem dX0_init_11 : decode cX0_init 11 = .ok (.imul, 1) := by decide +kernel
theorem dX0_init_12 : decode cX0_init 12 = .ok (.istore_n 2, 1) := by decide +kernel
theorem dX0_init_13 : decode cX0_init 13 = .ok (.aload_n 0, 1) := by decide +kernel
theorem dX0_init_14 : decode cX0_init 14 = .ok (.getstatic 15, 3) := by decide +kernel
theorem dX0_init_17 : decode cX0_init 17 = .ok (.iload_n 2, 1) := by decide +kernel
theorem dX0_init_18 : decode cX0_init 18 = .ok (.iaload, 1) := by decide +kernel
theorem dX0_init_19 : decode cX0_init 19 = .ok (.putfield 19, 3) := by decide +kernel
theorem dX0_init_22 : decode cX0_init 22 = .ok (.aload_n 0, 1) := by decide +kernel
theorem dX0_init_23 : decode cX0_init 23 = .ok (.getstatic 15, 3) := by decide +kernel
theorem dX0_init_26 : decode cX0_init 26 = .ok (.iload_n 2, 1) := by decide +kernel
theorem dX0_init_27 : decode cX0_init 27 = .ok (.iconst 1, 1) := by decide +kernel
theorem dX0_init_28 : decode cX0_init 28 = .ok (.iadd, 1) := by decide +kernel
theorem dX0_init_29 : decode cX0_init 29 = .ok (.iaload, 1) := by decide +kernel
theorem dX0_init_30 : decode cX0_init 30 = .ok (.putfield 23, 3) := by decide +kernel
theorem dX0_init_33 : decode cX0_init 33 = .ok (.aload_n 0, 1) := by decide +kernel
theorem dX0_init_34 : decode cX0_init 34 = .ok (.getstatic 15, 3) := by decide +kernel
theorem dX0_init_37 : decode cX0_init 37 = .ok (.iload_n 2, 1) := by decide +kernel
theorem dX0_init_38 : decode cX0_init 38 = .ok (.iconst 2, 1) := by decide +kernel
theorem dX0_init_39 : decode cX0_init 39 = .ok (.iadd, 1) := by decide +kernel
theorem dX0_init_40 : decode cX0_init 40 = .ok (.iaload, 1) := by decide +kernel
theorem dX0_init_41 : decode cX0_init 41 = .ok (.putfield 26, 3) := by decide +kernel
theorem dX0_init_44 : decode cX0_init 44 = .ok (.aload_n 0, 1) := by decide +kernel
theorem dX0_init_45 : decode cX0_init 45 = .ok (.bipush 64, 2) := by decide +kernel
theorem dX0_init_47 : decode cX0_init 47 = .ok (.newarray .long, 2) := by decide +kernel
theorem dX0_init_49 : decode cX0_init 49 = .ok (.putfield 29, 3) := by decide +kernel
theorem dX0_init_52 : decode cX0_init 52 = .ok (.aload_n 0, 1) := by decide +kernel
theorem dX0_init_53 : decode cX0_init 53 = .ok (.iconst 0, 1) := by decide +kernel
theorem dX0_init_54 : decode cX0_init 54 = .ok (.putfield 33, 3) := by decide +kernel
theorem dX0_init_57 : decode cX0_init 57 = .ok (.aload_n 0, 1) := by decide +kernel
theorem dX0_init_58 : decode cX0_init 58 = .ok (.ldc2_w 36, 3) := by decide +kernel
theorem dX0_init_61 : decode cX0_init 61 = .ok (.putfield 38, 3) := by decide +kernel
theorem dX0_init_64 : decode cX0_init 64 = .ok (.return_, 1) := by decide +kernel
set_option maxRecDepth 20000 in
theorem ggX0_insert_X0_areNumbers : GoodIn wsX0_insert wsX0_areNumbers := goodIn_r _ [5, 6, 7, 4, 8, 9] (by decide +kernel) (by decide +kernel)
set_option maxRecDepth 20000 in
theorem gX0_insert_X0_areNumbers : GoodIn wsX0_insert (va_wsS RX0 42 yX0_areNumbers wsX0_areNumbers) := goodIn_app (goodIn_of _ (by decide +kernel)) ggX0_insert_X0_areNumbers
set_option maxRecDepth 20000 in
theorem ggX0_insert_X0_keyOfTriple : GoodIn wsX0_insert wsX0_keyOfTriple := goodIn_r _ [13, 14, 15, 16, 17, 18, 4, 19, 54, 55, 56, 57, 58, 59] (by decide +kernel) (by decide +kernel)
set_option maxRecDepth 20000 in
theorem gX0_insert_X0_keyOfTriple : GoodIn wsX0_insert (wsV RX0 46 RX0 yX0_keyOfTriple wsX0_keyOfTriple) := goodIn_app (goodIn_of _ (by decide +kernel)) ggX0_insert_X0_keyOfTriple
set_option maxRecDepth 20000 in
theorem ggX0_insert_X0_keysBefore : GoodIn wsX0_insert wsX0_keysBefore := goodIn_r _ [23, 1, 24, 54, 55, 56, 57, 58, 59] (by decide +kernel) (by decide +kernel)
set_option maxRecDepth 20000 in
theorem gX0_insert_X0_keysBefore : GoodIn wsX0_insert (wsV RX0 50 RX0 yX0_keysBefore wsX0_keysBefore) := goodIn_app (goodIn_of _ (by decide +kernel)) ggX0_insert_X0_keysBefore
set_option maxRecDepth 20000 in
theorem ggX0_insert_X0_isKeyAt : GoodIn wsX0_insert wsX0_isKeyAt := goodIn_r _ [28, 1, 24, 54, 55, 56, 57, 58, 59] (by decide +kernel) (by decide +kernel)
set_option maxRecDepth 20000 in
theorem gX0_insert_X0_isKeyAt : GoodIn wsX0_insert (wsV RX0 54 RX0 yX0_isKeyAt wsX0_isKeyAt) := goodIn_app (goodIn_of _ (by decide +kernel)) ggX0_insert_X0_isKeyAt
set_option maxRecDepth 20000 in
theorem ggX0_insert_X0_putIn : GoodIn wsX0_insert wsX0_putIn := goodIn_r _ [32, 1, 24, 33, 34, 35, 36, 37, 38, 39, 40, 41, 42, 43, 44, 45, 46, 47, 48, 49, 50, 51, 52, 53, 54, 55, 56, 57, 58, 59] (by decide +kernel) (by decide +kernel)
set_option maxRecDepth 20000 in
theorem gX0_insert_X0_putIn : GoodIn wsX0_insert (wsV RX0 58 RX0 yX0_putIn wsX0_putIn) := goodIn_app (goodIn_of _ (by decide +kernel)) ggX0_insert_X0_putIn
theorem dX0_insert_0 : decode cX0_insert 0 = .ok (.iload_n 1, 1) := by decide +kernel
theorem dX0_insert_1 : decode cX0_insert 1 = .ok (.iload_n 2, 1) := by decide +kernel
theorem dX0_insert_2 : decode cX0_insert 2 = .ok (.iload_n 3, 1) := by decide +kernel
theorem dX0_insert_3 : decode cX0_insert 3 = .ok (.invokestatic 42, 3) := by decide +kernel
theorem dX0_insert_6 : decode cX0_insert 6 = .ok (.ifCond .ne 5, 3) := by decide +kernel
theorem dX0_insert_9 : decode cX0_insert 9 = .ok (.iconst (-1), 1) := by decide +kernel
theorem dX0_insert_10 : decode cX0_insert 10 = .ok (.ireturn, 1) := by decide +kernel
theorem dX0_insert_11 : decode cX0_insert 11 = .ok (.aload_n 0, 1) := by decide +kernel
theorem dX0_insert_12 : decode cX0_insert 12 = .ok (.iload_n 1, 1) := by decide +kernel
theorem dX0_insert_13 : decode cX0_insert 13 = .ok (.iload_n 2, 1) := by decide +kernel
theorem dX0_insert_14 : decode cX0_insert 14 = .ok (.iload_n 3, 1) := by decide +kernel
theorem dX0_insert_15 : decode cX0_insert 15 = .ok (.invokevirtual 46, 3) := by decide +kernel
theorem dX0_insert_18 : decode cX0_insert 18 = .ok (.lstore 4, 2) := by decide +kernel
theorem dX0_insert_20 : decode cX0_insert 20 = .ok (.aload_n 0, 1) := by decide +kernel
theorem dX0_insert_21 : decode cX0_insert 21 = .ok (.lload 4, 2) := by decide +kernel
theorem dX0_insert_23 : decode cX0_insert 23 = .ok (.invokevirtual 50, 3) := by decide +kernel
theorem dX0_insert_26 : decode cX0_insert 26 = .ok (.istore 6, 2) := by decide +kernel
theorem dX0_insert_28 : decode cX0_insert 28 = .ok (.aload_n 0, 1) := by decide +kernel
theorem dX0_insert_29 : decode cX0_insert 29 = .ok (.iload 6, 2) := by decide +kernel
theorem dX0_insert_31 : decode cX0_insert 31 = .ok (.lload 4, 2) := by decide +kernel
theorem dX0_insert_33 : decode cX0_insert 33 = .ok (.invokevirtual 54, 3) := by decide +kernel
theorem dX0_insert_36 : decode cX0_insert 36 = .ok (.ifCond .eq 5, 3) := by decide +kernel
theorem dX0_insert_39 : decode cX0_insert 39 = .ok (.iconst 0, 1) := by decide +kernel
theorem dX0_insert_40 : decode cX0_insert 40 = .ok (.ireturn, 1) := by decide +kernel
theorem dX0_insert_41 : decode cX0_insert 41 = .ok (.aload_n 0, 1) := by decide +kernel
theorem dX0_insert_42 : decode cX0_insert 42 = .ok (.getfield 33, 3) := by decide +kernel
theorem dX0_insert_45 : decode cX0_insert 45 = .ok (.sipush 20000, 3) := by decide +kernel
theorem dX0_insert_48 : decode cX0_insert 48 = .ok (.if_icmp .lt 6, 3) := by decide +kernel
theorem dX0_insert_51 : decode cX0_insert 51 = .ok (.bipush (-2), 2) := by decide +kernel
theorem dX0_insert_53 : decode cX0_insert 53 = .ok (.ireturn, 1) := by decide +kernel
theorem dX0_insert_54 : decode cX0_insert 54 = .ok (.aload_n 0, 1) := by decide +kernel
theorem dX0_insert_55 : decode cX0_insert 55 = .ok (.iload 6, 2) := by decide +kernel
theorem dX0_insert_57 : decode cX0_insert 57 = .ok (.lload 4, 2) := by decide +kernel
theorem dX0_insert_59 : decode cX0_insert 59 = .ok (.invokevirtual 58, 3) := by decide +kernel
theorem dX0_insert_62 : decode cX0_insert 62 = .ok (.iconst 1, 1) := by decide +kernel
theorem dX0_insert_63 : decode cX0_insert 63 = .ok (.ireturn, 1) := by decide +kernel
set_option maxRecDepth 20000 in
theorem ggX0_remove_X0_areNumbers : GoodIn wsX0_remove wsX0_areNumbers := goodIn_r _ [4, 5, 6, 3, 7, 8] (by decide +kernel) (by decide +kernel)
set_option maxRecDepth 20000 in
theorem gX0_remove_X0_areNumbers : GoodIn wsX0_remove (va_wsS RX0 42 yX0_areNumbers wsX0_areNumbers) := goodIn_app (goodIn_of _ (by decide +kernel)) ggX0_remove_X0_areNumbers
set_option maxRecDepth 20000 in
theorem ggX0_remove_X0_keyOfTriple : GoodIn wsX0_remove wsX0_keyOfTriple := goodIn_r _ [12, 13, 14, 15, 16, 17, 3, 18, 37, 38, 39, 40, 41, 42] (by decide +kernel) (by decide +kernel)
set_option maxRecDepth 20000 in
theorem gX0_remove_X0_keyOfTriple : GoodIn wsX0_remove (wsV RX0 46 RX0 yX0_keyOfTriple wsX0_keyOfTriple) := goodIn_app (goodIn_of _ (by decide +kernel)) ggX0_remove_X0_keyOfTriple
set_option maxRecDepth 20000 in
theorem ggX0_remove_X0_keysBefore : GoodIn wsX0_remove wsX0_keysBefore := goodIn_r _ [22, 23, 24, 37, 38, 39, 40, 41, 42] (by decide +kernel) (by decide +kernel)
set_option maxRecDepth 20000 in
theorem gX0_remove_X0_keysBefore : GoodIn wsX0_remove (wsV RX0 50 RX0 yX0_keysBefore wsX0_keysBefore) := goodIn_app (goodIn_of _ (by decide +kernel)) ggX0_remove_X0_keysBefore
set_option maxRecDepth 20000 in
theorem ggX0_remove_X0_isKeyAt : GoodIn wsX0_remove wsX0_isKeyAt := goodIn_r _ [28, 23, 24, 37, 38, 39, 40, 41, 42] (by decide +kernel) (by decide +kernel)
set_option maxRecDepth 20000 in
theorem gX0_remove_X0_isKeyAt : GoodIn wsX0_remove (wsV RX0 54 RX0 yX0_isKeyAt wsX0_isKeyAt) := goodIn_app (goodIn_of _ (by decide +kernel)) ggX0_remove_X0_isKeyAt
set_option maxRecDepth 20000 in
theorem ggX0_remove_X0_takeOut : GoodIn wsX0_remove wsX0_takeOut := goodIn_r _ [32, 24, 23, 33, 34, 35, 36, 37, 38, 39, 40, 41, 42] (by decide +kernel) (by decide +kernel)
set_option maxRecDepth 20000 in
theorem gX0_remove_X0_takeOut : GoodIn wsX0_remove (wsV RX0 62 RX0 yX0_takeOut wsX0_takeOut) := goodIn_app (goodIn_of _ (by decide +kernel)) ggX0_remove_X0_takeOut
theorem dX0_remove_0 : decode cX0_remove 0 = .ok (.iload_n 1, 1) := by decide +kernel
theorem dX0_remove_1 : decode cX0_remove 1 = .ok (.iload_n 2, 1) := by decide +kernel
theorem dX0_remove_2 : decode cX0_remove 2 = .ok (.iload_n 3, 1) := by decide +kernel
theorem dX0_remove_3 : decode cX0_remove 3 = .ok (.invokestatic 42, 3) := by decide +kernel
theorem dX0_remove_6 : decode cX0_remove 6 = .ok (.ifCond .ne 5, 3) := by decide +kernel
theorem dX0_remove_9 : decode cX0_remove 9 = .ok (.iconst (-1), 1) := by decide +kernel
theorem dX0_remove_10 : decode cX0_remove 10 = .ok (.ireturn, 1) := by decide +kernel
theorem dX0_remove_11 : decode cX0_remove 11 = .ok (.aload_n 0, 1) := by decide +kernel
theorem dX0_remove_12 : decode cX0_remove 12 = .ok (.iload_n 1, 1) := by decide +kernel
theorem dX0_remove_13 : decode cX0_remove 13 = .ok (.iload_n 2, 1) := by decide +kernel
theorem dX0_remove_14 : decode cX0_remove 14 = .ok (.iload_n 3, 1) := by decide +kernel
theorem dX0_remove_15 : decode cX0_remove 15 = .ok (.invokevirtual 46, 3) := by decide +kernel
theorem dX0_remove_18 : decode cX0_remove 18 = .ok (.lstore 4, 2) := by decide +kernel
theorem dX0_remove_20 : decode cX0_remove 20 = .ok (.aload_n 0, 1) := by decide +kernel
theorem dX0_remove_21 : decode cX0_remove 21 = .ok (.lload 4, 2) := by decide +kernel
theorem dX0_remove_23 : decode cX0_remove 23 = .ok (.invokevirtual 50, 3) := by decide +kernel
theorem dX0_remove_26 : decode cX0_remove 26 = .ok (.istore 6, 2) := by decide +kernel
theorem dX0_remove_28 : decode cX0_remove 28 = .ok (.aload_n 0, 1) := by decide +kernel
theorem dX0_remove_29 : decode cX0_remove 29 = .ok (.iload 6, 2) := by decide +kernel
theorem dX0_remove_31 : decode cX0_remove 31 = .ok (.lload 4, 2) := by decide +kernel
theorem dX0_remove_33 : decode cX0_remove 33 = .ok (.invokevirtual 54, 3) := by decide +kernel
theorem dX0_remove_36 : decode cX0_remove 36 = .ok (.ifCond .ne 5, 3) := by decide +kernel
theorem dX0_remove_39 : decode cX0_remove 39 = .ok (.iconst 0, 1) := by decide +kernel
theorem dX0_remove_40 : decode cX0_remove 40 = .ok (.ireturn, 1) := by decide +kernel
theorem dX0_remove_41 : decode cX0_remove 41 = .ok (.aload_n 0, 1) := by decide +kernel
theorem dX0_remove_42 : decode cX0_remove 42 = .ok (.iload 6, 2) := by decide +kernel
theorem dX0_remove_44 : decode cX0_remove 44 = .ok (.iload 6, 2) := by decide +kernel
theorem dX0_remove_46 : decode cX0_remove 46 = .ok (.iconst 1, 1) := by decide +kernel
theorem dX0_remove_47 : decode cX0_remove 47 = .ok (.iadd, 1) := by decide +kernel
theorem dX0_remove_48 : decode cX0_remove 48 = .ok (.invokevirtual 62, 3) := by decide +kernel
theorem dX0_remove_51 : decode cX0_remove 51 = .ok (.iconst 1, 1) := by decide +kernel
theorem dX0_remove_52 : decode cX0_remove 52 = .ok (.ireturn, 1) := by decide +kernel
set_option maxRecDepth 20000 in
theorem ggX0_has_X0_areNumbers : GoodIn wsX0_has wsX0_areNumbers := goodIn_r _ [4, 5, 6, 3, 7, 8] (by decide +kernel) (by decide +kernel)
set_option maxRecDepth 20000 in
theorem gX0_has_X0_areNumbers : GoodIn wsX0_has (va_wsS RX0 42 yX0_areNumbers wsX0_areNumbers) := goodIn_app (goodIn_of _ (by decide +kernel)) ggX0_has_X0_areNumbers
set_option maxRecDepth 20000 in
theorem ggX0_has_X0_keyOfTriple : GoodIn wsX0_has wsX0_keyOfTriple := goodIn_r _ [12, 13, 14, 15, 16, 17, 3, 18, 33, 34, 35, 36, 37, 38] (by decide +kernel) (by decide +kernel)
set_option maxRecDepth 20000 in
theorem gX0_has_X0_keyOfTriple : GoodIn wsX0_has (wsV RX0 46 RX0 yX0_keyOfTriple wsX0_keyOfTriple) := goodIn_app (goodIn_of _ (by decide +kernel)) ggX0_has_X0_keyOfTriple
set_option maxRecDepth 20000 in
theorem ggX0_has_X0_isHeld : GoodIn wsX0_has wsX0_isHeld := goodIn_r _ [22, 23, 24, 25, 3, 26, 27, 28, 29, 30, 31, 32, 33, 34, 35, 36, 37, 38] (by decide +kernel) (by decide +kernel)
set_option maxRecDepth 20000 in
theorem gX0_has_X0_isHeld : GoodIn wsX0_has (wsV RX0 66 RX0 yX0_isHeld wsX0_isHeld) := goodIn_app (goodIn_of _ (by decide +kernel)) ggX0_has_X0_isHeld
theorem dX0_has_0 : decode cX0_has 0 = .ok (.iload_n 1, 1) := by decide +kernel
theorem dX0_has_1 : decode cX0_has 1 = .ok (.iload_n 2, 1) := by decide +kernel
theorem dX0_has_2 : decode cX0_has 2 = .ok (.iload_n 3, 1) := by decide +kernel
theorem dX0_has_3 : decode cX0_has 3 = .ok (.invokestatic 42, 3) := by decide +kernel
theorem dX0_has_6 : decode cX0_has 6 = .ok (.ifCond .ne 5, 3) := by decide +kernel
theorem dX0_has_9 : decode cX0_has 9 = .ok (.iconst (-1), 1) := by decide +kernel
theorem dX0_has_10 : decode cX0_has 10 = .ok (.ireturn, 1) := by decide +kernel
theorem dX0_has_11 : decode cX0_has 11 = .ok (.aload_n 0, 1) := by decide +kernel
theorem dX0_has_12 : decode cX0_has 12 = .ok (.aload_n 0, 1) := by decide +kernel
theorem dX0_has_13 : decode cX0_has 13 = .ok (.iload_n 1, 1) := by decide +kernel
theorem dX0_has_14 : decode cX0_has 14 = .ok (.iload_n 2, 1) := by decide +kernel
theorem dX0_has_15 : decode cX0_has 15 = .ok (.iload_n 3, 1) := by decide +kernel
theorem dX0_has_16 : decode cX0_has 16 = .ok (.invokevirtual 46, 3) := by decide +kernel
theorem dX0_has_19 : decode cX0_has 19 = .ok (.invokevirtual 66, 3) := by decide +kernel
theorem dX0_has_22 : decode cX0_has 22 = .ok (.ifCond .eq 7, 3) := by decide +kernel
theorem dX0_has_25 : decode cX0_has 25 = .ok (.iconst 1, 1) := by decide +kernel
theorem dX0_has_26 : decode cX0_has 26 = .ok (.goto 4, 3) := by decide +kernel
theorem dX0_has_29 : decode cX0_has 29 = .ok (.iconst 0, 1) := by decide +kernel
theorem dX0_has_30 : decode cX0_has 30 = .ok (.ireturn, 1) := by decide +kernel
set_option maxRecDepth 20000 in
theorem ggX0_count_X0_endOf : GoodIn wsX0_count wsX0_endOf := goodIn_r _ [5, 6, 7, 4, 8, 9, 10, 11, 12, 13, 14, 15, 16, 17, 18, 19, 20, 21, 22, 23, 24, 25, 26, 27, 28, 29, 30, 35, 36, 37, 38, 39, 40] (by decide +kernel) (by decide +kernel)
set_option maxRecDepth 20000 in
theorem gX0_count_X0_endOf : GoodIn wsX0_count (wsV RX0 70 RX0 yX0_endOf wsX0_endOf) := goodIn_app (goodIn_of _ (by decide +kernel)) ggX0_count_X0_endOf
set_option maxRecDepth 20000 in
theorem ggX0_count_X0_startOf : GoodIn wsX0_count wsX0_startOf := goodIn_r _ [34, 6, 7, 4, 8, 9, 10, 11, 12, 13, 14, 15, 16, 17, 18, 19, 20, 21, 25, 26, 27, 28, 29, 30, 35, 36, 37, 38, 39, 40] (by decide +kernel) (by decide +kernel)
set_option maxRecDepth 20000 in
theorem gX0_count_X0_startOf : GoodIn wsX0_count (wsV RX0 74 RX0 yX0_startOf wsX0_startOf) := goodIn_app (goodIn_of _ (by decide +kernel)) ggX0_count_X0_startOf
theorem dX0_count_0 : decode cX0_count 0 = .ok (.iload_n 1, 1) := by decide +kernel
theorem dX0_count_1 : decode cX0_count 1 = .ok (.ifCond .lt 8, 3) := by decide +kernel
theorem dX0_count_4 : decode cX0_count 4 = .ok (.iload_n 1, 1) := by decide +kernel
theorem dX0_count_5 : decode cX0_count 5 = .ok (.iconst 3, 1) := by decide +kernel
theorem dX0_count_6 : decode cX0_count 6 = .ok (.if_icmp .le 5, 3) := by decide +kernel
theorem dX0_count_9 : decode cX0_count 9 = .ok (.iconst (-1), 1) := by decide +kernel
theorem dX0_count_10 : decode cX0_count 10 = .ok (.ireturn, 1) := by decide +kernel
theorem dX0_count_11 : decode cX0_count 11 = .ok (.aload_n 0, 1) := by decide +kernel
theorem dX0_count_12 : decode cX0_count 12 = .ok (.iload_n 1, 1) := by decide +kernel
theorem dX0_count_13 : decode cX0_count 13 = .ok (.iload_n 2, 1) := by decide +kernel
theorem dX0_count_14 : decode cX0_count 14 = .ok (.iload_n 3, 1) := by decide +kernel
theorem dX0_count_15 : decode cX0_count 15 = .ok (.iload 4, 2) := by decide +kernel
theorem dX0_count_17 : decode cX0_count 17 = .ok (.invokevirtual 70, 3) := by decide +kernel
theorem dX0_count_20 : decode cX0_count 20 = .ok (.aload_n 0, 1) := by decide +kernel
theorem dX0_count_21 : decode cX0_count 21 = .ok (.iload_n 1, 1) := by decide +kernel
theorem dX0_count_22 : decode cX0_count 22 = .ok (.iload_n 2, 1) := by decide +kernel
theorem dX0_count_23 : decode cX0_count 23 = .ok (.iload_n 3, 1) := by decide +kernel
theorem dX0_count_24 : decode cX0_count 24 = .ok (.iload 4, 2) := by decide +kernel
theorem dX0_count_26 : decode cX0_count 26 = .ok (.invokevirtual 74, 3) := by decide +kernel
theorem dX0_count_29 : decode cX0_count 29 = .ok (.isub, 1) := by decide +kernel
theorem dX0_count_30 : decode cX0_count 30 = .ok (.ireturn, 1) := by decide +kernel
set_option maxRecDepth 20000 in
theorem ggX0_different_X0_startOf : GoodIn wsX0_different wsX0_startOf := goodIn_r _ [5, 6, 7, 4, 8, 9, 10, 11, 12, 13, 14, 15, 16, 17, 18, 19, 20, 21, 22, 23, 24, 25, 26, 27, 40, 41, 42, 43, 44, 45] (by decide +kernel) (by decide +kernel)
set_option maxRecDepth 20000 in
theorem gX0_different_X0_startOf : GoodIn wsX0_different (wsV RX0 74 RX0 yX0_startOf wsX0_startOf) := goodIn_app (goodIn_of _ (by decide +kernel)) ggX0_different_X0_startOf
set_option maxRecDepth 20000 in
theorem ggX0_different_X0_endOf : GoodIn wsX0_different wsX0_endOf := goodIn_r _ [31, 6, 7, 4, 8, 9, 10, 11, 12, 13, 14, 15, 16, 17, 18, 19, 20, 21, 32, 33, 34, 22, 23, 24, 25, 26, 27, 40, 41, 42, 43, 44, 45] (by decide +kernel) (by decide +kernel)
set_option maxRecDepth 20000 in
theorem gX0_different_X0_endOf : GoodIn wsX0_different (wsV RX0 70 RX0 yX0_endOf wsX0_endOf) := goodIn_app (goodIn_of _ (by decide +kernel)) ggX0_different_X0_endOf
set_option maxRecDepth 20000 in
theorem ggX0_different_X0_shiftOf : GoodIn wsX0_different wsX0_shiftOf := goodIn_r _ [21] (by decide +kernel) (by decide +kernel)
set_option maxRecDepth 20000 in
theorem gX0_different_X0_shiftOf : GoodIn wsX0_different (va_wsS RX0 77 yX0_shiftOf wsX0_shiftOf) := goodIn_app (goodIn_of _ (by decide +kernel)) ggX0_different_X0_shiftOf
set_option maxRecDepth 20000 in
theorem ggX0_different_X0_beginnings : GoodIn wsX0_different wsX0_beginnings := goodIn_r _ [38, 39, 27, 40, 41, 42, 43, 44, 45] (by decide +kernel) (by decide +kernel)
set_option maxRecDepth 20000 in
theorem gX0_different_X0_beginnings : GoodIn wsX0_different (wsV RX0 81 RX0 yX0_beginnings wsX0_beginnings) := goodIn_app (goodIn_of _ (by decide +kernel)) ggX0_different_X0_beginnings
theorem dX0_different_0 : decode cX0_different 0 = .ok (.iload_n 1, 1) := by decide +kernel
theorem dX0_different_1 : decode cX0_different 1 = .ok (.ifCond .lt 8, 3) := by decide +kernel
theorem dX0_different_4 : decode cX0_different 4 = .ok (.iload_n 1, 1) := by decide +kernel
theorem dX0_different_5 : decode cX0_different 5 = .ok (.iconst 2, 1) := by decide +kernel
theorem dX0_different_6 : decode cX0_different 6 = .ok (.if_icmp .le 5, 3) := by decide +kernel
theorem dX0_different_9 : decode cX0_different 9 = .ok (.iconst (-1), 1) := by decide +kernel
theorem dX0_different_10 : decode cX0_different 10 = .ok (.ireturn, 1) := by decide +kernel
theorem dX0_different_11 : decode cX0_different 11 = .ok (.aload_n 0, 1) := by decide +kernel
theorem dX0_different_12 : decode cX0_different 12 = .ok (.aload_n 0, 1) := by decide +kernel
theorem dX0_different_13 : decode cX0_different 13 = .ok (.iload_n 1, 1) := by decide +kernel
theorem dX0_different_14 : decode cX0_different 14 = .ok (.iload_n 2, 1) := by decide +kernel
theorem dX0_different_15 : decode cX0_different 15 = .ok (.iload_n 3, 1) := by decide +kernel
theorem dX0_different_16 : decode cX0_different 16 = .ok (.iconst 0, 1) := by decide +kernel
theorem dX0_different_17 : decode cX0_different 17 = .ok (.invokevirtual 74, 3) := by decide +kernel
theorem dX0_different_20 : decode cX0_different 20 = .ok (.aload_n 0, 1) := by decide +kernel
theorem dX0_different_21 : decode cX0_different 21 = .ok (.iload_n 1, 1) := by decide +kernel
theorem dX0_different_22 : decode cX0_different 22 = .ok (.iload_n 2, 1) := by decide +kernel
theorem dX0_different_23 : decode cX0_different 23 = .ok (.iload_n 3, 1) := by decide +kernel
theorem dX0_different_24 : decode cX0_different 24 = .ok (.iconst 0, 1) := by decide +kernel
theorem dX0_different_25 : decode cX0_different 25 = .ok (.invokevirtual 70, 3) := by decide +kernel
theorem dX0_different_28 : decode cX0_different 28 = .ok (.iload_n 1, 1) := by decide +kernel
theorem dX0_different_29 : decode cX0_different 29 = .ok (.invokestatic 77, 3) := by decide +kernel
theorem dX0_different_32 : decode cX0_different 32 = .ok (.invokevirtual 81, 3) := by decide +kernel
theorem dX0_different_35 : decode cX0_different 35 = .ok (.ireturn, 1) := by decide +kernel
set_option maxRecDepth 20000 in
theorem ggX0_rank_X0_areNumbers : GoodIn wsX0_rank wsX0_areNumbers := goodIn_r _ [4, 5, 6, 3, 7, 8] (by decide +kernel) (by decide +kernel)
set_option maxRecDepth 20000 in
theorem gX0_rank_X0_areNumbers : GoodIn wsX0_rank (va_wsS RX0 42 yX0_areNumbers wsX0_areNumbers) := goodIn_app (goodIn_of _ (by decide +kernel)) ggX0_rank_X0_areNumbers
set_option maxRecDepth 20000 in
theorem ggX0_rank_X0_keyOf : GoodIn wsX0_rank wsX0_keyOf := goodIn_r _ [11, 12, 13, 3, 14] (by decide +kernel) (by decide +kernel)
set_option maxRecDepth 20000 in
theorem gX0_rank_X0_keyOf : GoodIn wsX0_rank (va_wsS RX0 85 yX0_keyOf wsX0_keyOf) := goodIn_app (goodIn_of _ (by decide +kernel)) ggX0_rank_X0_keyOf
set_option maxRecDepth 20000 in
theorem ggX0_rank_X0_keysBefore : GoodIn wsX0_rank wsX0_keysBefore := goodIn_r _ [18, 19, 20, 21, 22, 23, 24, 25, 26] (by decide +kernel) (by decide +kernel)
set_option maxRecDepth 20000 in
theorem gX0_rank_X0_keysBefore : GoodIn wsX0_rank (wsV RX0 50 RX0 yX0_keysBefore wsX0_keysBefore) := goodIn_app (goodIn_of _ (by decide +kernel)) ggX0_rank_X0_keysBefore
theorem dX0_rank_0 : decode cX0_rank 0 = .ok (.iload_n 1, 1) := by decide +kernel
theorem dX0_rank_1 : decode cX0_rank 1 = .ok (.iload_n 2, 1) := by decide +kernel
theorem dX0_rank_2 : decode cX0_rank 2 = .ok (.iload_n 3, 1) := by decide +kernel
theorem dX0_rank_3 : decode cX0_rank 3 = .ok (.invokestatic 42, 3) := by decide +kernel
theorem dX0_rank_6 : decode cX0_rank 6 = .ok (.ifCond .ne 5, 3) := by decide +kernel
theorem dX0_rank_9 : decode cX0_rank 9 = .ok (.iconst (-1), 1) := by decide +kernel
theorem dX0_rank_10 : decode cX0_rank 10 = .ok (.ireturn, 1) := by decide +kernel
theorem dX0_rank_11 : decode cX0_rank 11 = .ok (.aload_n 0, 1) := by decide +kernel
theorem dX0_rank_12 : decode cX0_rank 12 = .ok (.iload_n 1, 1) := by decide +kernel
theorem dX0_rank_13 : decode cX0_rank 13 = .ok (.iload_n 2, 1) := by decide +kernel
theorem dX0_rank_14 : decode cX0_rank 14 = .ok (.iload_n 3, 1) := by decide +kernel
theorem dX0_rank_15 : decode cX0_rank 15 = .ok (.invokestatic 85, 3) := by decide +kernel
theorem dX0_rank_18 : decode cX0_rank 18 = .ok (.invokevirtual 50, 3) := by decide +kernel
theorem dX0_rank_21 : decode cX0_rank 21 = .ok (.ireturn, 1) := by decide +kernel
set_option maxRecDepth 20000 in
theorem ggX0_choose_X0_standAt : GoodIn wsX0_choose wsX0_standAt := goodIn_r _ [5, 6, 7, 8, 9, 10, 11, 12, 13, 14, 15] (by decide +kernel) (by decide +kernel)
set_option maxRecDepth 20000 in
theorem gX0_choose_X0_standAt : GoodIn wsX0_choose (wsV RX0 88 RX0 yX0_standAt wsX0_standAt) := goodIn_app (goodIn_of _ (by decide +kernel)) ggX0_choose_X0_standAt
theorem dX0_choose_0 : decode cX0_choose 0 = .ok (.aload_n 0, 1) := by decide +kernel
theorem dX0_choose_1 : decode cX0_choose 1 = .ok (.iload_n 1, 1) := by decide +kernel
theorem dX0_choose_2 : decode cX0_choose 2 = .ok (.invokevirtual 88, 3) := by decide +kernel
theorem dX0_choose_5 : decode cX0_choose 5 = .ok (.ireturn, 1) := by decide +kernel
set_option maxRecDepth 20000 in
theorem ggX0_seek_X0_areNumbers : GoodIn wsX0_seek wsX0_areNumbers := goodIn_r _ [4, 5, 6, 3, 7, 8] (by decide +kernel) (by decide +kernel)
set_option maxRecDepth 20000 in
theorem gX0_seek_X0_areNumbers : GoodIn wsX0_seek (va_wsS RX0 42 yX0_areNumbers wsX0_areNumbers) := goodIn_app (goodIn_of _ (by decide +kernel)) ggX0_seek_X0_areNumbers
set_option maxRecDepth 20000 in
theorem ggX0_seek_X0_keyOf : GoodIn wsX0_seek wsX0_keyOf := goodIn_r _ [11, 12, 13, 3, 14] (by decide +kernel) (by decide +kernel)
set_option maxRecDepth 20000 in
theorem gX0_seek_X0_keyOf : GoodIn wsX0_seek (va_wsS RX0 85 yX0_keyOf wsX0_keyOf) := goodIn_app (goodIn_of _ (by decide +kernel)) ggX0_seek_X0_keyOf
set_option maxRecDepth 20000 in
theorem ggX0_seek_X0_keysBefore : GoodIn wsX0_seek wsX0_keysBefore := goodIn_r _ [18, 19, 20, 27, 28, 29, 30, 31, 32] (by decide +kernel) (by decide +kernel)
set_option maxRecDepth 20000 in
theorem gX0_seek_X0_keysBefore : GoodIn wsX0_seek (wsV RX0 50 RX0 yX0_keysBefore wsX0_keysBefore) := goodIn_app (goodIn_of _ (by decide +kernel)) ggX0_seek_X0_keysBefore
set_option maxRecDepth 20000 in
theorem ggX0_seek_X0_standAt : GoodIn wsX0_seek wsX0_standAt := goodIn_r _ [24, 19, 20, 25, 26, 27, 28, 29, 30, 31, 32] (by decide +kernel) (by decide +kernel)
set_option maxRecDepth 20000 in
theorem gX0_seek_X0_standAt : GoodIn wsX0_seek (wsV RX0 88 RX0 yX0_standAt wsX0_standAt) := goodIn_app (goodIn_of _ (by decide +kernel)) ggX0_seek_X0_standAt
theorem dX0_seek_0 : decode cX0_seek 0 = .ok (.iload_n 1, 1) := by decide +kernel
theorem dX0_seek_1 : decode cX0_seek 1 = .ok (.iload_n 2, 1) := by decide +kernel
theorem dX0_seek_2 : decode cX0_seek 2 = .ok (.iload_n 3, 1) := by decide +kernel
theorem dX0_seek_3 : decode cX0_seek 3 = .ok (.invokestatic 42, 3) := by decide +kernel
theorem dX0_seek_6 : decode cX0_seek 6 = .ok (.ifCond .ne 5, 3) := by decide +kernel
theorem dX0_seek_9 : decode cX0_seek 9 = .ok (.iconst 0, 1) := by decide +kernel
theorem dX0_seek_10 : decode cX0_seek 10 = .ok (.ireturn, 1) := by decide +kernel
theorem dX0_seek_11 : decode cX0_seek 11 = .ok (.aload_n 0, 1) := by decide +kernel
theorem dX0_seek_12 : decode cX0_seek 12 = .ok (.aload_n 0, 1) := by decide +kernel
theorem dX0_seek_13 : decode cX0_seek 13 = .ok (.iload_n 1, 1) := by decide +kernel
theorem dX0_seek_14 : decode cX0_seek 14 = .ok (.iload_n 2, 1) := by decide +kernel
theorem dX0_seek_15 : decode cX0_seek 15 = .ok (.iload_n 3, 1) := by decide +kernel
theorem dX0_seek_16 : decode cX0_seek 16 = .ok (.invokestatic 85, 3) := by decide +kernel
theorem dX0_seek_19 : decode cX0_seek 19 = .ok (.invokevirtual 50, 3) := by decide +kernel
theorem dX0_seek_22 : decode cX0_seek 22 = .ok (.invokevirtual 88, 3) := by decide +kernel
theorem dX0_seek_25 : decode cX0_seek 25 = .ok (.ireturn, 1) := by decide +kernel
set_option maxRecDepth 20000 in
theorem ggX0_next_X0_keysBefore : GoodIn wsX0_next wsX0_keysBefore := goodIn_r _ [6, 7, 8, 14, 15, 16, 17, 18, 19] (by decide +kernel) (by decide +kernel)
set_option maxRecDepth 20000 in
theorem gX0_next_X0_keysBefore : GoodIn wsX0_next (wsV RX0 50 RX0 yX0_keysBefore wsX0_keysBefore) := goodIn_app (goodIn_of _ (by decide +kernel)) ggX0_next_X0_keysBefore
set_option maxRecDepth 20000 in
theorem ggX0_next_X0_standAt : GoodIn wsX0_next wsX0_standAt := goodIn_r _ [12, 7, 8, 13, 1, 14, 15, 16, 17, 18, 19] (by decide +kernel) (by decide +kernel)
set_option maxRecDepth 20000 in
theorem gX0_next_X0_standAt : GoodIn wsX0_next (wsV RX0 88 RX0 yX0_standAt wsX0_standAt) := goodIn_app (goodIn_of _ (by decide +kernel)) ggX0_next_X0_standAt
theorem dX0_next_0 : decode cX0_next 0 = .ok (.aload_n 0, 1) := by decide +kernel
theorem dX0_next_1 : decode cX0_next 1 = .ok (.aload_n 0, 1) := by decide +kernel
theorem dX0_next_2 : decode cX0_next 2 = .ok (.aload_n 0, 1) := by decide +kernel
theorem dX0_next_3 : decode cX0_next 3 = .ok (.getfield 38, 3) := by decide +kernel
theorem dX0_next_6 : decode cX0_next 6 = .ok (.lconst 1, 1) := by decide +kernel
theorem dX0_next_7 : decode cX0_next 7 = .ok (.ladd, 1) := by decide +kernel
theorem dX0_next_8 : decode cX0_next 8 = .ok (.invokevirtual 50, 3) := by decide +kernel
theorem dX0_next_11 : decode cX0_next 11 = .ok (.invokevirtual 88, 3) := by decide +kernel
theorem dX0_next_14 : decode cX0_next 14 = .ok (.ireturn, 1) := by decide +kernel
set_option maxRecDepth 20000 in
theorem ggX0_previous_X0_keysBefore : GoodIn wsX0_previous wsX0_keysBefore := goodIn_r _ [8, 3, 9, 14, 15, 16, 17, 18, 19] (by decide +kernel) (by decide +kernel)
set_option maxRecDepth 20000 in
theorem gX0_previous_X0_keysBefore : GoodIn wsX0_previous (wsV RX0 50 RX0 yX0_keysBefore wsX0_keysBefore) := goodIn_app (goodIn_of _ (by decide +kernel)) ggX0_previous_X0_keysBefore
set_option maxRecDepth 20000 in
theorem ggX0_previous_X0_standAt : GoodIn wsX0_previous wsX0_standAt := goodIn_r _ [13, 3, 9, 2, 1, 14, 15, 16, 17, 18, 19] (by decide +kernel) (by decide +kernel)
set_option maxRecDepth 20000 in
theorem gX0_previous_X0_standAt : GoodIn wsX0_previous (wsV RX0 88 RX0 yX0_standAt wsX0_standAt) := goodIn_app (goodIn_of _ (by decide +kernel)) ggX0_previous_X0_standAt
theorem dX0_previous_0 : decode cX0_previous 0 = .ok (.aload_n 0, 1) := by decide +kernel
theorem dX0_previous_1 : decode cX0_previous 1 = .ok (.getfield 38, 3) := by decide +kernel
theorem dX0_previous_4 : decode cX0_previous 4 = .ok (.ldc2_w 36, 3) := by decide +kernel
theorem dX0_previous_7 : decode cX0_previous 7 = .ok (.lcmp, 1) := by decide +kernel
theorem dX0_previous_8 : decode cX0_previous 8 = .ok (.ifCond .ne 10, 3) := by decide +kernel
theorem dX0_previous_11 : decode cX0_previous 11 = .ok (.aload_n 0, 1) := by decide +kernel
theorem dX0_previous_12 : decode cX0_previous 12 = .ok (.getfield 33, 3) := by decide +kernel
theorem dX0_previous_15 : decode cX0_previous 15 = .ok (.goto 11, 3) := by decide +kernel
theorem dX0_previous_18 : decode cX0_previous 18 = .ok (.aload_n 0, 1) := by decide +kernel
theorem dX0_previous_19 : decode cX0_previous 19 = .ok (.aload_n 0, 1) := by decide +kernel
theorem dX0_previous_20 : decode cX0_previous 20 = .ok (.getfield 38, 3) := by decide +kernel
theorem dX0_previous_23 : decode cX0_previous 23 = .ok (.invokevirtual 50, 3) := by decide +kernel
theorem dX0_previous_26 : decode cX0_previous 26 = .ok (.istore_n 1, 1) := by decide +kernel
theorem dX0_previous_27 : decode cX0_previous 27 = .ok (.aload_n 0, 1) := by decide +kernel
theorem dX0_previous_28 : decode cX0_previous 28 = .ok (.iload_n 1, 1) := by decide +kernel
theorem dX0_previous_29 : decode cX0_previous 29 = .ok (.iconst 1, 1) := by decide +kernel
theorem dX0_previous_30 : decode cX0_previous 30 = .ok (.isub, 1) := by decide +kernel
theorem dX0_previous_31 : decode cX0_previous 31 = .ok (.invokevirtual 88, 3) := by decide +kernel
theorem dX0_previous_34 : decode cX0_previous 34 = .ok (.ireturn, 1) := by decide +kernel
set_option maxRecDepth 20000 in
theorem ggX0_told_X0_cursorNumber : GoodIn wsX0_told wsX0_cursorNumber := goodIn_r _ [10, 1, 11, 12, 13, 9, 14, 15, 16, 17, 18, 19, 20] (by decide +kernel) (by decide +kernel)
set_option maxRecDepth 20000 in
theorem gX0_told_X0_cursorNumber : GoodIn wsX0_told (wsV RX0 92 RX0 yX0_cursorNumber wsX0_cursorNumber) := goodIn_app (goodIn_of _ (by decide +kernel)) ggX0_told_X0_cursorNumber
theorem dX0_told_0 : decode cX0_told 0 = .ok (.aload_n 0, 1) := by decide +kernel
theorem dX0_told_1 : decode cX0_told 1 = .ok (.getfield 38, 3) := by decide +kernel
theorem dX0_told_4 : decode cX0_told 4 = .ok (.ldc2_w 36, 3) := by decide +kernel
theorem dX0_told_7 : decode cX0_told 7 = .ok (.lcmp, 1) := by decide +kernel
theorem dX0_told_8 : decode cX0_told 8 = .ok (.ifCond .ne 5, 3) := by decide +kernel
theorem dX0_told_11 : decode cX0_told 11 = .ok (.iconst (-1), 1) := by decide +kernel
theorem dX0_told_12 : decode cX0_told 12 = .ok (.ireturn, 1) := by decide +kernel
theorem dX0_told_13 : decode cX0_told 13 = .ok (.iload_n 1, 1) := by decide +kernel
theorem dX0_told_14 : decode cX0_told 14 = .ok (.tableswitch 71 0 5 #[38, 38, 38, 44, 53, 62], 38) := by decide +kernel
theorem dX0_told_52 : decode cX0_told 52 = .ok (.aload_n 0, 1) := by decide +kernel
theorem dX0_told_53 : decode cX0_told 53 = .ok (.iload_n 1, 1) := by decide +kernel
theorem dX0_told_54 : decode cX0_told 54 = .ok (.invokevirtual 92, 3) := by decide +kernel
theorem dX0_told_57 : decode cX0_told 57 = .ok (.ireturn, 1) := by decide +kernel
theorem dX0_told_58 : decode cX0_told 58 = .ok (.aload_n 0, 1) := by decide +kernel
theorem dX0_told_59 : decode cX0_told 59 = .ok (.aload_n 0, 1) := by decide +kernel
theorem dX0_told_60 : decode cX0_told 60 = .ok (.getfield 19, 3) := by decide +kernel
theorem dX0_told_63 : decode cX0_told 63 = .ok (.invokevirtual 92, 3) := by decide +kernel
theorem dX0_told_66 : decode cX0_told 66 = .ok (.ireturn, 1) := by decide +kernel
theorem dX0_told_67 : decode cX0_told 67 = .ok (.aload_n 0, 1) := by decide +kernel
theorem dX0_told_68 : decode cX0_told 68 = .ok (.aload_n 0, 1) := by decide +kernel
theorem dX0_told_69 : decode cX0_told 69 = .ok (.getfield 23, 3) := by decide +kernel
theorem dX0_told_72 : decode cX0_told 72 = .ok (.invokevirtual 92, 3) := by decide +kernel
theorem dX0_told_75 : decode cX0_told 75 = .ok (.ireturn, 1) := by decide +kernel
theorem dX0_told_76 : decode cX0_told 76 = .ok (.aload_n 0, 1) := by decide +kernel
theorem dX0_told_77 : decode cX0_told 77 = .ok (.aload_n 0, 1) := by decide +kernel
theorem dX0_told_78 : decode cX0_told 78 = .ok (.getfield 26, 3) := by decide +kernel
theorem dX0_told_81 : decode cX0_told 81 = .ok (.invokevirtual 92, 3) := by decide +kernel
theorem dX0_told_84 : decode cX0_told 84 = .ok (.ireturn, 1) := by decide +kernel
theorem dX0_told_85 : decode cX0_told 85 = .ok (.iconst (-1), 1) := by decide +kernel
theorem dX0_told_86 : decode cX0_told 86 = .ok (.ireturn, 1) := by decide +kernel
set_option maxRecDepth 20000 in
theorem ggX0_stands_X0_isHeld : GoodIn wsX0_stands wsX0_isHeld := goodIn_r _ [7, 8, 9, 10, 6, 11, 12, 13, 14, 15, 16, 17, 18, 19, 20, 21, 22, 23] (by decide +kernel) (by decide +kernel)
set_option maxRecDepth 20000 in
theorem gX0_stands_X0_isHeld : GoodIn wsX0_stands (wsV RX0 66 RX0 yX0_isHeld wsX0_isHeld) := goodIn_app (goodIn_of _ (by decide +kernel)) ggX0_stands_X0_isHeld
theorem dX0_stands_0 : decode cX0_stands 0 = .ok (.aload_n 0, 1) := by decide +kernel
theorem dX0_stands_1 : decode cX0_stands 1 = .ok (.getfield 38, 3) := by decide +kernel
theorem dX0_stands_4 : decode cX0_stands 4 = .ok (.ldc2_w 36, 3) := by decide +kernel
theorem dX0_stands_7 : decode cX0_stands 7 = .ok (.lcmp, 1) := by decide +kernel
theorem dX0_stands_8 : decode cX0_stands 8 = .ok (.ifCond .eq 18, 3) := by decide +kernel
theorem dX0_stands_11 : decode cX0_stands 11 = .ok (.aload_n 0, 1) := by decide +kernel
theorem dX0_stands_12 : decode cX0_stands 12 = .ok (.aload_n 0, 1) := by decide +kernel
theorem dX0_stands_13 : decode cX0_stands 13 = .ok (.getfield 38, 3) := by decide +kernel
theorem dX0_stands_16 : decode cX0_stands 16 = .ok (.invokevirtual 66, 3) := by decide +kernel
theorem dX0_stands_19 : decode cX0_stands 19 = .ok (.ifCond .eq 7, 3) := by decide +kernel
theorem dX0_stands_22 : decode cX0_stands 22 = .ok (.iconst 1, 1) := by decide +kernel
theorem dX0_stands_23 : decode cX0_stands 23 = .ok (.goto 4, 3) := by decide +kernel
theorem dX0_stands_26 : decode cX0_stands 26 = .ok (.iconst 0, 1) := by decide +kernel
theorem dX0_stands_27 : decode cX0_stands 27 = .ok (.ireturn, 1) := by decide +kernel
theorem dX0_size_0 : decode cX0_size 0 = .ok (.aload_n 0, 1) := by decide +kernel
theorem dX0_size_1 : decode cX0_size 1 = .ok (.getfield 33, 3) := by decide +kernel
theorem dX0_size_4 : decode cX0_size 4 = .ok (.ireturn, 1) := by decide +kernel
set_option maxRecDepth 20000 in
theorem ggX0_cut_X0_startOf : GoodIn wsX0_cut wsX0_startOf := goodIn_r _ [5, 6, 7, 4, 8, 9, 10, 11, 12, 13, 14, 15, 16, 17, 18, 19, 20, 21, 22, 23, 24, 25, 26, 27, 43, 44, 45, 46, 47, 48] (by decide +kernel) (by decide +kernel)
set_option maxRecDepth 20000 in
theorem gX0_cut_X0_startOf : GoodIn wsX0_cut (wsV RX0 74 RX0 yX0_startOf wsX0_startOf) := goodIn_app (goodIn_of _ (by decide +kernel)) ggX0_cut_X0_startOf
set_option maxRecDepth 20000 in
theorem ggX0_cut_X0_endOf : GoodIn wsX0_cut wsX0_endOf := goodIn_r _ [31, 6, 7, 4, 8, 9, 10, 11, 12, 13, 14, 15, 16, 17, 18, 19, 20, 21, 32, 33, 34, 22, 23, 24, 25, 26, 27, 43, 44, 45, 46, 47, 48] (by decide +kernel) (by decide +kernel)
set_option maxRecDepth 20000 in
theorem gX0_cut_X0_endOf : GoodIn wsX0_cut (wsV RX0 70 RX0 yX0_endOf wsX0_endOf) := goodIn_app (goodIn_of _ (by decide +kernel)) ggX0_cut_X0_endOf
set_option maxRecDepth 20000 in
theorem ggX0_cut_X0_takeOut : GoodIn wsX0_cut wsX0_takeOut := goodIn_r _ [38, 27, 26, 39, 40, 41, 42, 43, 44, 45, 46, 47, 48] (by decide +kernel) (by decide +kernel)
set_option maxRecDepth 20000 in
theorem gX0_cut_X0_takeOut : GoodIn wsX0_cut (wsV RX0 62 RX0 yX0_takeOut wsX0_takeOut) := goodIn_app (goodIn_of _ (by decide +kernel)) ggX0_cut_X0_takeOut
theorem dX0_cut_0 : decode cX0_cut 0 = .ok (.iload_n 1, 1) := by decide +kernel
theorem dX0_cut_1 : decode cX0_cut 1 = .ok (.ifCond .lt 8, 3) := by decide +kernel
theorem dX0_cut_4 : decode cX0_cut 4 = .ok (.iload_n 1, 1) := by decide +kernel
theorem dX0_cut_5 : decode cX0_cut 5 = .ok (.iconst 3, 1) := by decide +kernel
theorem dX0_cut_6 : decode cX0_cut 6 = .ok (.if_icmp .le 5, 3) := by decide +kernel
theorem dX0_cut_9 : decode cX0_cut 9 = .ok (.iconst (-1), 1) := by decide +kernel
theorem dX0_cut_10 : decode cX0_cut 10 = .ok (.ireturn, 1) := by decide +kernel
theorem dX0_cut_11 : decode cX0_cut 11 = .ok (.aload_n 0, 1) := by decide +kernel
theorem dX0_cut_12 : decode cX0_cut 12 = .ok (.iload_n 1, 1) := by decide +kernel
theorem dX0_cut_13 : decode cX0_cut 13 = .ok (.iload_n 2, 1) := by decide +kernel
theorem dX0_cut_14 : decode cX0_cut 14 = .ok (.iload_n 3, 1) := by decide +kernel
theorem dX0_cut_15 : decode cX0_cut 15 = .ok (.iload 4, 2) := by decide +kernel
theorem dX0_cut_17 : decode cX0_cut 17 = .ok (.invokevirtual 74, 3) := by decide +kernel
theorem dX0_cut_20 : decode cX0_cut 20 = .ok (.istore 5, 2) := by decide +kernel
theorem dX0_cut_22 : decode cX0_cut 22 = .ok (.aload_n 0, 1) := by decide +kernel
theorem dX0_cut_23 : decode cX0_cut 23 = .ok (.iload_n 1, 1) := by decide +kernel
theorem dX0_cut_24 : decode cX0_cut 24 = .ok (.iload_n 2, 1) := by decide +kernel
theorem dX0_cut_25 : decode cX0_cut 25 = .ok (.iload_n 3, 1) := by decide +kernel
theorem dX0_cut_26 : decode cX0_cut 26 = .ok (.iload 4, 2) := by decide +kernel
theorem dX0_cut_28 : decode cX0_cut 28 = .ok (.invokevirtual 70, 3) := by decide +kernel
theorem dX0_cut_31 : decode cX0_cut 31 = .ok (.istore 6, 2) := by decide +kernel
theorem dX0_cut_33 : decode cX0_cut 33 = .ok (.aload_n 0, 1) := by decide +kernel
theorem dX0_cut_34 : decode cX0_cut 34 = .ok (.iload 5, 2) := by decide +kernel
theorem dX0_cut_36 : decode cX0_cut 36 = .ok (.iload 6, 2) := by decide +kernel
theorem dX0_cut_38 : decode cX0_cut 38 = .ok (.invokevirtual 62, 3) := by decide +kernel
theorem dX0_cut_41 : decode cX0_cut 41 = .ok (.iload 6, 2) := by decide +kernel
theorem dX0_cut_43 : decode cX0_cut 43 = .ok (.iload 5, 2) := by decide +kernel
theorem dX0_cut_45 : decode cX0_cut 45 = .ok (.isub, 1) := by decide +kernel
theorem dX0_cut_46 : decode cX0_cut 46 = .ok (.ireturn, 1) := by decide +kernel
theorem dX0_isNumber_0 : decode cX0_isNumber 0 = .ok (.iload_n 0, 1) := by decide +kernel
theorem dX0_isNumber_1 : decode cX0_isNumber 1 = .ok (.ifCond .lt 13, 3) := by decide +kernel
theorem dX0_isNumber_4 : decode cX0_isNumber 4 = .ok (.iload_n 0, 1) := by decide +kernel
theorem dX0_isNumber_5 : decode cX0_isNumber 5 = .ok (.ldc 95, 2) := by decide +kernel
theorem dX0_isNumber_7 : decode cX0_isNumber 7 = .ok (.if_icmp .gt 7, 3) := by decide +kernel
theorem dX0_isNumber_10 : decode cX0_isNumber 10 = .ok (.iconst 1, 1) := by decide +kernel
theorem dX0_isNumber_11 : decode cX0_isNumber 11 = .ok (.goto 4, 3) := by decide +kernel
theorem dX0_isNumber_14 : decode cX0_isNumber 14 = .ok (.iconst 0, 1) := by decide +kernel
theorem dX0_isNumber_15 : decode cX0_isNumber 15 = .ok (.ireturn, 1) := by decide +kernel
set_option maxRecDepth 20000 in
theorem ggX0_areNumbers_X0_isNumber : GoodIn wsX0_areNumbers wsX0_isNumber := goodIn_r _ [4, 5] (by decide +kernel) (by decide +kernel)
set_option maxRecDepth 20000 in
theorem gX0_areNumbers_X0_isNumber : GoodIn wsX0_areNumbers (va_wsS RX0 96 yX0_isNumber wsX0_isNumber) := goodIn_app (goodIn_of _ (by decide +kernel)) ggX0_areNumbers_X0_isNumber
theorem dX0_areNumbers_0 : decode cX0_areNumbers 0 = .ok (.iload_n 0, 1) := by decide +kernel
theorem dX0_areNumbers_1 : decode cX0_areNumbers 1 = .ok (.invokestatic 96, 3) := by decide +kernel
theorem dX0_areNumbers_4 : decode cX0_areNumbers 4 = .ok (.ifCond .eq 21, 3) := by decide +kernel
theorem dX0_areNumbers_7 : decode cX0_areNumbers 7 = .ok (.iload_n 1, 1) := by decide +kernel
theorem dX0_areNumbers_8 : decode cX0_areNumbers 8 = .ok (.invokestatic 96, 3) := by decide +kernel
theorem dX0_areNumbers_11 : decode cX0_areNumbers 11 = .ok (.ifCond .eq 14, 3) := by decide +kernel
theorem dX0_areNumbers_14 : decode cX0_areNumbers 14 = .ok (.iload_n 2, 1) := by decide +kernel
theorem dX0_areNumbers_15 : decode cX0_areNumbers 15 = .ok (.invokestatic 96, 3) := by decide +kernel
theorem dX0_areNumbers_18 : decode cX0_areNumbers 18 = .ok (.ifCond .eq 7, 3) := by decide +kernel
theorem dX0_areNumbers_21 : decode cX0_areNumbers 21 = .ok (.iconst 1, 1) := by decide +kernel
theorem dX0_areNumbers_22 : decode cX0_areNumbers 22 = .ok (.goto 4, 3) := by decide +kernel
theorem dX0_areNumbers_25 : decode cX0_areNumbers 25 = .ok (.iconst 0, 1) := by decide +kernel
theorem dX0_areNumbers_26 : decode cX0_areNumbers 26 = .ok (.ireturn, 1) := by decide +kernel
set_option maxRecDepth 20000 in
theorem ggX0_areFirstNumbers_X0_isNumber : GoodIn wsX0_areFirstNumbers wsX0_isNumber := goodIn_r _ [4, 5] (by decide +kernel) (by decide +kernel)
set_option maxRecDepth 20000 in
theorem gX0_areFirstNumbers_X0_isNumber : GoodIn wsX0_areFirstNumbers (va_wsS RX0 96 yX0_isNumber wsX0_isNumber) := goodIn_app (goodIn_of _ (by decide +kernel)) ggX0_areFirstNumbers_X0_isNumber
theorem dX0_areFirstNumbers_0 : decode cX0_areFirstNumbers 0 = .ok (.iload_n 0, 1) := by decide +kernel
theorem dX0_areFirstNumbers_1 : decode cX0_areFirstNumbers 1 = .ok (.iconst 1, 1) := by decide +kernel
theorem dX0_areFirstNumbers_2 : decode cX0_areFirstNumbers 2 = .ok (.if_icmp .lt 10, 3) := by decide +kernel
theorem dX0_areFirstNumbers_5 : decode cX0_areFirstNumbers 5 = .ok (.iload_n 1, 1) := by decide +kernel
theorem dX0_areFirstNumbers_6 : decode cX0_areFirstNumbers 6 = .ok (.invokestatic 96, 3) := by decide +kernel
theorem dX0_areFirstNumbers_9 : decode cX0_areFirstNumbers 9 = .ok (.ifCond .eq 31, 3) := by decide +kernel
theorem dX0_areFirstNumbers_12 : decode cX0_areFirstNumbers 12 = .ok (.iload_n 0, 1) := by decide +kernel
theorem dX0_areFirstNumbers_13 : decode cX0_areFirstNumbers 13 = .ok (.iconst 2, 1) := by decide +kernel
theorem dX0_areFirstNumbers_14 : decode cX0_areFirstNumbers 14 = .ok (.if_icmp .lt 10, 3) := by decide +kernel
theorem dX0_areFirstNumbers_17 : decode cX0_areFirstNumbers 17 = .ok (.iload_n 2, 1) := by decide +kernel
theorem dX0_areFirstNumbers_18 : decode cX0_areFirstNumbers 18 = .ok (.invokestatic 96, 3) := by decide +kernel
theorem dX0_areFirstNumbers_21 : decode cX0_areFirstNumbers 21 = .ok (.ifCond .eq 19, 3) := by decide +kernel
theorem dX0_areFirstNumbers_24 : decode cX0_areFirstNumbers 24 = .ok (.iload_n 0, 1) := by decide +kernel
theorem dX0_areFirstNumbers_25 : decode cX0_areFirstNumbers 25 = .ok (.iconst 3, 1) := by decide +kernel
theorem dX0_areFirstNumbers_26 : decode cX0_areFirstNumbers 26 = .ok (.if_icmp .lt 10, 3) := by decide +kernel
theorem dX0_areFirstNumbers_29 : decode cX0_areFirstNumbers 29 = .ok (.iload_n 3, 1) := by decide +kernel
theorem dX0_areFirstNumbers_30 : decode cX0_areFirstNumbers 30 = .ok (.invokestatic 96, 3) := by decide +kernel
theorem dX0_areFirstNumbers_33 : decode cX0_areFirstNumbers 33 = .ok (.ifCond .eq 7, 3) := by decide +kernel
theorem dX0_areFirstNumbers_36 : decode cX0_areFirstNumbers 36 = .ok (.iconst 1, 1) := by decide +kernel
theorem dX0_areFirstNumbers_37 : decode cX0_areFirstNumbers 37 = .ok (.goto 4, 3) := by decide +kernel
theorem dX0_areFirstNumbers_40 : decode cX0_areFirstNumbers 40 = .ok (.iconst 0, 1) := by decide +kernel
theorem dX0_areFirstNumbers_41 : decode cX0_areFirstNumbers 41 = .ok (.ireturn, 1) := by decide +kernel
theorem dX0_shiftOf_0 : decode cX0_shiftOf 0 = .ok (.bipush 20, 2) := by decide +kernel
theorem dX0_shiftOf_2 : decode cX0_shiftOf 2 = .ok (.iconst 2, 1) := by decide +kernel
theorem dX0_shiftOf_3 : decode cX0_shiftOf 3 = .ok (.iload_n 0, 1) := by decide +kernel
theorem dX0_shiftOf_4 : decode cX0_shiftOf 4 = .ok (.isub, 1) := by decide +kernel
theorem dX0_shiftOf_5 : decode cX0_shiftOf 5 = .ok (.imul, 1) := by decide +kernel
theorem dX0_shiftOf_6 : decode cX0_shiftOf 6 = .ok (.ireturn, 1) := by decide +kernel
set_option maxRecDepth 20000 in
theorem ggX0_keyOf_X0_shiftOf : GoodIn wsX0_keyOf wsX0_shiftOf := goodIn_r _ [4] (by decide +kernel) (by decide +kernel)
set_option maxRecDepth 20000 in
theorem gX0_keyOf_X0_shiftOf : GoodIn wsX0_keyOf (va_wsS RX0 77 yX0_shiftOf wsX0_shiftOf) := goodIn_app (goodIn_of _ (by decide +kernel)) ggX0_keyOf_X0_shiftOf
theorem dX0_keyOf_0 : decode cX0_keyOf 0 = .ok (.iload_n 0, 1) := by decide +kernel
theorem dX0_keyOf_1 : decode cX0_keyOf 1 = .ok (.i2l, 1) := by decide +kernel
theorem dX0_keyOf_2 : decode cX0_keyOf 2 = .ok (.iconst 0, 1) := by decide +kernel
theorem dX0_keyOf_3 : decode cX0_keyOf 3 = .ok (.invokestatic 77, 3) := by decide +kernel
theorem dX0_keyOf_6 : decode cX0_keyOf 6 = .ok (.lshl, 1) := by decide +kernel
theorem dX0_keyOf_7 : decode cX0_keyOf 7 = .ok (.iload_n 1, 1) := by decide +kernel
theorem dX0_keyOf_8 : decode cX0_keyOf 8 = .ok (.i2l, 1) := by decide +kernel
theorem dX0_keyOf_9 : decode cX0_keyOf 9 = .ok (.iconst 1, 1) := by decide +kernel
theorem dX0_keyOf_10 : decode cX0_keyOf 10 = .ok (.invokestatic 77, 3) := by decide +kernel
theorem dX0_keyOf_13 : decode cX0_keyOf 13 = .ok (.lshl, 1) := by decide +kernel
theorem dX0_keyOf_14 : decode cX0_keyOf 14 = .ok (.lor, 1) := by decide +kernel
theorem dX0_keyOf_15 : decode cX0_keyOf 15 = .ok (.iload_n 2, 1) := by decide +kernel
theorem dX0_keyOf_16 : decode cX0_keyOf 16 = .ok (.i2l, 1) := by decide +kernel
theorem dX0_keyOf_17 : decode cX0_keyOf 17 = .ok (.lor, 1) := by decide +kernel
theorem dX0_keyOf_18 : decode cX0_keyOf 18 = .ok (.lreturn, 1) := by decide +kernel
set_option maxRecDepth 20000 in
theorem ggX0_keyOfTriple_X0_shiftOf : GoodIn wsX0_keyOfTriple wsX0_shiftOf := goodIn_r _ [7] (by decide +kernel) (by decide +kernel)
set_option maxRecDepth 20000 in
theorem gX0_keyOfTriple_X0_shiftOf : GoodIn wsX0_keyOfTriple (va_wsS RX0 77 yX0_shiftOf wsX0_shiftOf) := goodIn_app (goodIn_of _ (by decide +kernel)) ggX0_keyOfTriple_X0_shiftOf
theorem dX0_keyOfTriple_0 : decode cX0_keyOfTriple 0 = .ok (.iload_n 1, 1) := by decide +kernel
theorem dX0_keyOfTriple_1 : decode cX0_keyOfTriple 1 = .ok (.i2l, 1) := by decide +kernel
theorem dX0_keyOfTriple_2 : decode cX0_keyOfTriple 2 = .ok (.aload_n 0, 1) := by decide +kernel
theorem dX0_keyOfTriple_3 : decode cX0_keyOfTriple 3 = .ok (.getfield 19, 3) := by decide +kernel
theorem dX0_keyOfTriple_6 : decode cX0_keyOfTriple 6 = .ok (.invokestatic 77, 3) := by decide +kernel
theorem dX0_keyOfTriple_9 : decode cX0_keyOfTriple 9 = .ok (.lshl, 1) := by decide +kernel
theorem dX0_keyOfTriple_10 : decode cX0_keyOfTriple 10 = .ok (.iload_n 2, 1) := by decide +kernel
theorem dX0_keyOfTriple_11 : decode cX0_keyOfTriple 11 = .ok (.i2l, 1) := by decide +kernel
theorem dX0_keyOfTriple_12 : decode cX0_keyOfTriple 12 = .ok (.aload_n 0, 1) := by decide +kernel
theorem dX0_keyOfTriple_13 : decode cX0_keyOfTriple 13 = .ok (.getfield 23, 3) := by decide +kernel
theorem dX0_keyOfTriple_16 : decode cX0_keyOfTriple 16 = .ok (.invokestatic 77, 3) := by decide +kernel
theorem dX0_keyOfTriple_19 : decode cX0_keyOfTriple 19 = .ok (.lshl, 1) := by decide +kernel
theorem dX0_keyOfTriple_20 : decode cX0_keyOfTriple 20 = .ok (.lor, 1) := by decide +kernel
theorem dX0_keyOfTriple_21 : decode cX0_keyOfTriple 21 = .ok (.iload_n 3, 1) := by decide +kernel
theorem dX0_keyOfTriple_22 : decode cX0_keyOfTriple 22 = .ok (.i2l, 1) := by decide +kernel
theorem dX0_keyOfTriple_23 : decode cX0_keyOfTriple 23 = .ok (.aload_n 0, 1) := by decide +kernel
theorem dX0_keyOfTriple_24 : decode cX0_keyOfTriple 24 = .ok (.getfield 26, 3) := by decide +kernel
theorem dX0_keyOfTriple_27 : decode cX0_keyOfTriple 27 = .ok (.invokestatic 77, 3) := by decide +kernel
theorem dX0_keyOfTriple_30 : decode cX0_keyOfTriple 30 = .ok (.lshl, 1) := by decide +kernel
theorem dX0_keyOfTriple_31 : decode cX0_keyOfTriple 31 = .ok (.lor, 1) := by decide +kernel
theorem dX0_keyOfTriple_32 : decode cX0_keyOfTriple 32 = .ok (.lreturn, 1) := by decide +kernel
set_option maxRecDepth 20000 in
theorem ggX0_firstKey_X0_keyOf : GoodIn wsX0_firstKey wsX0_keyOf := goodIn_r _ [4, 5, 6, 3, 7] (by decide +kernel) (by decide +kernel)
set_option maxRecDepth 20000 in
theorem gX0_firstKey_X0_keyOf : GoodIn wsX0_firstKey (va_wsS RX0 85 yX0_keyOf wsX0_keyOf) := goodIn_app (goodIn_of _ (by decide +kernel)) ggX0_firstKey_X0_keyOf
theorem dX0_firstKey_0 : decode cX0_firstKey 0 = .ok (.iload_n 0, 1) := by decide +kernel
theorem dX0_firstKey_1 : decode cX0_firstKey 1 = .ok (.iconst 1, 1) := by decide +kernel
theorem dX0_firstKey_2 : decode cX0_firstKey 2 = .ok (.if_icmp .ge 7, 3) := by decide +kernel
theorem dX0_firstKey_5 : decode cX0_firstKey 5 = .ok (.iconst 0, 1) := by decide +kernel
theorem dX0_firstKey_6 : decode cX0_firstKey 6 = .ok (.goto 4, 3) := by decide +kernel
theorem dX0_firstKey_9 : decode cX0_firstKey 9 = .ok (.iload_n 1, 1) := by decide +kernel
theorem dX0_firstKey_10 : decode cX0_firstKey 10 = .ok (.iload_n 0, 1) := by decide +kernel
theorem dX0_firstKey_11 : decode cX0_firstKey 11 = .ok (.iconst 2, 1) := by decide +kernel
theorem dX0_firstKey_12 : decode cX0_firstKey 12 = .ok (.if_icmp .ge 7, 3) := by decide +kernel
theorem dX0_firstKey_15 : decode cX0_firstKey 15 = .ok (.iconst 0, 1) := by decide +kernel
theorem dX0_firstKey_16 : decode cX0_firstKey 16 = .ok (.goto 4, 3) := by decide +kernel
theorem dX0_firstKey_19 : decode cX0_firstKey 19 = .ok (.iload_n 2, 1) := by decide +kernel
theorem dX0_firstKey_20 : decode cX0_firstKey 20 = .ok (.iload_n 0, 1) := by decide +kernel
theorem dX0_firstKey_21 : decode cX0_firstKey 21 = .ok (.iconst 3, 1) := by decide +kernel
theorem dX0_firstKey_22 : decode cX0_firstKey 22 = .ok (.if_icmp .ge 7, 3) := by decide +kernel
theorem dX0_firstKey_25 : decode cX0_firstKey 25 = .ok (.iconst 0, 1) := by decide +kernel
theorem dX0_firstKey_26 : decode cX0_firstKey 26 = .ok (.goto 4, 3) := by decide +kernel
theorem dX0_firstKey_29 : decode cX0_firstKey 29 = .ok (.iload_n 3, 1) := by decide +kernel
theorem dX0_firstKey_30 : decode cX0_firstKey 30 = .ok (.invokestatic 85, 3) := by decide +kernel
theorem dX0_firstKey_33 : decode cX0_firstKey 33 = .ok (.lreturn, 1) := by decide +kernel
theorem dX0_keysInAll_0 : decode cX0_keysInAll 0 = .ok (.lconst 1, 1) := by decide +kernel
theorem dX0_keysInAll_1 : decode cX0_keysInAll 1 = .ok (.bipush 20, 2) := by decide +kernel
theorem dX0_keysInAll_3 : decode cX0_keysInAll 3 = .ok (.iconst 3, 1) := by decide +kernel
theorem dX0_keysInAll_4 : decode cX0_keysInAll 4 = .ok (.iload_n 0, 1) := by decide +kernel
theorem dX0_keysInAll_5 : decode cX0_keysInAll 5 = .ok (.isub, 1) := by decide +kernel
theorem dX0_keysInAll_6 : decode cX0_keysInAll 6 = .ok (.imul, 1) := by decide +kernel
theorem dX0_keysInAll_7 : decode cX0_keysInAll 7 = .ok (.lshl, 1) := by decide +kernel
theorem dX0_keysInAll_8 : decode cX0_keysInAll 8 = .ok (.lreturn, 1) := by decide +kernel
set_option maxRecDepth 20000 in
theorem ggX0_startOf_X0_areFirstNumbers : GoodIn wsX0_startOf wsX0_areFirstNumbers := goodIn_r _ [4, 5, 6, 3, 7, 8] (by decide +kernel) (by decide +kernel)
set_option maxRecDepth 20000 in
theorem gX0_startOf_X0_areFirstNumbers : GoodIn wsX0_startOf (va_wsS RX0 99 yX0_areFirstNumbers wsX0_areFirstNumbers) := goodIn_app (goodIn_of _ (by decide +kernel)) ggX0_startOf_X0_areFirstNumbers
set_option maxRecDepth 20000 in
theorem ggX0_startOf_X0_firstKey : GoodIn wsX0_startOf wsX0_firstKey := goodIn_r _ [11, 12, 13, 3, 14, 15, 16, 17] (by decide +kernel) (by decide +kernel)
set_option maxRecDepth 20000 in
theorem gX0_startOf_X0_firstKey : GoodIn wsX0_startOf (va_wsS RX0 103 yX0_firstKey wsX0_firstKey) := goodIn_app (goodIn_of _ (by decide +kernel)) ggX0_startOf_X0_firstKey
set_option maxRecDepth 20000 in
theorem ggX0_startOf_X0_keysBefore : GoodIn wsX0_startOf wsX0_keysBefore := goodIn_r _ [21, 22, 23, 24, 25, 26, 27, 28, 29] (by decide +kernel) (by decide +kernel)
set_option maxRecDepth 20000 in
theorem gX0_startOf_X0_keysBefore : GoodIn wsX0_startOf (wsV RX0 50 RX0 yX0_keysBefore wsX0_keysBefore) := goodIn_app (goodIn_of _ (by decide +kernel)) ggX0_startOf_X0_keysBefore
theorem dX0_startOf_0 : decode cX0_startOf 0 = .ok (.iload_n 1, 1) := by decide +kernel
theorem dX0_startOf_1 : decode cX0_startOf 1 = .ok (.iload_n 2, 1) := by decide +kernel
theorem dX0_startOf_2 : decode cX0_startOf 2 = .ok (.iload_n 3, 1) := by decide +kernel
theorem dX0_startOf_3 : decode cX0_startOf 3 = .ok (.iload 4, 2) := by decide +kernel
theorem dX0_startOf_5 : decode cX0_startOf 5 = .ok (.invokestatic 99, 3) := by decide +kernel
theorem dX0_startOf_8 : decode cX0_startOf 8 = .ok (.ifCond .eq 18, 3) := by decide +kernel
theorem dX0_startOf_11 : decode cX0_startOf 11 = .ok (.aload_n 0, 1) := by decide +kernel
theorem dX0_startOf_12 : decode cX0_startOf 12 = .ok (.iload_n 1, 1) := by decide +kernel
theorem dX0_startOf_13 : decode cX0_startOf 13 = .ok (.iload_n 2, 1) := by decide +kernel
theorem dX0_startOf_14 : decode cX0_startOf 14 = .ok (.iload_n 3, 1) := by decide +kernel
theorem dX0_startOf_15 : decode cX0_startOf 15 = .ok (.iload 4, 2) := by decide +kernel
theorem dX0_startOf_17 : decode cX0_startOf 17 = .ok (.invokestatic 103, 3) := by decide +kernel
theorem dX0_startOf_20 : decode cX0_startOf 20 = .ok (.invokevirtual 50, 3) := by decide +kernel
theorem dX0_startOf_23 : decode cX0_startOf 23 = .ok (.goto 4, 3) := by decide +kernel
theorem dX0_startOf_26 : decode cX0_startOf 26 = .ok (.iconst 0, 1) := by decide +kernel
theorem dX0_startOf_27 : decode cX0_startOf 27 = .ok (.ireturn, 1) := by decide +kernel
set_option maxRecDepth 20000 in
theorem ggX0_endOf_X0_areFirstNumbers : GoodIn wsX0_endOf wsX0_areFirstNumbers := goodIn_r _ [4, 5, 6, 3, 7, 8] (by decide +kernel) (by decide +kernel)
set_option maxRecDepth 20000 in
theorem gX0_endOf_X0_areFirstNumbers : GoodIn wsX0_endOf (va_wsS RX0 99 yX0_areFirstNumbers wsX0_areFirstNumbers) := goodIn_app (goodIn_of _ (by decide +kernel)) ggX0_endOf_X0_areFirstNumbers
set_option maxRecDepth 20000 in
theorem ggX0_endOf_X0_firstKey : GoodIn wsX0_endOf wsX0_firstKey := goodIn_r _ [11, 12, 13, 3, 14, 15, 16, 17] (by decide +kernel) (by decide +kernel)
set_option maxRecDepth 20000 in
theorem gX0_endOf_X0_firstKey : GoodIn wsX0_endOf (va_wsS RX0 103 yX0_firstKey wsX0_firstKey) := goodIn_app (goodIn_of _ (by decide +kernel)) ggX0_endOf_X0_firstKey
set_option maxRecDepth 20000 in
theorem ggX0_endOf_X0_keysInAll : GoodIn wsX0_endOf wsX0_keysInAll := goodIn_r _ [20] (by decide +kernel) (by decide +kernel)
set_option maxRecDepth 20000 in
theorem gX0_endOf_X0_keysInAll : GoodIn wsX0_endOf (va_wsS RX0 107 yX0_keysInAll wsX0_keysInAll) := goodIn_app (goodIn_of _ (by decide +kernel)) ggX0_endOf_X0_keysInAll
set_option maxRecDepth 20000 in
theorem ggX0_endOf_X0_keysBefore : GoodIn wsX0_endOf wsX0_keysBefore := goodIn_r _ [24, 25, 26, 27, 28, 29, 30, 31, 32] (by decide +kernel) (by decide +kernel)
set_option maxRecDepth 20000 in
theorem gX0_endOf_X0_keysBefore : GoodIn wsX0_endOf (wsV RX0 50 RX0 yX0_keysBefore wsX0_keysBefore) := goodIn_app (goodIn_of _ (by decide +kernel)) ggX0_endOf_X0_keysBefore
theorem dX0_endOf_0 : decode cX0_endOf 0 = .ok (.iload_n 1, 1) := by decide +kernel
theorem dX0_endOf_1 : decode cX0_endOf 1 = .ok (.iload_n 2, 1) := by decide +kernel
theorem dX0_endOf_2 : decode cX0_endOf 2 = .ok (.iload_n 3, 1) := by decide +kernel
theorem dX0_endOf_3 : decode cX0_endOf 3 = .ok (.iload 4, 2) := by decide +kernel
theorem dX0_endOf_5 : decode cX0_endOf 5 = .ok (.invokestatic 99, 3) := by decide +kernel
theorem dX0_endOf_8 : decode cX0_endOf 8 = .ok (.ifCond .eq 23, 3) := by decide +kernel
theorem dX0_endOf_11 : decode cX0_endOf 11 = .ok (.aload_n 0, 1) := by decide +kernel
theorem dX0_endOf_12 : decode cX0_endOf 12 = .ok (.iload_n 1, 1) := by decide +kernel
theorem dX0_endOf_13 : decode cX0_endOf 13 = .ok (.iload_n 2, 1) := by decide +kernel
theorem dX0_endOf_14 : decode cX0_endOf 14 = .ok (.iload_n 3, 1) := by decide +kernel
theorem dX0_endOf_15 : decode cX0_endOf 15 = .ok (.iload 4, 2) := by decide +kernel
theorem dX0_endOf_17 : decode cX0_endOf 17 = .ok (.invokestatic 103, 3) := by decide +kernel
theorem dX0_endOf_20 : decode cX0_endOf 20 = .ok (.iload_n 1, 1) := by decide +kernel
theorem dX0_endOf_21 : decode cX0_endOf 21 = .ok (.invokestatic 107, 3) := by decide +kernel
theorem dX0_endOf_24 : decode cX0_endOf 24 = .ok (.ladd, 1) := by decide +kernel
theorem dX0_endOf_25 : decode cX0_endOf 25 = .ok (.invokevirtual 50, 3) := by decide +kernel
theorem dX0_endOf_28 : decode cX0_endOf 28 = .ok (.goto 4, 3) := by decide +kernel
theorem dX0_endOf_31 : decode cX0_endOf 31 = .ok (.iconst 0, 1) := by decide +kernel
theorem dX0_endOf_32 : decode cX0_endOf 32 = .ok (.ireturn, 1) := by decide +kernel
theorem dX0_keysBefore_0 : decode cX0_keysBefore 0 = .ok (.iconst 0, 1) := by decide +kernel
theorem dX0_keysBefore_1 : decode cX0_keysBefore 1 = .ok (.istore_n 3, 1) := by decide +kernel
theorem dX0_keysBefore_2 : decode cX0_keysBefore 2 = .ok (.sipush 16384, 3) := by decide +kernel
theorem dX0_keysBefore_5 : decode cX0_keysBefore 5 = .ok (.istore 4, 2) := by decide +kernel
theorem dX0_keysBefore_7 : decode cX0_keysBefore 7 = .ok (.iload 4, 2) := by decide +kernel
theorem dX0_keysBefore_9 : decode cX0_keysBefore 9 = .ok (.ifCond .le 44, 3) := by decide +kernel
theorem dX0_keysBefore_12 : decode cX0_keysBefore 12 = .ok (.iload_n 3, 1) := by decide +kernel
theorem dX0_keysBefore_13 : decode cX0_keysBefore 13 = .ok (.iload 4, 2) := by decide +kernel
theorem dX0_keysBefore_15 : decode cX0_keysBefore 15 = .ok (.iadd, 1) := by decide +kernel
theorem dX0_keysBefore_16 : decode cX0_keysBefore 16 = .ok (.istore 5, 2) := by decide +kernel
theorem dX0_keysBefore_18 : decode cX0_keysBefore 18 = .ok (.iload 5, 2) := by decide +kernel
theorem dX0_keysBefore_20 : decode cX0_keysBefore 20 = .ok (.aload_n 0, 1) := by decide +kernel
theorem dX0_keysBefore_21 : decode cX0_keysBefore 21 = .ok (.getfield 33, 3) := by decide +kernel
theorem dX0_keysBefore_24 : decode cX0_keysBefore 24 = .ok (.if_icmp .gt 20, 3) := by decide +kernel
theorem dX0_keysBefore_27 : decode cX0_keysBefore 27 = .ok (.aload_n 0, 1) := by decide +kernel
theorem dX0_keysBefore_28 : decode cX0_keysBefore 28 = .ok (.getfield 29, 3) := by decide +kernel
theorem dX0_keysBefore_31 : decode cX0_keysBefore 31 = .ok (.iload 5, 2) := by decide +kernel
theorem dX0_keysBefore_33 : decode cX0_keysBefore 33 = .ok (.iconst 1, 1) := by decide +kernel
theorem dX0_keysBefore_34 : decode cX0_keysBefore 34 = .ok (.isub, 1) := by decide +kernel
theorem dX0_keysBefore_35 : decode cX0_keysBefore 35 = .ok (.laload, 1) := by decide +kernel
theorem dX0_keysBefore_36 : decode cX0_keysBefore 36 = .ok (.lload_n 1, 1) := by decide +kernel
theorem dX0_keysBefore_37 : decode cX0_keysBefore 37 = .ok (.lcmp, 1) := by decide +kernel
theorem dX0_keysBefore_38 : decode cX0_keysBefore 38 = .ok (.ifCond .ge 6, 3) := by decide +kernel
theorem dX0_keysBefore_41 : decode cX0_keysBefore 41 = .ok (.iload 5, 2) := by decide +kernel
theorem dX0_keysBefore_43 : decode cX0_keysBefore 43 = .ok (.istore_n 3, 1) := by decide +kernel
theorem dX0_keysBefore_44 : decode cX0_keysBefore 44 = .ok (.iload 4, 2) := by decide +kernel
theorem dX0_keysBefore_46 : decode cX0_keysBefore 46 = .ok (.iconst 2, 1) := by decide +kernel
theorem dX0_keysBefore_47 : decode cX0_keysBefore 47 = .ok (.idiv, 1) := by decide +kernel
theorem dX0_keysBefore_48 : decode cX0_keysBefore 48 = .ok (.istore 4, 2) := by decide +kernel
theorem dX0_keysBefore_50 : decode cX0_keysBefore 50 = .ok (.goto (-43), 3) := by decide +kernel
theorem dX0_keysBefore_53 : decode cX0_keysBefore 53 = .ok (.iload_n 3, 1) := by decide +kernel
theorem dX0_keysBefore_54 : decode cX0_keysBefore 54 = .ok (.ireturn, 1) := by decide +kernel
theorem dX0_isKeyAt_0 : decode cX0_isKeyAt 0 = .ok (.iload_n 1, 1) := by decide +kernel
theorem dX0_isKeyAt_1 : decode cX0_isKeyAt 1 = .ok (.ifCond .lt 26, 3) := by decide +kernel
theorem dX0_isKeyAt_4 : decode cX0_isKeyAt 4 = .ok (.iload_n 1, 1) := by decide +kernel
theorem dX0_isKeyAt_5 : decode cX0_isKeyAt 5 = .ok (.aload_n 0, 1) := by decide +kernel
theorem dX0_isKeyAt_6 : decode cX0_isKeyAt 6 = .ok (.getfield 33, 3) := by decide +kernel
theorem dX0_isKeyAt_9 : decode cX0_isKeyAt 9 = .ok (.if_icmp .ge 18, 3) := by decide +kernel
theorem dX0_isKeyAt_12 : decode cX0_isKeyAt 12 = .ok (.aload_n 0, 1) := by decide +kernel
theorem dX0_isKeyAt_13 : decode cX0_isKeyAt 13 = .ok (.getfield 29, 3) := by decide +kernel
theorem dX0_isKeyAt_16 : decode cX0_isKeyAt 16 = .ok (.iload_n 1, 1) := by decide +kernel
theorem dX0_isKeyAt_17 : decode cX0_isKeyAt 17 = .ok (.laload, 1) := by decide +kernel
theorem dX0_isKeyAt_18 : decode cX0_isKeyAt 18 = .ok (.lload_n 2, 1) := by decide +kernel
theorem dX0_isKeyAt_19 : decode cX0_isKeyAt 19 = .ok (.lcmp, 1) := by decide +kernel
theorem dX0_isKeyAt_20 : decode cX0_isKeyAt 20 = .ok (.ifCond .ne 7, 3) := by decide +kernel
theorem dX0_isKeyAt_23 : decode cX0_isKeyAt 23 = .ok (.iconst 1, 1) := by decide +kernel
theorem dX0_isKeyAt_24 : decode cX0_isKeyAt 24 = .ok (.goto 4, 3) := by decide +kernel
theorem dX0_isKeyAt_27 : decode cX0_isKeyAt 27 = .ok (.iconst 0, 1) := by decide +kernel
theorem dX0_isKeyAt_28 : decode cX0_isKeyAt 28 = .ok (.ireturn, 1) := by decide +kernel
set_option maxRecDepth 20000 in
theorem ggX0_isHeld_X0_keysBefore : GoodIn wsX0_isHeld wsX0_keysBefore := goodIn_r _ [5, 6, 7, 12, 13, 14, 15, 16, 17] (by decide +kernel) (by decide +kernel)
set_option maxRecDepth 20000 in
theorem gX0_isHeld_X0_keysBefore : GoodIn wsX0_isHeld (wsV RX0 50 RX0 yX0_keysBefore wsX0_keysBefore) := goodIn_app (goodIn_of _ (by decide +kernel)) ggX0_isHeld_X0_keysBefore
set_option maxRecDepth 20000 in
theorem ggX0_isHeld_X0_isKeyAt : GoodIn wsX0_isHeld wsX0_isKeyAt := goodIn_r _ [11, 6, 7, 12, 13, 14, 15, 16, 17] (by decide +kernel) (by decide +kernel)
set_option maxRecDepth 20000 in
theorem gX0_isHeld_X0_isKeyAt : GoodIn wsX0_isHeld (wsV RX0 54 RX0 yX0_isKeyAt wsX0_isKeyAt) := goodIn_app (goodIn_of _ (by decide +kernel)) ggX0_isHeld_X0_isKeyAt
theorem dX0_isHeld_0 : decode cX0_isHeld 0 = .ok (.aload_n 0, 1) := by decide +kernel
theorem dX0_isHeld_1 : decode cX0_isHeld 1 = .ok (.aload_n 0, 1) := by decide +kernel
theorem dX0_isHeld_2 : decode cX0_isHeld 2 = .ok (.lload_n 1, 1) := by decide +kernel
theorem dX0_isHeld_3 : decode cX0_isHeld 3 = .ok (.invokevirtual 50, 3) := by decide +kernel
theorem dX0_isHeld_6 : decode cX0_isHeld 6 = .ok (.lload_n 1, 1) := by decide +kernel
theorem dX0_isHeld_7 : decode cX0_isHeld 7 = .ok (.invokevirtual 54, 3) := by decide +kernel
theorem dX0_isHeld_10 : decode cX0_isHeld 10 = .ok (.ireturn, 1) := by decide +kernel
theorem dX0_beginnings_0 : decode cX0_beginnings 0 = .ok (.iconst 0, 1) := by decide +kernel
theorem dX0_beginnings_1 : decode cX0_beginnings 1 = .ok (.istore 4, 2) := by decide +kernel
theorem dX0_beginnings_3 : decode cX0_beginnings 3 = .ok (.ldc2_w 36, 3) := by decide +kernel
theorem dX0_beginnings_6 : decode cX0_beginnings 6 = .ok (.lstore 5, 2) := by decide +kernel
theorem dX0_beginnings_8 : decode cX0_beginnings 8 = .ok (.iload_n 1, 1) := by decide +kernel
theorem dX0_beginnings_9 : decode cX0_beginnings 9 = .ok (.istore 7, 2) := by decide +kernel
theorem dX0_beginnings_11 : decode cX0_beginnings 11 = .ok (.iload 7, 2) := by decide +kernel
theorem dX0_beginnings_13 : decode cX0_beginnings 13 = .ok (.iload_n 2, 1) := by decide +kernel
theorem dX0_beginnings_14 : decode cX0_beginnings 14 = .ok (.if_icmp .ge 35, 3) := by decide +kernel
theorem dX0_beginnings_17 : decode cX0_beginnings 17 = .ok (.aload_n 0, 1) := by decide +kernel
theorem dX0_beginnings_18 : decode cX0_beginnings 18 = .ok (.getfield 29, 3) := by decide +kernel
theorem dX0_beginnings_21 : decode cX0_beginnings 21 = .ok (.iload 7, 2) := by decide +kernel
theorem dX0_beginnings_23 : decode cX0_beginnings 23 = .ok (.laload, 1) := by decide +kernel
theorem dX0_beginnings_24 : decode cX0_beginnings 24 = .ok (.iload_n 3, 1) := by decide +kernel
theorem dX0_beginnings_25 : decode cX0_beginnings 25 = .ok (.lshr, 1) := by decide +kernel
theorem dX0_beginnings_26 : decode cX0_beginnings 26 = .ok (.lstore 8, 2) := by decide +kernel
theorem dX0_beginnings_28 : decode cX0_beginnings 28 = .ok (.lload 8, 2) := by decide +kernel
theorem dX0_beginnings_30 : decode cX0_beginnings 30 = .ok (.lload 5, 2) := by decide +kernel
theorem dX0_beginnings_32 : decode cX0_beginnings 32 = .ok (.lcmp, 1) := by decide +kernel
theorem dX0_beginnings_33 : decode cX0_beginnings 33 = .ok (.ifCond .eq 10, 3) := by decide +kernel
theorem dX0_beginnings_36 : decode cX0_beginnings 36 = .ok (.iinc 4 1, 3) := by decide +kernel
theorem dX0_beginnings_39 : decode cX0_beginnings 39 = .ok (.lload 8, 2) := by decide +kernel
theorem dX0_beginnings_41 : decode cX0_beginnings 41 = .ok (.lstore 5, 2) := by decide +kernel
theorem dX0_beginnings_43 : decode cX0_beginnings 43 = .ok (.iinc 7 1, 3) := by decide +kernel
theorem dX0_beginnings_46 : decode cX0_beginnings 46 = .ok (.goto (-35), 3) := by decide +kernel
theorem dX0_beginnings_49 : decode cX0_beginnings 49 = .ok (.iload 4, 2) := by decide +kernel
theorem dX0_beginnings_51 : decode cX0_beginnings 51 = .ok (.ireturn, 1) := by decide +kernel
set_option maxRecDepth 20000 in
theorem ggX0_putIn_J7_copyOf_c38d5 : GoodIn wsX0_putIn wsJ7_copyOf_c38d5 := goodIn_r _ [14, 15, 16, 17, 18, 19, 20, 21, 22, 4, 5, 6, 23, 8, 9, 10] (by decide +kernel) (by decide +kernel)
set_option maxRecDepth 20000 in
theorem gX0_putIn_J7_copyOf_c38d5 : GoodIn wsX0_putIn (va_wsS RX0 114 yJ7_copyOf_c38d5 wsJ7_copyOf_c38d5) := goodIn_app (goodIn_of _ (by decide +kernel)) ggX0_putIn_J7_copyOf_c38d5
theorem dX0_putIn_0 : decode cX0_putIn 0 = .ok (.aload_n 0, 1) := by decide +kernel
theorem dX0_putIn_1 : decode cX0_putIn 1 = .ok (.getfield 33, 3) := by decide +kernel
theorem dX0_putIn_4 : decode cX0_putIn 4 = .ok (.aload_n 0, 1) := by decide +kernel
theorem dX0_putIn_5 : decode cX0_putIn 5 = .ok (.getfield 29, 3) := by decide +kernel
theorem dX0_putIn_8 : decode cX0_putIn 8 = .ok (.arraylength, 1) := by decide +kernel
theorem dX0_putIn_9 : decode cX0_putIn 9 = .ok (.if_icmp .ne 26, 3) := by decide +kernel
theorem dX0_putIn_12 : decode cX0_putIn 12 = .ok (.aload_n 0, 1) := by decide +kernel
theorem dX0_putIn_13 : decode cX0_putIn 13 = .ok (.aload_n 0, 1) := by decide +kernel
theorem dX0_putIn_14 : decode cX0_putIn 14 = .ok (.getfield 29, 3) := by decide +kernel
theorem dX0_putIn_17 : decode cX0_putIn 17 = .ok (.iconst 2, 1) := by decide +kernel
theorem dX0_putIn_18 : decode cX0_putIn 18 = .ok (.aload_n 0, 1) := by decide +kernel
theorem dX0_putIn_19 : decode cX0_putIn 19 = .ok (.getfield 33, 3) := by decide +kernel
theorem dX0_putIn_22 : decode cX0_putIn 22 = .ok (.imul, 1) := by decide +kernel
theorem dX0_putIn_23 : decode cX0_putIn 23 = .ok (.sipush 20000, 3) := by decide +kernel
theorem dX0_putIn_26 : decode cX0_putIn 26 = .ok (.invokestatic 111, 3) := by decide +kernel
theorem dX0_putIn_29 : decode cX0_putIn 29 = .ok (.invokestatic 114, 3) := by decide +kernel
theorem dX0_putIn_32 : decode cX0_putIn 32 = .ok (.putfield 29, 3) := by decide +kernel
theorem dX0_putIn_35 : decode cX0_putIn 35 = .ok (.aload_n 0, 1) := by decide +kernel
theorem dX0_putIn_36 : decode cX0_putIn 36 = .ok (.getfield 29, 3) := by decide +kernel
theorem dX0_putIn_39 : decode cX0_putIn 39 = .ok (.iload_n 1, 1) := by decide +kernel
theorem dX0_putIn_40 : decode cX0_putIn 40 = .ok (.aload_n 0, 1) := by decide +kernel
theorem dX0_putIn_41 : decode cX0_putIn 41 = .ok (.getfield 29, 3) := by decide +kernel
theorem dX0_putIn_44 : decode cX0_putIn 44 = .ok (.iload_n 1, 1) := by decide +kernel
theorem dX0_putIn_45 : decode cX0_putIn 45 = .ok (.iconst 1, 1) := by decide +kernel
theorem dX0_putIn_46 : decode cX0_putIn 46 = .ok (.iadd, 1) := by decide +kernel
theorem dX0_putIn_47 : decode cX0_putIn 47 = .ok (.aload_n 0, 1) := by decide +kernel
theorem dX0_putIn_48 : decode cX0_putIn 48 = .ok (.getfield 33, 3) := by decide +kernel
theorem dX0_putIn_51 : decode cX0_putIn 51 = .ok (.iload_n 1, 1) := by decide +kernel
theorem dX0_putIn_52 : decode cX0_putIn 52 = .ok (.isub, 1) := by decide +kernel
theorem dX0_putIn_53 : decode cX0_putIn 53 = .ok (.invokestatic 120, 3) := by decide +kernel
theorem dX0_putIn_56 : decode cX0_putIn 56 = .ok (.aload_n 0, 1) := by decide +kernel
theorem dX0_putIn_57 : decode cX0_putIn 57 = .ok (.getfield 29, 3) := by decide +kernel
theorem dX0_putIn_60 : decode cX0_putIn 60 = .ok (.iload_n 1, 1) := by decide +kernel
theorem dX0_putIn_61 : decode cX0_putIn 61 = .ok (.lload_n 2, 1) := by decide +kernel
theorem dX0_putIn_62 : decode cX0_putIn 62 = .ok (.lastore, 1) := by decide +kernel
theorem dX0_putIn_63 : decode cX0_putIn 63 = .ok (.aload_n 0, 1) := by decide +kernel
theorem dX0_putIn_64 : decode cX0_putIn 64 = .ok (.dup, 1) := by decide +kernel
theorem dX0_putIn_65 : decode cX0_putIn 65 = .ok (.getfield 33, 3) := by decide +kernel
theorem dX0_putIn_68 : decode cX0_putIn 68 = .ok (.iconst 1, 1) := by decide +kernel
theorem dX0_putIn_69 : decode cX0_putIn 69 = .ok (.iadd, 1) := by decide +kernel
theorem dX0_putIn_70 : decode cX0_putIn 70 = .ok (.putfield 33, 3) := by decide +kernel
theorem dX0_putIn_73 : decode cX0_putIn 73 = .ok (.return_, 1) := by decide +kernel
theorem dX0_takeOut_0 : decode cX0_takeOut 0 = .ok (.aload_n 0, 1) := by decide +kernel
theorem dX0_takeOut_1 : decode cX0_takeOut 1 = .ok (.getfield 29, 3) := by decide +kernel
theorem dX0_takeOut_4 : decode cX0_takeOut 4 = .ok (.iload_n 2, 1) := by decide +kernel
theorem dX0_takeOut_5 : decode cX0_takeOut 5 = .ok (.aload_n 0, 1) := by decide +kernel
theorem dX0_takeOut_6 : decode cX0_takeOut 6 = .ok (.getfield 29, 3) := by decide +kernel
theorem dX0_takeOut_9 : decode cX0_takeOut 9 = .ok (.iload_n 1, 1) := by decide +kernel
theorem dX0_takeOut_10 : decode cX0_takeOut 10 = .ok (.aload_n 0, 1) := by decide +kernel
theorem dX0_takeOut_11 : decode cX0_takeOut 11 = .ok (.getfield 33, 3) := by decide +kernel
theorem dX0_takeOut_14 : decode cX0_takeOut 14 = .ok (.iload_n 2, 1) := by decide +kernel
theorem dX0_takeOut_15 : decode cX0_takeOut 15 = .ok (.isub, 1) := by decide +kernel
theorem dX0_takeOut_16 : decode cX0_takeOut 16 = .ok (.invokestatic 120, 3) := by decide +kernel
theorem dX0_takeOut_19 : decode cX0_takeOut 19 = .ok (.aload_n 0, 1) := by decide +kernel
theorem dX0_takeOut_20 : decode cX0_takeOut 20 = .ok (.dup, 1) := by decide +kernel
theorem dX0_takeOut_21 : decode cX0_takeOut 21 = .ok (.getfield 33, 3) := by decide +kernel
theorem dX0_takeOut_24 : decode cX0_takeOut 24 = .ok (.iload_n 2, 1) := by decide +kernel
theorem dX0_takeOut_25 : decode cX0_takeOut 25 = .ok (.iload_n 1, 1) := by decide +kernel
theorem dX0_takeOut_26 : decode cX0_takeOut 26 = .ok (.isub, 1) := by decide +kernel
theorem dX0_takeOut_27 : decode cX0_takeOut 27 = .ok (.isub, 1) := by decide +kernel
theorem dX0_takeOut_28 : decode cX0_takeOut 28 = .ok (.putfield 33, 3) := by decide +kernel
theorem dX0_takeOut_31 : decode cX0_takeOut 31 = .ok (.return_, 1) := by decide +kernel
theorem dX0_standAt_0 : decode cX0_standAt 0 = .ok (.iload_n 1, 1) := by decide +kernel
theorem dX0_standAt_1 : decode cX0_standAt 1 = .ok (.ifCond .lt 15, 3) := by decide +kernel
theorem dX0_standAt_4 : decode cX0_standAt 4 = .ok (.iload_n 1, 1) := by decide +kernel
theorem dX0_standAt_5 : decode cX0_standAt 5 = .ok (.aload_n 0, 1) := by decide +kernel
theorem dX0_standAt_6 : decode cX0_standAt 6 = .ok (.getfield 33, 3) := by decide +kernel
theorem dX0_standAt_9 : decode cX0_standAt 9 = .ok (.if_icmp .ge 7, 3) := by decide +kernel
theorem dX0_standAt_12 : decode cX0_standAt 12 = .ok (.iconst 1, 1) := by decide +kernel
theorem dX0_standAt_13 : decode cX0_standAt 13 = .ok (.goto 4, 3) := by decide +kernel
theorem dX0_standAt_16 : decode cX0_standAt 16 = .ok (.iconst 0, 1) := by decide +kernel
theorem dX0_standAt_17 : decode cX0_standAt 17 = .ok (.istore_n 2, 1) := by decide +kernel
theorem dX0_standAt_18 : decode cX0_standAt 18 = .ok (.aload_n 0, 1) := by decide +kernel
theorem dX0_standAt_19 : decode cX0_standAt 19 = .ok (.iload_n 2, 1) := by decide +kernel
theorem dX0_standAt_20 : decode cX0_standAt 20 = .ok (.ifCond .eq 12, 3) := by decide +kernel
theorem dX0_standAt_23 : decode cX0_standAt 23 = .ok (.aload_n 0, 1) := by decide +kernel
theorem dX0_standAt_24 : decode cX0_standAt 24 = .ok (.getfield 29, 3) := by decide +kernel
theorem dX0_standAt_27 : decode cX0_standAt 27 = .ok (.iload_n 1, 1) := by decide +kernel
theorem dX0_standAt_28 : decode cX0_standAt 28 = .ok (.laload, 1) := by decide +kernel
theorem dX0_standAt_29 : decode cX0_standAt 29 = .ok (.goto 6, 3) := by decide +kernel
theorem dX0_standAt_32 : decode cX0_standAt 32 = .ok (.ldc2_w 36, 3) := by decide +kernel
theorem dX0_standAt_35 : decode cX0_standAt 35 = .ok (.putfield 38, 3) := by decide +kernel
theorem dX0_standAt_38 : decode cX0_standAt 38 = .ok (.iload_n 2, 1) := by decide +kernel
theorem dX0_standAt_39 : decode cX0_standAt 39 = .ok (.ireturn, 1) := by decide +kernel
set_option maxRecDepth 20000 in
theorem ggX0_cursorNumber_X0_shiftOf : GoodIn wsX0_cursorNumber wsX0_shiftOf := goodIn_r _ [6] (by decide +kernel) (by decide +kernel)
set_option maxRecDepth 20000 in
theorem gX0_cursorNumber_X0_shiftOf : GoodIn wsX0_cursorNumber (va_wsS RX0 77 yX0_shiftOf wsX0_shiftOf) := goodIn_app (goodIn_of _ (by decide +kernel)) ggX0_cursorNumber_X0_shiftOf
theorem dX0_cursorNumber_0 : decode cX0_cursorNumber 0 = .ok (.aload_n 0, 1) := by decide +kernel
theorem dX0_cursorNumber_1 : decode cX0_cursorNumber 1 = .ok (.getfield 38, 3) := by decide +kernel
theorem dX0_cursorNumber_4 : decode cX0_cursorNumber 4 = .ok (.iload_n 1, 1) := by decide +kernel
theorem dX0_cursorNumber_5 : decode cX0_cursorNumber 5 = .ok (.invokestatic 77, 3) := by decide +kernel
theorem dX0_cursorNumber_8 : decode cX0_cursorNumber 8 = .ok (.lshr, 1) := by decide +kernel
theorem dX0_cursorNumber_9 : decode cX0_cursorNumber 9 = .ok (.l2i, 1) := by decide +kernel
theorem dX0_cursorNumber_10 : decode cX0_cursorNumber 10 = .ok (.ldc 95, 2) := by decide +kernel
theorem dX0_cursorNumber_12 : decode cX0_cursorNumber 12 = .ok (.iand, 1) := by decide +kernel
theorem dX0_cursorNumber_13 : decode cX0_cursorNumber 13 = .ok (.ireturn, 1) := by decide +kernel
set_option maxRecDepth 20000 in
theorem ggX1_init_J9_floorMod_7cf53 : GoodIn wsX1_init wsJ9_floorMod_7cf53 := goodIn_r _ [12] (by decide +kernel) (by decide +kernel)
set_option maxRecDepth 20000 in
theorem gX1_init_J9_floorMod_7cf53 : GoodIn wsX1_init (va_wsS RX1 19 yJ9_floorMod_7cf53 wsJ9_floorMod_7cf53) := goodIn_app (goodIn_of _ (by decide +kernel)) ggX1_init_J9_floorMod_7cf53
theorem dX1_init_0 : decode cX1_init 0 = .ok (.aload_n 0, 1) := by decide +kernel
theorem dX1_init_1 : decode cX1_init 1 = .ok (.invokespecial 1, 3) := by decide +kernel
theorem dX1_init_4 : decode cX1_init 4 = .ok (.aload_n 0, 1) := by decide +kernel
theorem dX1_init_5 : decode cX1_init 5 = .ok (.sipush 20000, 3) := by decide +kernel
theorem dX1_init_8 : decode cX1_init 8 = .ok (.newarray .long, 2) := by decide +kernel
theorem dX1_init_10 : decode cX1_init 10 = .ok (.putfield 7, 3) := by decide +kernel
theorem dX1_init_13 : decode cX1_init 13 = .ok (.aload_n 0, 1) := by decide +kernel
theorem dX1_init_14 : decode cX1_init 14 = .ok (.ldc2_w 13, 3) := by decide +kernel
theorem dX1_init_17 : decode cX1_init 17 = .ok (.putfield 15, 3) := by decide +kernel
theorem dX1_init_20 : decode cX1_init 20 = .ok (.aload_n 0, 1) := by decide +kernel
theorem dX1_init_21 : decode cX1_init 21 = .ok (.iload_n 1, 1) := by decide +kernel
theorem dX1_init_22 : decode cX1_init 22 = .ok (.bipush 6, 2) := by decide +kernel
theorem dX1_init_24 : decode cX1_init 24 = .ok (.invokestatic 19, 3) := by decide +kernel
theorem dX1_init_27 : decode cX1_init 27 = .ok (.putfield 25, 3) := by decide +kernel
theorem dX1_init_30 : decode cX1_init 30 = .ok (.return_, 1) := by decide +kernel
theorem dX1_isNumber_0 : decode cX1_isNumber 0 = .ok (.iload_n 0, 1) := by decide +kernel
theorem dX1_isNumber_1 : decode cX1_isNumber 1 = .ok (.ifCond .lt 13, 3) := by decide +kernel
theorem dX1_isNumber_4 : decode cX1_isNumber 4 = .ok (.iload_n 0, 1) := by decide +kernel
theorem dX1_isNumber_5 : decode cX1_isNumber 5 = .ok (.ldc 29, 2) := by decide +kernel
theorem dX1_isNumber_7 : decode cX1_isNumber 7 = .ok (.if_icmp .ge 7, 3) := by decide +kernel
theorem dX1_isNumber_10 : decode cX1_isNumber 10 = .ok (.iconst 1, 1) := by decide +kernel
theorem dX1_isNumber_11 : decode cX1_isNumber 11 = .ok (.goto 4, 3) := by decide +kernel
theorem dX1_isNumber_14 : decode cX1_isNumber 14 = .ok (.iconst 0, 1) := by decide +kernel
theorem dX1_isNumber_15 : decode cX1_isNumber 15 = .ok (.ireturn, 1) := by decide +kernel
set_option maxRecDepth 20000 in
theorem ggX1_areNumbers_X1_isNumber : GoodIn wsX1_areNumbers wsX1_isNumber := goodIn_r _ [4, 5] (by decide +kernel) (by decide +kernel)
set_option maxRecDepth 20000 in
theorem gX1_areNumbers_X1_isNumber : GoodIn wsX1_areNumbers (va_wsS RX1 30 yX1_isNumber wsX1_isNumber) := goodIn_app (goodIn_of _ (by decide +kernel)) ggX1_areNumbers_X1_isNumber
theorem dX1_areNumbers_0 : decode cX1_areNumbers 0 = .ok (.iload_n 0, 1) := by decide +kernel
theorem dX1_areNumbers_1 : decode cX1_areNumbers 1 = .ok (.iconst 1, 1) := by decide +kernel
theorem dX1_areNumbers_2 : decode cX1_areNumbers 2 = .ok (.if_icmp .lt 10, 3) := by decide +kernel
theorem dX1_areNumbers_5 : decode cX1_areNumbers 5 = .ok (.iload_n 1, 1) := by decide +kernel
theorem dX1_areNumbers_6 : decode cX1_areNumbers 6 = .ok (.invokestatic 30, 3) := by decide +kernel
theorem dX1_areNumbers_9 : decode cX1_areNumbers 9 = .ok (.ifCond .eq 31, 3) := by decide +kernel
theorem dX1_areNumbers_12 : decode cX1_areNumbers 12 = .ok (.iload_n 0, 1) := by decide +kernel
theorem dX1_areNumbers_13 : decode cX1_areNumbers 13 = .ok (.iconst 2, 1) := by decide +kernel
theorem dX1_areNumbers_14 : decode cX1_areNumbers 14 = .ok (.if_icmp .lt 10, 3) := by decide +kernel
theorem dX1_areNumbers_17 : decode cX1_areNumbers 17 = .ok (.iload_n 2, 1) := by decide +kernel
theorem dX1_areNumbers_18 : decode cX1_areNumbers 18 = .ok (.invokestatic 30, 3) := by decide +kernel
theorem dX1_areNumbers_21 : decode cX1_areNumbers 21 = .ok (.ifCond .eq 19, 3) := by decide +kernel
theorem dX1_areNumbers_24 : decode cX1_areNumbers 24 = .ok (.iload_n 0, 1) := by decide +kernel
theorem dX1_areNumbers_25 : decode cX1_areNumbers 25 = .ok (.iconst 3, 1) := by decide +kernel
theorem dX1_areNumbers_26 : decode cX1_areNumbers 26 = .ok (.if_icmp .lt 10, 3) := by decide +kernel
theorem dX1_areNumbers_29 : decode cX1_areNumbers 29 = .ok (.iload_n 3, 1) := by decide +kernel
theorem dX1_areNumbers_30 : decode cX1_areNumbers 30 = .ok (.invokestatic 30, 3) := by decide +kernel
theorem dX1_areNumbers_33 : decode cX1_areNumbers 33 = .ok (.ifCond .eq 7, 3) := by decide +kernel
theorem dX1_areNumbers_36 : decode cX1_areNumbers 36 = .ok (.iconst 1, 1) := by decide +kernel
theorem dX1_areNumbers_37 : decode cX1_areNumbers 37 = .ok (.goto 4, 3) := by decide +kernel
theorem dX1_areNumbers_40 : decode cX1_areNumbers 40 = .ok (.iconst 0, 1) := by decide +kernel
theorem dX1_areNumbers_41 : decode cX1_areNumbers 41 = .ok (.ireturn, 1) := by decide +kernel
theorem dX1_packed_0 : decode cX1_packed 0 = .ok (.lload_n 0, 1) := by decide +kernel
theorem dX1_packed_1 : decode cX1_packed 1 = .ok (.ldc2_w 34, 3) := by decide +kernel
theorem dX1_packed_4 : decode cX1_packed 4 = .ok (.lmul, 1) := by decide +kernel
theorem dX1_packed_5 : decode cX1_packed 5 = .ok (.lload_n 2, 1) := by decide +kernel
theorem dX1_packed_6 : decode cX1_packed 6 = .ok (.ladd, 1) := by decide +kernel
theorem dX1_packed_7 : decode cX1_packed 7 = .ok (.ldc2_w 34, 3) := by decide +kernel
theorem dX1_packed_10 : decode cX1_packed 10 = .ok (.lmul, 1) := by decide +kernel
theorem dX1_packed_11 : decode cX1_packed 11 = .ok (.lload 4, 2) := by decide +kernel
theorem dX1_packed_13 : decode cX1_packed 13 = .ok (.ladd, 1) := by decide +kernel
theorem dX1_packed_14 : decode cX1_packed 14 = .ok (.lreturn, 1) := by decide +kernel
set_option maxRecDepth 20000 in
theorem ggX1_key_X1_packed : GoodIn wsX1_key wsX1_packed := goodIn_r _ [5, 6] (by decide +kernel) (by decide +kernel)
set_option maxRecDepth 20000 in
theorem gX1_key_X1_packed : GoodIn wsX1_key (va_wsS RX1 36 yX1_packed wsX1_packed) := goodIn_app (goodIn_of _ (by decide +kernel)) ggX1_key_X1_packed
theorem dX1_key_0 : decode cX1_key 0 = .ok (.aload_n 0, 1) := by decide +kernel
theorem dX1_key_1 : decode cX1_key 1 = .ok (.getfield 25, 3) := by decide +kernel
theorem dX1_key_4 : decode cX1_key 4 = .ok (.tableswitch 86 0 4 #[36, 46, 56, 66, 76], 36) := by decide +kernel
theorem dX1_key_40 : decode cX1_key 40 = .ok (.iload_n 1, 1) := by decide +kernel
theorem dX1_key_41 : decode cX1_key 41 = .ok (.i2l, 1) := by decide +kernel
theorem dX1_key_42 : decode cX1_key 42 = .ok (.iload_n 2, 1) := by decide +kernel
theorem dX1_key_43 : decode cX1_key 43 = .ok (.i2l, 1) := by decide +kernel
theorem dX1_key_44 : decode cX1_key 44 = .ok (.iload_n 3, 1) := by decide +kernel
theorem dX1_key_45 : decode cX1_key 45 = .ok (.i2l, 1) := by decide +kernel
theorem dX1_key_46 : decode cX1_key 46 = .ok (.invokestatic 36, 3) := by decide +kernel
theorem dX1_key_49 : decode cX1_key 49 = .ok (.lreturn, 1) := by decide +kernel
theorem dX1_key_50 : decode cX1_key 50 = .ok (.iload_n 1, 1) := by decide +kernel
theorem dX1_key_51 : decode cX1_key 51 = .ok (.i2l, 1) := by decide +kernel
theorem dX1_key_52 : decode cX1_key 52 = .ok (.iload_n 3, 1) := by decide +kernel
theorem dX1_key_53 : decode cX1_key 53 = .ok (.i2l, 1) := by decide +kernel
theorem dX1_key_54 : decode cX1_key 54 = .ok (.iload_n 2, 1) := by decide +kernel
theorem dX1_key_55 : decode cX1_key 55 = .ok (.i2l, 1) := by decide +kernel
theorem dX1_key_56 : decode cX1_key 56 = .ok (.invokestatic 36, 3) := by decide +kernel
theorem dX1_key_59 : decode cX1_key 59 = .ok (.lreturn, 1) := by decide +kernel
theorem dX1_key_60 : decode cX1_key 60 = .ok (.iload_n 2, 1) := by decide +kernel
theorem dX1_key_61 : decode cX1_key 61 = .ok (.i2l, 1) := by decide +kernel
theorem dX1_key_62 : decode cX1_key 62 = .ok (.iload_n 1, 1) := by decide +kernel
theorem dX1_key_63 : decode cX1_key 63 = .ok (.i2l, 1) := by decide +kernel
theorem dX1_key_64 : decode cX1_key 64 = .ok (.iload_n 3, 1) := by decide +kernel
theorem dX1_key_65 : decode cX1_key 65 = .ok (.i2l, 1) := by decide +kernel
theorem dX1_key_66 : decode cX1_key 66 = .ok (.invokestatic 36, 3) := by decide +kernel
theorem dX1_key_69 : decode cX1_key 69 = .ok (.lreturn, 1) := by decide +kernel
theorem dX1_key_70 : decode cX1_key 70 = .ok (.iload_n 2, 1) := by decide +kernel
theorem dX1_key_71 : decode cX1_key 71 = .ok (.i2l, 1) := by decide +kernel
theorem dX1_key_72 : decode cX1_key 72 = .ok (.iload_n 3, 1) := by decide +kernel
theorem dX1_key_73 : decode cX1_key 73 = .ok (.i2l, 1) := by decide +kernel
theorem dX1_key_74 : decode cX1_key 74 = .ok (.iload_n 1, 1) := by decide +kernel
theorem dX1_key_75 : decode cX1_key 75 = .ok (.i2l, 1) := by decide +kernel
theorem dX1_key_76 : decode cX1_key 76 = .ok (.invokestatic 36, 3) := by decide +kernel
theorem dX1_key_79 : decode cX1_key 79 = .ok (.lreturn, 1) := by decide +kernel
theorem dX1_key_80 : decode cX1_key 80 = .ok (.iload_n 3, 1) := by decide +kernel
theorem dX1_key_81 : decode cX1_key 81 = .ok (.i2l, 1) := by decide +kernel
theorem dX1_key_82 : decode cX1_key 82 = .ok (.iload_n 1, 1) := by decide +kernel
theorem dX1_key_83 : decode cX1_key 83 = .ok (.i2l, 1) := by decide +kernel
theorem dX1_key_84 : decode cX1_key 84 = .ok (.iload_n 2, 1) := by decide +kernel
theorem dX1_key_85 : decode cX1_key 85 = .ok (.i2l, 1) := by decide +kernel
theorem dX1_key_86 : decode cX1_key 86 = .ok (.invokestatic 36, 3) := by decide +kernel
theorem dX1_key_89 : decode cX1_key 89 = .ok (.lreturn, 1) := by decide +kernel
theorem dX1_key_90 : decode cX1_key 90 = .ok (.iload_n 3, 1) := by decide +kernel
theorem dX1_key_91 : decode cX1_key 91 = .ok (.i2l, 1) := by decide +kernel
theorem dX1_key_92 : decode cX1_key 92 = .ok (.iload_n 2, 1) := by decide +kernel
theorem dX1_key_93 : decode cX1_key 93 = .ok (.i2l, 1) := by decide +kernel
theorem dX1_key_94 : decode cX1_key 94 = .ok (.iload_n 1, 1) := by decide +kernel
theorem dX1_key_95 : decode cX1_key 95 = .ok (.i2l, 1) := by decide +kernel
theorem dX1_key_96 : decode cX1_key 96 = .ok (.invokestatic 36, 3) := by decide +kernel
theorem dX1_key_99 : decode cX1_key 99 = .ok (.lreturn, 1) := by decide +kernel
theorem dX1_below_0 : decode cX1_below 0 = .ok (.iconst 0, 1) := by decide +kernel
theorem dX1_below_1 : decode cX1_below 1 = .ok (.istore_n 3, 1) := by decide +kernel
theorem dX1_below_2 : decode cX1_below 2 = .ok (.iload_n 3, 1) := by decide +kernel
theorem dX1_below_3 : decode cX1_below 3 = .ok (.aload_n 0, 1) := by decide +kernel
theorem dX1_below_4 : decode cX1_below 4 = .ok (.getfield 40, 3) := by decide +kernel
theorem dX1_below_7 : decode cX1_below 7 = .ok (.if_icmp .ge 20, 3) := by decide +kernel
theorem dX1_below_10 : decode cX1_below 10 = .ok (.aload_n 0, 1) := by decide +kernel
theorem dX1_below_11 : decode cX1_below 11 = .ok (.getfield 7, 3) := by decide +kernel
theorem dX1_below_14 : decode cX1_below 14 = .ok (.iload_n 3, 1) := by decide +kernel
theorem dX1_below_15 : decode cX1_below 15 = .ok (.laload, 1) := by decide +kernel
theorem dX1_below_16 : decode cX1_below 16 = .ok (.lload_n 1, 1) := by decide +kernel
theorem dX1_below_17 : decode cX1_below 17 = .ok (.lcmp, 1) := by decide +kernel
theorem dX1_below_18 : decode cX1_below 18 = .ok (.ifCond .ge 9, 3) := by decide +kernel
theorem dX1_below_21 : decode cX1_below 21 = .ok (.iinc 3 1, 3) := by decide +kernel
theorem dX1_below_24 : decode cX1_below 24 = .ok (.goto (-22), 3) := by decide +kernel
theorem dX1_below_27 : decode cX1_below 27 = .ok (.iload_n 3, 1) := by decide +kernel
theorem dX1_below_28 : decode cX1_below 28 = .ok (.ireturn, 1) := by decide +kernel
theorem dX1_isThere_0 : decode cX1_isThere 0 = .ok (.iload_n 1, 1) := by decide +kernel
theorem dX1_isThere_1 : decode cX1_isThere 1 = .ok (.aload_n 0, 1) := by decide +kernel
theorem dX1_isThere_2 : decode cX1_isThere 2 = .ok (.getfield 40, 3) := by decide +kernel
theorem dX1_isThere_5 : decode cX1_isThere 5 = .ok (.if_icmp .ge 18, 3) := by decide +kernel
theorem dX1_isThere_8 : decode cX1_isThere 8 = .ok (.aload_n 0, 1) := by decide +kernel
theorem dX1_isThere_9 : decode cX1_isThere 9 = .ok (.getfield 7, 3) := by decide +kernel
theorem dX1_isThere_12 : decode cX1_isThere 12 = .ok (.iload_n 1, 1) := by decide +kernel
theorem dX1_isThere_13 : decode cX1_isThere 13 = .ok (.laload, 1) := by decide +kernel
theorem dX1_isThere_14 : decode cX1_isThere 14 = .ok (.lload_n 2, 1) := by decide +kernel
theorem dX1_isThere_15 : decode cX1_isThere 15 = .ok (.lcmp, 1) := by decide +kernel
theorem dX1_isThere_16 : decode cX1_isThere 16 = .ok (.ifCond .ne 7, 3) := by decide +kernel
theorem dX1_isThere_19 : decode cX1_isThere 19 = .ok (.iconst 1, 1) := by decide +kernel
theorem dX1_isThere_20 : decode cX1_isThere 20 = .ok (.goto 4, 3) := by decide +kernel
theorem dX1_isThere_23 : decode cX1_isThere 23 = .ok (.iconst 0, 1) := by decide +kernel
theorem dX1_isThere_24 : decode cX1_isThere 24 = .ok (.ireturn, 1) := by decide +kernel
set_option maxRecDepth 20000 in
theorem ggX1_insert_X1_areNumbers : GoodIn wsX1_insert wsX1_areNumbers := goodIn_r _ [6, 7, 8, 5, 9, 10] (by decide +kernel) (by decide +kernel)
set_option maxRecDepth 20000 in
theorem gX1_insert_X1_areNumbers : GoodIn wsX1_insert (va_wsS RX1 43 yX1_areNumbers wsX1_areNumbers) := goodIn_app (goodIn_of _ (by decide +kernel)) ggX1_insert_X1_areNumbers
set_option maxRecDepth 20000 in
theorem ggX1_insert_X1_key : GoodIn wsX1_insert wsX1_key := goodIn_r _ [14, 15, 16, 17, 5, 18, 19, 28, 29, 30, 31] (by decide +kernel) (by decide +kernel)
set_option maxRecDepth 20000 in
theorem gX1_insert_X1_key : GoodIn wsX1_insert (wsV RX1 47 RX1 yX1_key wsX1_key) := goodIn_app (goodIn_of _ (by decide +kernel)) ggX1_insert_X1_key
set_option maxRecDepth 20000 in
theorem ggX1_insert_X1_below : GoodIn wsX1_insert wsX1_below := goodIn_r _ [23, 1, 2, 28, 29, 30, 31] (by decide +kernel) (by decide +kernel)
set_option maxRecDepth 20000 in
theorem gX1_insert_X1_below : GoodIn wsX1_insert (wsV RX1 51 RX1 yX1_below wsX1_below) := goodIn_app (goodIn_of _ (by decide +kernel)) ggX1_insert_X1_below
set_option maxRecDepth 20000 in
theorem ggX1_insert_X1_isThere : GoodIn wsX1_insert wsX1_isThere := goodIn_r _ [27, 1, 2, 28, 29, 30, 31] (by decide +kernel) (by decide +kernel)
set_option maxRecDepth 20000 in
theorem gX1_insert_X1_isThere : GoodIn wsX1_insert (wsV RX1 55 RX1 yX1_isThere wsX1_isThere) := goodIn_app (goodIn_of _ (by decide +kernel)) ggX1_insert_X1_isThere
theorem dX1_insert_0 : decode cX1_insert 0 = .ok (.iconst 3, 1) := by decide +kernel
theorem dX1_insert_1 : decode cX1_insert 1 = .ok (.iload_n 1, 1) := by decide +kernel
theorem dX1_insert_2 : decode cX1_insert 2 = .ok (.iload_n 2, 1) := by decide +kernel
theorem dX1_insert_3 : decode cX1_insert 3 = .ok (.iload_n 3, 1) := by decide +kernel
theorem dX1_insert_4 : decode cX1_insert 4 = .ok (.invokestatic 43, 3) := by decide +kernel
theorem dX1_insert_7 : decode cX1_insert 7 = .ok (.ifCond .ne 5, 3) := by decide +kernel
theorem dX1_insert_10 : decode cX1_insert 10 = .ok (.iconst (-1), 1) := by decide +kernel
theorem dX1_insert_11 : decode cX1_insert 11 = .ok (.ireturn, 1) := by decide +kernel
theorem dX1_insert_12 : decode cX1_insert 12 = .ok (.aload_n 0, 1) := by decide +kernel
theorem dX1_insert_13 : decode cX1_insert 13 = .ok (.iload_n 1, 1) := by decide +kernel
theorem dX1_insert_14 : decode cX1_insert 14 = .ok (.iload_n 2, 1) := by decide +kernel
theorem dX1_insert_15 : decode cX1_insert 15 = .ok (.iload_n 3, 1) := by decide +kernel
theorem dX1_insert_16 : decode cX1_insert 16 = .ok (.invokevirtual 47, 3) := by decide +kernel
theorem dX1_insert_19 : decode cX1_insert 19 = .ok (.lstore 4, 2) := by decide +kernel
theorem dX1_insert_21 : decode cX1_insert 21 = .ok (.aload_n 0, 1) := by decide +kernel
theorem dX1_insert_22 : decode cX1_insert 22 = .ok (.lload 4, 2) := by decide +kernel
theorem dX1_insert_24 : decode cX1_insert 24 = .ok (.invokevirtual 51, 3) := by decide +kernel
theorem dX1_insert_27 : decode cX1_insert 27 = .ok (.istore 6, 2) := by decide +kernel
theorem dX1_insert_29 : decode cX1_insert 29 = .ok (.aload_n 0, 1) := by decide +kernel
theorem dX1_insert_30 : decode cX1_insert 30 = .ok (.iload 6, 2) := by decide +kernel
theorem dX1_insert_32 : decode cX1_insert 32 = .ok (.lload 4, 2) := by decide +kernel
theorem dX1_insert_34 : decode cX1_insert 34 = .ok (.invokevirtual 55, 3) := by decide +kernel
theorem dX1_insert_37 : decode cX1_insert 37 = .ok (.ifCond .eq 5, 3) := by decide +kernel
theorem dX1_insert_40 : decode cX1_insert 40 = .ok (.iconst 0, 1) := by decide +kernel
theorem dX1_insert_41 : decode cX1_insert 41 = .ok (.ireturn, 1) := by decide +kernel
theorem dX1_insert_42 : decode cX1_insert 42 = .ok (.aload_n 0, 1) := by decide +kernel
theorem dX1_insert_43 : decode cX1_insert 43 = .ok (.getfield 40, 3) := by decide +kernel
theorem dX1_insert_46 : decode cX1_insert 46 = .ok (.sipush 20000, 3) := by decide +kernel
theorem dX1_insert_49 : decode cX1_insert 49 = .ok (.if_icmp .ne 6, 3) := by decide +kernel
theorem dX1_insert_52 : decode cX1_insert 52 = .ok (.bipush (-2), 2) := by decide +kernel
theorem dX1_insert_54 : decode cX1_insert 54 = .ok (.ireturn, 1) := by decide +kernel
theorem dX1_insert_55 : decode cX1_insert 55 = .ok (.aload_n 0, 1) := by decide +kernel
theorem dX1_insert_56 : decode cX1_insert 56 = .ok (.getfield 40, 3) := by decide +kernel
theorem dX1_insert_59 : decode cX1_insert 59 = .ok (.istore 7, 2) := by decide +kernel
theorem dX1_insert_61 : decode cX1_insert 61 = .ok (.iload 7, 2) := by decide +kernel
theorem dX1_insert_63 : decode cX1_insert 63 = .ok (.iload 6, 2) := by decide +kernel
theorem dX1_insert_65 : decode cX1_insert 65 = .ok (.if_icmp .le 25, 3) := by decide +kernel
theorem dX1_insert_68 : decode cX1_insert 68 = .ok (.aload_n 0, 1) := by decide +kernel
theorem dX1_insert_69 : decode cX1_insert 69 = .ok (.getfield 7, 3) := by decide +kernel
theorem dX1_insert_72 : decode cX1_insert 72 = .ok (.iload 7, 2) := by decide +kernel
theorem dX1_insert_74 : decode cX1_insert 74 = .ok (.aload_n 0, 1) := by decide +kernel
theorem dX1_insert_75 : decode cX1_insert 75 = .ok (.getfield 7, 3) := by decide +kernel
theorem dX1_insert_78 : decode cX1_insert 78 = .ok (.iload 7, 2) := by decide +kernel
theorem dX1_insert_80 : decode cX1_insert 80 = .ok (.iconst 1, 1) := by decide +kernel
theorem dX1_insert_81 : decode cX1_insert 81 = .ok (.isub, 1) := by decide +kernel
theorem dX1_insert_82 : decode cX1_insert 82 = .ok (.laload, 1) := by decide +kernel
theorem dX1_insert_83 : decode cX1_insert 83 = .ok (.lastore, 1) := by decide +kernel
theorem dX1_insert_84 : decode cX1_insert 84 = .ok (.iinc 7 (-1), 3) := by decide +kernel
theorem dX1_insert_87 : decode cX1_insert 87 = .ok (.goto (-26), 3) := by decide +kernel
theorem dX1_insert_90 : decode cX1_insert 90 = .ok (.aload_n 0, 1) := by decide +kernel
theorem dX1_insert_91 : decode cX1_insert 91 = .ok (.getfield 7, 3) := by decide +kernel
theorem dX1_insert_94 : decode cX1_insert 94 = .ok (.iload 6, 2) := by decide +kernel
theorem dX1_insert_96 : decode cX1_insert 96 = .ok (.lload 4, 2) := by decide +kernel
theorem dX1_insert_98 : decode cX1_insert 98 = .ok (.lastore, 1) := by decide +kernel
theorem dX1_insert_99 : decode cX1_insert 99 = .ok (.aload_n 0, 1) := by decide +kernel
theorem dX1_insert_100 : decode cX1_insert 100 = .ok (.dup, 1) := by decide +kernel
theorem dX1_insert_101 : decode cX1_insert 101 = .ok (.getfield 40, 3) := by decide +kernel
theorem dX1_insert_104 : decode cX1_insert 104 = .ok (.iconst 1, 1) := by decide +kernel
theorem dX1_insert_105 : decode cX1_insert 105 = .ok (.iadd, 1) := by decide +kernel
theorem dX1_insert_106 : decode cX1_insert 106 = .ok (.putfield 40, 3) := by decide +kernel
theorem dX1_insert_109 : decode cX1_insert 109 = .ok (.iconst 1, 1) := by decide +kernel
theorem dX1_insert_110 : decode cX1_insert 110 = .ok (.ireturn, 1) := by decide +kernel
theorem dX1_take_0 : decode cX1_take 0 = .ok (.aload_n 0, 1) := by decide +kernel
theorem dX1_take_1 : decode cX1_take 1 = .ok (.dup, 1) := by decide +kernel
theorem dX1_take_2 : decode cX1_take 2 = .ok (.getfield 40, 3) := by decide +kernel
theorem dX1_take_5 : decode cX1_take 5 = .ok (.iconst 1, 1) := by decide +kernel
theorem dX1_take_6 : decode cX1_take 6 = .ok (.isub, 1) := by decide +kernel
theorem dX1_take_7 : decode cX1_take 7 = .ok (.putfield 40, 3) := by decide +kernel
theorem dX1_take_10 : decode cX1_take 10 = .ok (.iload_n 1, 1) := by decide +kernel
theorem dX1_take_11 : decode cX1_take 11 = .ok (.istore_n 2, 1) := by decide +kernel
theorem dX1_take_12 : decode cX1_take 12 = .ok (.iload_n 2, 1) := by decide +kernel
theorem dX1_take_13 : decode cX1_take 13 = .ok (.aload_n 0, 1) := by decide +kernel
theorem dX1_take_14 : decode cX1_take 14 = .ok (.getfield 40, 3) := by decide +kernel
theorem dX1_take_17 : decode cX1_take 17 = .ok (.if_icmp .ge 23, 3) := by decide +kernel
theorem dX1_take_20 : decode cX1_take 20 = .ok (.aload_n 0, 1) := by decide +kernel
theorem dX1_take_21 : decode cX1_take 21 = .ok (.getfield 7, 3) := by decide +kernel
theorem dX1_take_24 : decode cX1_take 24 = .ok (.iload_n 2, 1) := by decide +kernel
theorem dX1_take_25 : decode cX1_take 25 = .ok (.aload_n 0, 1) := by decide +kernel
theorem dX1_take_26 : decode cX1_take 26 = .ok (.getfield 7, 3) := by decide +kernel
theorem dX1_take_29 : decode cX1_take 29 = .ok (.iload_n 2, 1) := by decide +kernel
theorem dX1_take_30 : decode cX1_take 30 = .ok (.iconst 1, 1) := by decide +kernel
theorem dX1_take_31 : decode cX1_take 31 = .ok (.iadd, 1) := by decide +kernel
theorem dX1_take_32 : decode cX1_take 32 = .ok (.laload, 1) := by decide +kernel
theorem dX1_take_33 : decode cX1_take 33 = .ok (.lastore, 1) := by decide +kernel
theorem dX1_take_34 : decode cX1_take 34 = .ok (.iinc 2 1, 3) := by decide +kernel
theorem dX1_take_37 : decode cX1_take 37 = .ok (.goto (-25), 3) := by decide +kernel
theorem dX1_take_40 : decode cX1_take 40 = .ok (.return_, 1) := by decide +kernel
set_option maxRecDepth 20000 in
theorem ggX1_remove_X1_areNumbers : GoodIn wsX1_remove wsX1_areNumbers := goodIn_r _ [4, 5, 6, 3, 7, 8] (by decide +kernel) (by decide +kernel)
set_option maxRecDepth 20000 in
theorem gX1_remove_X1_areNumbers : GoodIn wsX1_remove (va_wsS RX1 43 yX1_areNumbers wsX1_areNumbers) := goodIn_app (goodIn_of _ (by decide +kernel)) ggX1_remove_X1_areNumbers
set_option maxRecDepth 20000 in
theorem ggX1_remove_X1_key : GoodIn wsX1_remove wsX1_key := goodIn_r _ [12, 13, 14, 15, 3, 16, 17, 32, 33, 34, 35] (by decide +kernel) (by decide +kernel)
set_option maxRecDepth 20000 in
theorem gX1_remove_X1_key : GoodIn wsX1_remove (wsV RX1 47 RX1 yX1_key wsX1_key) := goodIn_app (goodIn_of _ (by decide +kernel)) ggX1_remove_X1_key
set_option maxRecDepth 20000 in
theorem ggX1_remove_X1_below : GoodIn wsX1_remove wsX1_below := goodIn_r _ [21, 22, 23, 32, 33, 34, 35] (by decide +kernel) (by decide +kernel)
set_option maxRecDepth 20000 in
theorem gX1_remove_X1_below : GoodIn wsX1_remove (wsV RX1 51 RX1 yX1_below wsX1_below) := goodIn_app (goodIn_of _ (by decide +kernel)) ggX1_remove_X1_below
set_option maxRecDepth 20000 in
theorem ggX1_remove_X1_isThere : GoodIn wsX1_remove wsX1_isThere := goodIn_r _ [27, 22, 23, 32, 33, 34, 35] (by decide +kernel) (by decide +kernel)
set_option maxRecDepth 20000 in
theorem gX1_remove_X1_isThere : GoodIn wsX1_remove (wsV RX1 55 RX1 yX1_isThere wsX1_isThere) := goodIn_app (goodIn_of _ (by decide +kernel)) ggX1_remove_X1_isThere
set_option maxRecDepth 20000 in
theorem ggX1_remove_X1_take : GoodIn wsX1_remove wsX1_take := goodIn_r _ [31, 22, 23, 32, 33, 34, 35] (by decide +kernel) (by decide +kernel)
set_option maxRecDepth 20000 in
theorem gX1_remove_X1_take : GoodIn wsX1_remove (wsV RX1 59 RX1 yX1_take wsX1_take) := goodIn_app (goodIn_of _ (by decide +kernel)) ggX1_remove_X1_take
theorem dX1_remove_0 : decode cX1_remove 0 = .ok (.iconst 3, 1) := by decide +kernel
theorem dX1_remove_1 : decode cX1_remove 1 = .ok (.iload_n 1, 1) := by decide +kernel
theorem dX1_remove_2 : decode cX1_remove 2 = .ok (.iload_n 2, 1) := by decide +kernel
theorem dX1_remove_3 : decode cX1_remove 3 = .ok (.iload_n 3, 1) := by decide +kernel
theorem dX1_remove_4 : decode cX1_remove 4 = .ok (.invokestatic 43, 3) := by decide +kernel
theorem dX1_remove_7 : decode cX1_remove 7 = .ok (.ifCond .ne 5, 3) := by decide +kernel
theorem dX1_remove_10 : decode cX1_remove 10 = .ok (.iconst (-1), 1) := by decide +kernel
theorem dX1_remove_11 : decode cX1_remove 11 = .ok (.ireturn, 1) := by decide +kernel
theorem dX1_remove_12 : decode cX1_remove 12 = .ok (.aload_n 0, 1) := by decide +kernel
theorem dX1_remove_13 : decode cX1_remove 13 = .ok (.iload_n 1, 1) := by decide +kernel
theorem dX1_remove_14 : decode cX1_remove 14 = .ok (.iload_n 2, 1) := by decide +kernel
theorem dX1_remove_15 : decode cX1_remove 15 = .ok (.iload_n 3, 1) := by decide +kernel
theorem dX1_remove_16 : decode cX1_remove 16 = .ok (.invokevirtual 47, 3) := by decide +kernel
theorem dX1_remove_19 : decode cX1_remove 19 = .ok (.lstore 4, 2) := by decide +kernel
theorem dX1_remove_21 : decode cX1_remove 21 = .ok (.aload_n 0, 1) := by decide +kernel
theorem dX1_remove_22 : decode cX1_remove 22 = .ok (.lload 4, 2) := by decide +kernel
theorem dX1_remove_24 : decode cX1_remove 24 = .ok (.invokevirtual 51, 3) := by decide +kernel
theorem dX1_remove_27 : decode cX1_remove 27 = .ok (.istore 6, 2) := by decide +kernel
theorem dX1_remove_29 : decode cX1_remove 29 = .ok (.aload_n 0, 1) := by decide +kernel
theorem dX1_remove_30 : decode cX1_remove 30 = .ok (.iload 6, 2) := by decide +kernel
theorem dX1_remove_32 : decode cX1_remove 32 = .ok (.lload 4, 2) := by decide +kernel
theorem dX1_remove_34 : decode cX1_remove 34 = .ok (.invokevirtual 55, 3) := by decide +kernel
theorem dX1_remove_37 : decode cX1_remove 37 = .ok (.ifCond .ne 5, 3) := by decide +kernel
theorem dX1_remove_40 : decode cX1_remove 40 = .ok (.iconst 0, 1) := by decide +kernel
theorem dX1_remove_41 : decode cX1_remove 41 = .ok (.ireturn, 1) := by decide +kernel
theorem dX1_remove_42 : decode cX1_remove 42 = .ok (.aload_n 0, 1) := by decide +kernel
theorem dX1_remove_43 : decode cX1_remove 43 = .ok (.iload 6, 2) := by decide +kernel
theorem dX1_remove_45 : decode cX1_remove 45 = .ok (.invokevirtual 59, 3) := by decide +kernel
theorem dX1_remove_48 : decode cX1_remove 48 = .ok (.iconst 1, 1) := by decide +kernel
theorem dX1_remove_49 : decode cX1_remove 49 = .ok (.ireturn, 1) := by decide +kernel
theorem dJ9_floorMod_7cf53_0 : decode cJ9_floorMod_7cf53 0 = .ok (.iload_n 0, 1) := by decide +kernel
theorem dJ9_floorMod_7cf53_1 : decode cJ9_floorMod_7cf53 1 = .ok (.iload_n 1, 1) := by decide +kernel
theorem dJ9_floorMod_7cf53_2 : decode cJ9_floorMod_7cf53 2 = .ok (.irem, 1) := by decide +kernel
theorem dJ9_floorMod_7cf53_3 : decode cJ9_floorMod_7cf53 3 = .ok (.istore_n 2, 1) := by decide +kernel
theorem dJ9_floorMod_7cf53_4 : decode cJ9_floorMod_7cf53 4 = .ok (.iload_n 0, 1) := by decide +kernel
theorem dJ9_floorMod_7cf53_5 : decode cJ9_floorMod_7cf53 5 = .ok (.iload_n 1, 1) := by decide +kernel
theorem dJ9_floorMod_7cf53_6 : decode cJ9_floorMod_7cf53 6 = .ok (.ixor, 1) := by decide +kernel
theorem dJ9_floorMod_7cf53_7 : decode cJ9_floorMod_7cf53 7 = .ok (.ifCond .ge 11, 3) := by decide +kernel
theorem dJ9_floorMod_7cf53_10 : decode cJ9_floorMod_7cf53 10 = .ok (.iload_n 2, 1) := by decide +kernel
theorem dJ9_floorMod_7cf53_11 : decode cJ9_floorMod_7cf53 11 = .ok (.ifCond .eq 7, 3) := by decide +kernel
theorem dJ9_floorMod_7cf53_14 : decode cJ9_floorMod_7cf53 14 = .ok (.iload_n 2, 1) := by decide +kernel
theorem dJ9_floorMod_7cf53_15 : decode cJ9_floorMod_7cf53 15 = .ok (.iload_n 1, 1) := by decide +kernel
theorem dJ9_floorMod_7cf53_16 : decode cJ9_floorMod_7cf53 16 = .ok (.iadd, 1) := by decide +kernel
theorem dJ9_floorMod_7cf53_17 : decode cJ9_floorMod_7cf53 17 = .ok (.ireturn, 1) := by decide +kernel
theorem dJ9_floorMod_7cf53_18 : decode cJ9_floorMod_7cf53 18 = .ok (.iload_n 2, 1) := by decide +kernel
theorem dJ9_floorMod_7cf53_19 : decode cJ9_floorMod_7cf53 19 = .ok (.ireturn, 1) := by decide +kernel
theorem dJ9_min_7cf53_0 : decode cJ9_min_7cf53 0 = .ok (.iload_n 0, 1) := by decide +kernel
theorem dJ9_min_7cf53_1 : decode cJ9_min_7cf53 1 = .ok (.iload_n 1, 1) := by decide +kernel
theorem dJ9_min_7cf53_2 : decode cJ9_min_7cf53 2 = .ok (.if_icmp .gt 7, 3) := by decide +kernel
theorem dJ9_min_7cf53_5 : decode cJ9_min_7cf53 5 = .ok (.iload_n 0, 1) := by decide +kernel
theorem dJ9_min_7cf53_6 : decode cJ9_min_7cf53 6 = .ok (.goto 4, 3) := by decide +kernel
theorem dJ9_min_7cf53_9 : decode cJ9_min_7cf53 9 = .ok (.iload_n 1, 1) := by decide +kernel
theorem dJ9_min_7cf53_10 : decode cJ9_min_7cf53 10 = .ok (.ireturn, 1) := by decide +kernel
theorem dJ7_copyOf_c38d5_0 : decode cJ7_copyOf_c38d5 0 = .ok (.iload_n 1, 1) := by decide +kernel
theorem dJ7_copyOf_c38d5_1 : decode cJ7_copyOf_c38d5 1 = .ok (.aload_n 0, 1) := by decide +kernel
theorem dJ7_copyOf_c38d5_2 : decode cJ7_copyOf_c38d5 2 = .ok (.arraylength, 1) := by decide +kernel
theorem dJ7_copyOf_c38d5_3 : decode cJ7_copyOf_c38d5 3 = .ok (.if_icmp .ne 11, 3) := by decide +kernel
theorem dJ7_copyOf_c38d5_6 : decode cJ7_copyOf_c38d5 6 = .ok (.aload_n 0, 1) := by decide +kernel
theorem dJ7_copyOf_c38d5_7 : decode cJ7_copyOf_c38d5 7 = .ok (.invokevirtual 319, 3) := by decide +kernel
theorem dJ7_copyOf_c38d5_10 : decode cJ7_copyOf_c38d5 10 = .ok (.checkcast 320, 3) := by decide +kernel
theorem dJ7_copyOf_c38d5_13 : decode cJ7_copyOf_c38d5 13 = .ok (.areturn, 1) := by decide +kernel
theorem dJ7_copyOf_c38d5_14 : decode cJ7_copyOf_c38d5 14 = .ok (.iload_n 1, 1) := by decide +kernel
theorem dJ7_copyOf_c38d5_15 : decode cJ7_copyOf_c38d5 15 = .ok (.newarray .long, 2) := by decide +kernel
theorem dJ7_copyOf_c38d5_17 : decode cJ7_copyOf_c38d5 17 = .ok (.astore_n 2, 1) := by decide +kernel
theorem dJ7_copyOf_c38d5_18 : decode cJ7_copyOf_c38d5 18 = .ok (.aload_n 0, 1) := by decide +kernel
theorem dJ7_copyOf_c38d5_19 : decode cJ7_copyOf_c38d5 19 = .ok (.iconst 0, 1) := by decide +kernel
theorem dJ7_copyOf_c38d5_20 : decode cJ7_copyOf_c38d5 20 = .ok (.aload_n 2, 1) := by decide +kernel
theorem dJ7_copyOf_c38d5_21 : decode cJ7_copyOf_c38d5 21 = .ok (.iconst 0, 1) := by decide +kernel
theorem dJ7_copyOf_c38d5_22 : decode cJ7_copyOf_c38d5 22 = .ok (.aload_n 0, 1) := by decide +kernel
theorem dJ7_copyOf_c38d5_23 : decode cJ7_copyOf_c38d5 23 = .ok (.arraylength, 1) := by decide +kernel
theorem dJ7_copyOf_c38d5_24 : decode cJ7_copyOf_c38d5 24 = .ok (.iload_n 1, 1) := by decide +kernel
theorem dJ7_copyOf_c38d5_25 : decode cJ7_copyOf_c38d5 25 = .ok (.invokestatic 304, 3) := by decide +kernel
theorem dJ7_copyOf_c38d5_28 : decode cJ7_copyOf_c38d5 28 = .ok (.invokestatic 150, 3) := by decide +kernel
theorem dJ7_copyOf_c38d5_31 : decode cJ7_copyOf_c38d5 31 = .ok (.aload_n 2, 1) := by decide +kernel
theorem dJ7_copyOf_c38d5_32 : decode cJ7_copyOf_c38d5 32 = .ok (.areturn, 1) := by decide +kernel
theorem dL_cell_0 : decode cL_cell 0 = .ok (.iload_n 1, 1) := by decide +kernel
theorem dL_cell_1 : decode cL_cell 1 = .ok (.aload_n 0, 1) := by decide +kernel
theorem dL_cell_2 : decode cL_cell 2 = .ok (.arraylength, 1) := by decide +kernel
theorem dL_cell_3 : decode cL_cell 3 = .ok (.if_icmp .ge 9, 3) := by decide +kernel
theorem dL_cell_6 : decode cL_cell 6 = .ok (.aload_n 0, 1) := by decide +kernel
theorem dL_cell_7 : decode cL_cell 7 = .ok (.iload_n 1, 1) := by decide +kernel
theorem dL_cell_8 : decode cL_cell 8 = .ok (.iaload, 1) := by decide +kernel
theorem dL_cell_9 : decode cL_cell 9 = .ok (.goto 4, 3) := by decide +kernel
theorem dL_cell_12 : decode cL_cell 12 = .ok (.iconst 0, 1) := by decide +kernel
theorem dL_cell_13 : decode cL_cell 13 = .ok (.ireturn, 1) := by decide +kernel
set_option maxRecDepth 20000 in
theorem ggL_law_L_cell : GoodIn wsL_law wsL_cell := goodIn_r _ [9] (by decide +kernel) (by decide +kernel)
set_option maxRecDepth 20000 in
theorem gL_law_L_cell : GoodIn wsL_law (va_wsS RL 9 yL_cell wsL_cell) := goodIn_app (goodIn_of _ (by decide +kernel)) ggL_law_L_cell
set_option maxRecDepth 20000 in
theorem ggL_law_X0_init : GoodIn wsL_law wsX0_init := goodIn_r _ [12, 13, 14, 15, 16, 17, 18, 19, 20, 21, 22, 23, 24, 25, 26, 27, 28, 216, 217, 218, 219, 220, 221] (by decide +kernel) (by decide +kernel)
set_option maxRecDepth 20000 in
theorem gL_law_X0_init : GoodIn wsL_law (wsX0_init) := ggL_law_X0_init
set_option maxRecDepth 20000 in
theorem ggL_law_X1_init : GoodIn wsL_law wsX1_init := goodIn_r _ [31, 32, 14, 15, 20, 33, 34, 35, 36, 37, 26, 27, 28, 222, 223, 224, 225] (by decide +kernel) (by decide +kernel)
set_option maxRecDepth 20000 in
theorem gL_law_X1_init : GoodIn wsL_law (wsX1_init) := ggL_law_X1_init
set_option maxRecDepth 20000 in
theorem ggL_law_X0_insert : GoodIn wsL_law wsX0_insert := goodIn_r _ [41, 22, 42, 43, 2, 44, 45, 46, 47, 48, 49, 50, 51, 52, 17, 18, 19, 53, 54, 55, 56, 57, 58, 59, 21, 60, 61, 62, 63, 64, 65, 66, 67, 68, 69, 70, 71, 72, 73, 74, 75, 76, 77, 78, 79, 80, 81, 82, 83, 84, 85, 20, 86, 87, 216, 217, 218, 219, 220, 221] (by decide +kernel) (by decide +kernel)
set_option maxRecDepth 20000 in
theorem gL_law_X0_insert : GoodIn wsL_law (wsV RL 21 RX0 yX0_insert wsX0_insert) := goodIn_app (goodIn_of _ (by decide +kernel)) ggL_law_X0_insert
set_option maxRecDepth 20000 in
theorem ggL_law_X1_insert : GoodIn wsL_law wsX1_insert := goodIn_r _ [91, 92, 33, 93, 94, 5, 95, 96, 97, 98, 99, 100, 101, 102, 103, 36, 104, 105, 106, 107, 108, 109, 110, 111, 112, 113, 114, 115, 222, 223, 224, 225] (by decide +kernel) (by decide +kernel)
set_option maxRecDepth 20000 in
theorem gL_law_X1_insert : GoodIn wsL_law (wsV RL 25 RX1 yX1_insert wsX1_insert) := goodIn_app (goodIn_of _ (by decide +kernel)) ggL_law_X1_insert
set_option maxRecDepth 20000 in
theorem ggL_law_X0_remove : GoodIn wsL_law wsX0_remove := goodIn_r _ [119, 42, 43, 2, 44, 45, 46, 47, 48, 49, 50, 51, 52, 17, 18, 19, 53, 54, 55, 56, 57, 58, 59, 22, 21, 60, 61, 62, 63, 120, 121, 122, 123, 72, 73, 74, 75, 216, 217, 218, 219, 220, 221] (by decide +kernel) (by decide +kernel)
set_option maxRecDepth 20000 in
theorem gL_law_X0_remove : GoodIn wsL_law (wsV RL 26 RX0 yX0_remove wsX0_remove) := goodIn_app (goodIn_of _ (by decide +kernel)) ggL_law_X0_remove
set_option maxRecDepth 20000 in
theorem ggL_law_X1_remove : GoodIn wsL_law wsX1_remove := goodIn_r _ [127, 93, 94, 5, 95, 96, 97, 98, 99, 100, 101, 102, 103, 36, 104, 105, 106, 107, 108, 109, 110, 111, 92, 33, 112, 113, 114, 115, 128, 129, 130, 131, 222, 223, 224, 225] (by decide +kernel) (by decide +kernel)
set_option maxRecDepth 20000 in
theorem gL_law_X1_remove : GoodIn wsL_law (wsV RL 29 RX1 yX1_remove wsX1_remove) := goodIn_app (goodIn_of _ (by decide +kernel)) ggL_law_X1_remove
set_option maxRecDepth 20000 in
theorem ggL_law_X0_has : GoodIn wsL_law wsX0_has := goodIn_r _ [135, 42, 43, 2, 44, 45, 46, 47, 48, 49, 50, 51, 52, 17, 18, 19, 53, 54, 55, 136, 137, 138, 139, 56, 57, 58, 59, 22, 21, 60, 61, 62, 63, 216, 217, 218, 219, 220, 221] (by decide +kernel) (by decide +kernel)
set_option maxRecDepth 20000 in
theorem gL_law_X0_has : GoodIn wsL_law (wsV RL 30 RX0 yX0_has wsX0_has) := goodIn_app (goodIn_of _ (by decide +kernel)) ggL_law_X0_has
set_option maxRecDepth 20000 in
theorem ggL_law_X0_count : GoodIn wsL_law wsX0_count := goodIn_r _ [143, 144, 145, 146, 2, 147, 148, 149, 150, 45, 46, 47, 48, 151, 152, 153, 154, 155, 156, 53, 54, 55, 157, 158, 159, 56, 57, 58, 59, 22, 21, 160, 161, 162, 163, 216, 217, 218, 219, 220, 221] (by decide +kernel) (by decide +kernel)
set_option maxRecDepth 20000 in
theorem gL_law_X0_count : GoodIn wsL_law (wsV RL 34 RX0 yX0_count wsX0_count) := goodIn_app (goodIn_of _ (by decide +kernel)) ggL_law_X0_count
set_option maxRecDepth 20000 in
theorem ggL_law_X0_different : GoodIn wsL_law wsX0_different := goodIn_r _ [167, 160, 161, 162, 2, 163, 148, 149, 150, 45, 46, 47, 48, 151, 152, 153, 154, 155, 156, 53, 54, 55, 56, 57, 58, 59, 22, 21, 144, 145, 146, 147, 157, 158, 159, 168, 169, 170, 171, 23, 216, 217, 218, 219, 220, 221] (by decide +kernel) (by decide +kernel)
set_option maxRecDepth 20000 in
theorem gL_law_X0_different : GoodIn wsL_law (wsV RL 39 RX0 yX0_different wsX0_different) := goodIn_app (goodIn_of _ (by decide +kernel)) ggL_law_X0_different
set_option maxRecDepth 20000 in
theorem ggL_law_X0_rank : GoodIn wsL_law wsX0_rank := goodIn_r _ [175, 42, 43, 2, 44, 45, 46, 47, 48, 154, 155, 156, 53, 54, 55, 56, 57, 58, 59, 22, 21, 216, 217, 218, 219, 220, 221] (by decide +kernel) (by decide +kernel)
set_option maxRecDepth 20000 in
theorem gL_law_X0_rank : GoodIn wsL_law (wsV RL 43 RX0 yX0_rank wsX0_rank) := goodIn_app (goodIn_of _ (by decide +kernel)) ggL_law_X0_rank
set_option maxRecDepth 20000 in
theorem ggL_law_X0_choose : GoodIn wsL_law wsX0_choose := goodIn_r _ [179, 180, 181, 182, 2, 183, 22, 21, 23, 24, 216, 217, 218, 219, 220, 221] (by decide +kernel) (by decide +kernel)
set_option maxRecDepth 20000 in
theorem gL_law_X0_choose : GoodIn wsL_law (wsV RL 47 RX0 yX0_choose wsX0_choose) := goodIn_app (goodIn_of _ (by decide +kernel)) ggL_law_X0_choose
set_option maxRecDepth 20000 in
theorem ggL_law_X0_seek : GoodIn wsL_law wsX0_seek := goodIn_r _ [187, 42, 43, 2, 44, 45, 46, 47, 48, 154, 155, 156, 53, 54, 55, 56, 57, 58, 59, 22, 21, 180, 181, 182, 183, 23, 24, 216, 217, 218, 219, 220, 221] (by decide +kernel) (by decide +kernel)
set_option maxRecDepth 20000 in
theorem gL_law_X0_seek : GoodIn wsL_law (wsV RL 52 RX0 yX0_seek wsX0_seek) := goodIn_app (goodIn_of _ (by decide +kernel)) ggL_law_X0_seek
set_option maxRecDepth 20000 in
theorem ggL_law_X0_next : GoodIn wsL_law wsX0_next := goodIn_r _ [191, 24, 56, 57, 58, 2, 59, 22, 21, 180, 181, 182, 183, 23, 216, 217, 218, 219, 220, 221] (by decide +kernel) (by decide +kernel)
set_option maxRecDepth 20000 in
theorem gL_law_X0_next : GoodIn wsL_law (wsV RL 57 RX0 yX0_next wsX0_next) := goodIn_app (goodIn_of _ (by decide +kernel)) ggL_law_X0_next
set_option maxRecDepth 20000 in
theorem ggL_law_X0_previous : GoodIn wsL_law wsX0_previous := goodIn_r _ [195, 24, 23, 22, 56, 57, 58, 2, 59, 21, 180, 181, 182, 183, 216, 217, 218, 219, 220, 221] (by decide +kernel) (by decide +kernel)
set_option maxRecDepth 20000 in
theorem gL_law_X0_previous : GoodIn wsL_law (wsV RL 62 RX0 yX0_previous wsX0_previous) := goodIn_app (goodIn_of _ (by decide +kernel)) ggL_law_X0_previous
set_option maxRecDepth 20000 in
theorem ggL_law_X0_told : GoodIn wsL_law wsX0_told := goodIn_r _ [199, 24, 23, 17, 18, 19, 200, 201, 202, 2, 203, 48, 53, 54, 55, 216, 217, 218, 219, 220, 221] (by decide +kernel) (by decide +kernel)
set_option maxRecDepth 20000 in
theorem gL_law_X0_told : GoodIn wsL_law (wsV RL 66 RX0 yX0_told wsX0_told) := goodIn_app (goodIn_of _ (by decide +kernel)) ggL_law_X0_told
set_option maxRecDepth 20000 in
theorem ggL_law_X0_stands : GoodIn wsL_law wsX0_stands := goodIn_r _ [207, 24, 23, 136, 137, 138, 2, 139, 56, 57, 58, 59, 22, 21, 60, 61, 62, 63, 216, 217, 218, 219, 220, 221] (by decide +kernel) (by decide +kernel)
set_option maxRecDepth 20000 in
theorem gL_law_X0_stands : GoodIn wsL_law (wsV RL 71 RX0 yX0_stands wsX0_stands) := goodIn_app (goodIn_of _ (by decide +kernel)) ggL_law_X0_stands
set_option maxRecDepth 20000 in
theorem ggL_law_X0_size : GoodIn wsL_law wsX0_size := goodIn_r _ [211, 22, 216, 217, 218, 219, 220, 221] (by decide +kernel) (by decide +kernel)
set_option maxRecDepth 20000 in
theorem gL_law_X0_size : GoodIn wsL_law (wsV RL 76 RX0 yX0_size wsX0_size) := goodIn_app (goodIn_of _ (by decide +kernel)) ggL_law_X0_size
set_option maxRecDepth 20000 in
theorem ggL_law_X0_cut : GoodIn wsL_law wsX0_cut := goodIn_r _ [215, 160, 161, 162, 2, 163, 148, 149, 150, 45, 46, 47, 48, 151, 152, 153, 154, 155, 156, 53, 54, 55, 56, 57, 58, 59, 22, 21, 144, 145, 146, 147, 157, 158, 159, 120, 121, 122, 123, 72, 73, 74, 75, 216, 217, 218, 219, 220, 221] (by decide +kernel) (by decide +kernel)
set_option maxRecDepth 20000 in
theorem gL_law_X0_cut : GoodIn wsL_law (wsV RL 80 RX0 yX0_cut wsX0_cut) := goodIn_app (goodIn_of _ (by decide +kernel)) ggL_law_X0_cut
theorem dL_law_0 : decode cL_law 0 = .ok (.new 7, 3) := by decide +kernel
theorem dL_law_3 : decode cL_law 3 = .ok (.dup, 1) := by decide +kernel
theorem dL_law_4 : decode cL_law 4 = .ok (.aload_n 0, 1) := by decide +kernel
theorem dL_law_5 : decode cL_law 5 = .ok (.iconst 0, 1) := by decide +kernel
theorem dL_law_6 : decode cL_law 6 = .ok (.invokestatic 9, 3) := by decide +kernel
theorem dL_law_9 : decode cL_law 9 = .ok (.invokespecial 15, 3) := by decide +kernel
theorem dL_law_12 : decode cL_law 12 = .ok (.astore_n 1, 1) := by decide +kernel
theorem dL_law_13 : decode cL_law 13 = .ok (.new 18, 3) := by decide +kernel
theorem dL_law_16 : decode cL_law 16 = .ok (.dup, 1) := by decide +kernel
theorem dL_law_17 : decode cL_law 17 = .ok (.aload_n 0, 1) := by decide +kernel
theorem dL_law_18 : decode cL_law 18 = .ok (.iconst 0, 1) := by decide +kernel
theorem dL_law_19 : decode cL_law 19 = .ok (.invokestatic 9, 3) := by decide +kernel
theorem dL_law_22 : decode cL_law 22 = .ok (.invokespecial 20, 3) := by decide +kernel
theorem dL_law_25 : decode cL_law 25 = .ok (.astore_n 2, 1) := by decide +kernel
theorem dL_law_26 : decode cL_law 26 = .ok (.iconst 1, 1) := by decide +kernel
theorem dL_law_27 : decode cL_law 27 = .ok (.istore_n 3, 1) := by decide +kernel
theorem dL_law_28 : decode cL_law 28 = .ok (.iload_n 3, 1) := by decide +kernel
theorem dL_law_29 : decode cL_law 29 = .ok (.aload_n 0, 1) := by decide +kernel
theorem dL_law_30 : decode cL_law 30 = .ok (.arraylength, 1) := by decide +kernel
theorem dL_law_31 : decode cL_law 31 = .ok (.iconst 5, 1) := by decide +kernel
theorem dL_law_32 : decode cL_law 32 = .ok (.isub, 1) := by decide +kernel
theorem dL_law_33 : decode cL_law 33 = .ok (.if_icmp .gt 547, 3) := by decide +kernel
theorem dL_law_36 : decode cL_law 36 = .ok (.aload_n 0, 1) := by decide +kernel
theorem dL_law_37 : decode cL_law 37 = .ok (.iload_n 3, 1) := by decide +kernel
theorem dL_law_38 : decode cL_law 38 = .ok (.iaload, 1) := by decide +kernel
theorem dL_law_39 : decode cL_law 39 = .ok (.bipush 15, 2) := by decide +kernel
theorem dL_law_41 : decode cL_law 41 = .ok (.iand, 1) := by decide +kernel
theorem dL_law_42 : decode cL_law 42 = .ok (.tableswitch 532 0 13 #[70, 113, 156, 199, 252, 295, 338, 361, 404, 417, 430, 453, 466, 479], 70) := by decide +kernel
theorem dL_law_112 : decode cL_law 112 = .ok (.aload_n 1, 1) := by decide +kernel
theorem dL_law_113 : decode cL_law 113 = .ok (.aload_n 0, 1) := by decide +kernel
theorem dL_law_114 : decode cL_law 114 = .ok (.iload_n 3, 1) := by decide +kernel
theorem dL_law_115 : decode cL_law 115 = .ok (.iconst 1, 1) := by decide +kernel
theorem dL_law_116 : decode cL_law 116 = .ok (.iadd, 1) := by decide +kernel
theorem dL_law_117 : decode cL_law 117 = .ok (.iaload, 1) := by decide +kernel
theorem dL_law_118 : decode cL_law 118 = .ok (.aload_n 0, 1) := by decide +kernel
theorem dL_law_119 : decode cL_law 119 = .ok (.iload_n 3, 1) := by decide +kernel
theorem dL_law_120 : decode cL_law 120 = .ok (.iconst 2, 1) := by decide +kernel
theorem dL_law_121 : decode cL_law 121 = .ok (.iadd, 1) := by decide +kernel
theorem dL_law_122 : decode cL_law 122 = .ok (.iaload, 1) := by decide +kernel
theorem dL_law_123 : decode cL_law 123 = .ok (.aload_n 0, 1) := by decide +kernel
theorem dL_law_124 : decode cL_law 124 = .ok (.iload_n 3, 1) := by decide +kernel
theorem dL_law_125 : decode cL_law 125 = .ok (.iconst 3, 1) := by decide +kernel
theorem dL_law_126 : decode cL_law 126 = .ok (.iadd, 1) := by decide +kernel
theorem dL_law_127 : decode cL_law 127 = .ok (.iaload, 1) := by decide +kernel
theorem dL_law_128 : decode cL_law 128 = .ok (.invokevirtual 21, 3) := by decide +kernel
theorem dL_law_131 : decode cL_law 131 = .ok (.aload_n 2, 1) := by decide +kernel
theorem dL_law_132 : decode cL_law 132 = .ok (.aload_n 0, 1) := by decide +kernel
theorem dL_law_133 : decode cL_law 133 = .ok (.iload_n 3, 1) := by decide +kernel
theorem dL_law_134 : decode cL_law 134 = .ok (.iconst 1, 1) := by decide +kernel
theorem dL_law_135 : decode cL_law 135 = .ok (.iadd, 1) := by decide +kernel
theorem dL_law_136 : decode cL_law 136 = .ok (.iaload, 1) := by decide +kernel
theorem dL_law_137 : decode cL_law 137 = .ok (.aload_n 0, 1) := by decide +kernel
theorem dL_law_138 : decode cL_law 138 = .ok (.iload_n 3, 1) := by decide +kernel
theorem dL_law_139 : decode cL_law 139 = .ok (.iconst 2, 1) := by decide +kernel
theorem dL_law_140 : decode cL_law 140 = .ok (.iadd, 1) := by decide +kernel
theorem dL_law_141 : decode cL_law 141 = .ok (.iaload, 1) := by decide +kernel
theorem dL_law_142 : decode cL_law 142 = .ok (.aload_n 0, 1) := by decide +kernel
theorem dL_law_143 : decode cL_law 143 = .ok (.iload_n 3, 1) := by decide +kernel
theorem dL_law_144 : decode cL_law 144 = .ok (.iconst 3, 1) := by decide +kernel
theorem dL_law_145 : decode cL_law 145 = .ok (.iadd, 1) := by decide +kernel
theorem dL_law_146 : decode cL_law 146 = .ok (.iaload, 1) := by decide +kernel
theorem dL_law_147 : decode cL_law 147 = .ok (.invokevirtual 25, 3) := by decide +kernel
theorem dL_law_150 : decode cL_law 150 = .ok (.if_icmp .eq 424, 3) := by decide +kernel
theorem dL_law_153 : decode cL_law 153 = .ok (.iconst 0, 1) := by decide +kernel
theorem dL_law_154 : decode cL_law 154 = .ok (.ireturn, 1) := by decide +kernel
theorem dL_law_155 : decode cL_law 155 = .ok (.aload_n 1, 1) := by decide +kernel
theorem dL_law_156 : decode cL_law 156 = .ok (.aload_n 0, 1) := by decide +kernel
theorem dL_law_157 : decode cL_law 157 = .ok (.iload_n 3, 1) := by decide +kernel
theorem dL_law_158 : decode cL_law 158 = .ok (.iconst 1, 1) := by decide +kernel
theorem dL_law_159 : decode cL_law 159 = .ok (.iadd, 1) := by decide +kernel
theorem dL_law_160 : decode cL_law 160 = .ok (.iaload, 1) := by decide +kernel
theorem dL_law_161 : decode cL_law 161 = .ok (.aload_n 0, 1) := by decide +kernel
theorem dL_law_162 : decode cL_law 162 = .ok (.iload_n 3, 1) := by decide +kernel
theorem dL_law_163 : decode cL_law 163 = .ok (.iconst 2, 1) := by decide +kernel
theorem dL_law_164 : decode cL_law 164 = .ok (.iadd, 1) := by decide +kernel
theorem dL_law_165 : decode cL_law 165 = .ok (.iaload, 1) := by decide +kernel
theorem dL_law_166 : decode cL_law 166 = .ok (.aload_n 0, 1) := by decide +kernel
theorem dL_law_167 : decode cL_law 167 = .ok (.iload_n 3, 1) := by decide +kernel
theorem dL_law_168 : decode cL_law 168 = .ok (.iconst 3, 1) := by decide +kernel
theorem dL_law_169 : decode cL_law 169 = .ok (.iadd, 1) := by decide +kernel
theorem dL_law_170 : decode cL_law 170 = .ok (.iaload, 1) := by decide +kernel
theorem dL_law_171 : decode cL_law 171 = .ok (.invokevirtual 26, 3) := by decide +kernel
theorem dL_law_174 : decode cL_law 174 = .ok (.aload_n 2, 1) := by decide +kernel
theorem dL_law_175 : decode cL_law 175 = .ok (.aload_n 0, 1) := by decide +kernel
theorem dL_law_176 : decode cL_law 176 = .ok (.iload_n 3, 1) := by decide +kernel
theorem dL_law_177 : decode cL_law 177 = .ok (.iconst 1, 1) := by decide +kernel
theorem dL_law_178 : decode cL_law 178 = .ok (.iadd, 1) := by decide +kernel
theorem dL_law_179 : decode cL_law 179 = .ok (.iaload, 1) := by decide +kernel
theorem dL_law_180 : decode cL_law 180 = .ok (.aload_n 0, 1) := by decide +kernel
theorem dL_law_181 : decode cL_law 181 = .ok (.iload_n 3, 1) := by decide +kernel
theorem dL_law_182 : decode cL_law 182 = .ok (.iconst 2, 1) := by decide +kernel
theorem dL_law_183 : decode cL_law 183 = .ok (.iadd, 1) := by decide +kernel
theorem dL_law_184 : decode cL_law 184 = .ok (.iaload, 1) := by decide +kernel
theorem dL_law_185 : decode cL_law 185 = .ok (.aload_n 0, 1) := by decide +kernel
theorem dL_law_186 : decode cL_law 186 = .ok (.iload_n 3, 1) := by decide +kernel
theorem dL_law_187 : decode cL_law 187 = .ok (.iconst 3, 1) := by decide +kernel
theorem dL_law_188 : decode cL_law 188 = .ok (.iadd, 1) := by decide +kernel
theorem dL_law_189 : decode cL_law 189 = .ok (.iaload, 1) := by decide +kernel
theorem dL_law_190 : decode cL_law 190 = .ok (.invokevirtual 29, 3) := by decide +kernel
theorem dL_law_193 : decode cL_law 193 = .ok (.if_icmp .eq 381, 3) := by decide +kernel
theorem dL_law_196 : decode cL_law 196 = .ok (.iconst 0, 1) := by decide +kernel
theorem dL_law_197 : decode cL_law 197 = .ok (.ireturn, 1) := by decide +kernel
theorem dL_law_198 : decode cL_law 198 = .ok (.aload_n 1, 1) := by decide +kernel
theorem dL_law_199 : decode cL_law 199 = .ok (.aload_n 0, 1) := by decide +kernel
theorem dL_law_200 : decode cL_law 200 = .ok (.iload_n 3, 1) := by decide +kernel
theorem dL_law_201 : decode cL_law 201 = .ok (.iconst 1, 1) := by decide +kernel
theorem dL_law_202 : decode cL_law 202 = .ok (.iadd, 1) := by decide +kernel
theorem dL_law_203 : decode cL_law 203 = .ok (.iaload, 1) := by decide +kernel
theorem dL_law_204 : decode cL_law 204 = .ok (.aload_n 0, 1) := by decide +kernel
theorem dL_law_205 : decode cL_law 205 = .ok (.iload_n 3, 1) := by decide +kernel
theorem dL_law_206 : decode cL_law 206 = .ok (.iconst 2, 1) := by decide +kernel
theorem dL_law_207 : decode cL_law 207 = .ok (.iadd, 1) := by decide +kernel
theorem dL_law_208 : decode cL_law 208 = .ok (.iaload, 1) := by decide +kernel
theorem dL_law_209 : decode cL_law 209 = .ok (.aload_n 0, 1) := by decide +kernel
theorem dL_law_210 : decode cL_law 210 = .ok (.iload_n 3, 1) := by decide +kernel
theorem dL_law_211 : decode cL_law 211 = .ok (.iconst 3, 1) := by decide +kernel
theorem dL_law_212 : decode cL_law 212 = .ok (.iadd, 1) := by decide +kernel
theorem dL_law_213 : decode cL_law 213 = .ok (.iaload, 1) := by decide +kernel
theorem dL_law_214 : decode cL_law 214 = .ok (.invokevirtual 30, 3) := by decide +kernel
theorem dL_law_217 : decode cL_law 217 = .ok (.aload_n 2, 1) := by decide +kernel
theorem dL_law_218 : decode cL_law 218 = .ok (.aload_n 0, 1) := by decide +kernel
theorem dL_law_219 : decode cL_law 219 = .ok (.iload_n 3, 1) := by decide +kernel
theorem dL_law_220 : decode cL_law 220 = .ok (.iconst 1, 1) := by decide +kernel
theorem dL_law_221 : decode cL_law 221 = .ok (.iadd, 1) := by decide +kernel
theorem dL_law_222 : decode cL_law 222 = .ok (.iaload, 1) := by decide +kernel
theorem dL_law_223 : decode cL_law 223 = .ok (.aload_n 0, 1) := by decide +kernel
theorem dL_law_224 : decode cL_law 224 = .ok (.iload_n 3, 1) := by decide +kernel
theorem dL_law_225 : decode cL_law 225 = .ok (.iconst 2, 1) := by decide +kernel
theorem dL_law_226 : decode cL_law 226 = .ok (.iadd, 1) := by decide +kernel
theorem dL_law_227 : decode cL_law 227 = .ok (.iaload, 1) := by decide +kernel
theorem dL_law_228 : decode cL_law 228 = .ok (.aload_n 0, 1) := by decide +kernel
theorem dL_law_229 : decode cL_law 229 = .ok (.iload_n 3, 1) := by decide +kernel
theorem dL_law_230 : decode cL_law 230 = .ok (.iconst 3, 1) := by decide +kernel
theorem dL_law_231 : decode cL_law 231 = .ok (.iadd, 1) := by decide +kernel
theorem dL_law_232 : decode cL_law 232 = .ok (.iaload, 1) := by decide +kernel
theorem dL_law_233 : decode cL_law 233 = .ok (.invokevirtual 33, 3) := by decide +kernel
theorem dL_law_236 : decode cL_law 236 = .ok (.if_icmp .eq 338, 3) := by decide +kernel
theorem dL_law_239 : decode cL_law 239 = .ok (.iconst 0, 1) := by decide +kernel
theorem dL_law_240 : decode cL_law 240 = .ok (.ireturn, 1) := by decide +kernel
theorem dL_law_241 : decode cL_law 241 = .ok (.aload_n 1, 1) := by decide +kernel
theorem dL_law_242 : decode cL_law 242 = .ok (.aload_n 0, 1) := by decide +kernel
theorem dL_law_243 : decode cL_law 243 = .ok (.iload_n 3, 1) := by decide +kernel
theorem dL_law_244 : decode cL_law 244 = .ok (.iconst 1, 1) := by decide +kernel
theorem dL_law_245 : decode cL_law 245 = .ok (.iadd, 1) := by decide +kernel
theorem dL_law_246 : decode cL_law 246 = .ok (.iaload, 1) := by decide +kernel
theorem dL_law_247 : decode cL_law 247 = .ok (.aload_n 0, 1) := by decide +kernel
theorem dL_law_248 : decode cL_law 248 = .ok (.iload_n 3, 1) := by decide +kernel
theorem dL_law_249 : decode cL_law 249 = .ok (.iconst 2, 1) := by decide +kernel
theorem dL_law_250 : decode cL_law 250 = .ok (.iadd, 1) := by decide +kernel
theorem dL_law_251 : decode cL_law 251 = .ok (.iaload, 1) := by decide +kernel
theorem dL_law_252 : decode cL_law 252 = .ok (.aload_n 0, 1) := by decide +kernel
theorem dL_law_253 : decode cL_law 253 = .ok (.iload_n 3, 1) := by decide +kernel
theorem dL_law_254 : decode cL_law 254 = .ok (.iconst 3, 1) := by decide +kernel
theorem dL_law_255 : decode cL_law 255 = .ok (.iadd, 1) := by decide +kernel
theorem dL_law_256 : decode cL_law 256 = .ok (.iaload, 1) := by decide +kernel
theorem dL_law_257 : decode cL_law 257 = .ok (.aload_n 0, 1) := by decide +kernel
theorem dL_law_258 : decode cL_law 258 = .ok (.iload_n 3, 1) := by decide +kernel
theorem dL_law_259 : decode cL_law 259 = .ok (.iconst 4, 1) := by decide +kernel
theorem dL_law_260 : decode cL_law 260 = .ok (.iadd, 1) := by decide +kernel
theorem dL_law_261 : decode cL_law 261 = .ok (.iaload, 1) := by decide +kernel
theorem dL_law_262 : decode cL_law 262 = .ok (.invokevirtual 34, 3) := by decide +kernel
theorem dL_law_265 : decode cL_law 265 = .ok (.aload_n 2, 1) := by decide +kernel
theorem dL_law_266 : decode cL_law 266 = .ok (.aload_n 0, 1) := by decide +kernel
theorem dL_law_267 : decode cL_law 267 = .ok (.iload_n 3, 1) := by decide +kernel
theorem dL_law_268 : decode cL_law 268 = .ok (.iconst 1, 1) := by decide +kernel
theorem dL_law_269 : decode cL_law 269 = .ok (.iadd, 1) := by decide +kernel
theorem dL_law_270 : decode cL_law 270 = .ok (.iaload, 1) := by decide +kernel
theorem dL_law_271 : decode cL_law 271 = .ok (.aload_n 0, 1) := by decide +kernel
theorem dL_law_272 : decode cL_law 272 = .ok (.iload_n 3, 1) := by decide +kernel
theorem dL_law_273 : decode cL_law 273 = .ok (.iconst 2, 1) := by decide +kernel
theorem dL_law_274 : decode cL_law 274 = .ok (.iadd, 1) := by decide +kernel
theorem dL_law_275 : decode cL_law 275 = .ok (.iaload, 1) := by decide +kernel
theorem dL_law_276 : decode cL_law 276 = .ok (.aload_n 0, 1) := by decide +kernel
theorem dL_law_277 : decode cL_law 277 = .ok (.iload_n 3, 1) := by decide +kernel
theorem dL_law_278 : decode cL_law 278 = .ok (.iconst 3, 1) := by decide +kernel
theorem dL_law_279 : decode cL_law 279 = .ok (.iadd, 1) := by decide +kernel
theorem dL_law_280 : decode cL_law 280 = .ok (.iaload, 1) := by decide +kernel
theorem dL_law_281 : decode cL_law 281 = .ok (.aload_n 0, 1) := by decide +kernel
theorem dL_law_282 : decode cL_law 282 = .ok (.iload_n 3, 1) := by decide +kernel
theorem dL_law_283 : decode cL_law 283 = .ok (.iconst 4, 1) := by decide +kernel
theorem dL_law_284 : decode cL_law 284 = .ok (.iadd, 1) := by decide +kernel
theorem dL_law_285 : decode cL_law 285 = .ok (.iaload, 1) := by decide +kernel
theorem dL_law_286 : decode cL_law 286 = .ok (.invokevirtual 38, 3) := by decide +kernel
theorem dL_law_289 : decode cL_law 289 = .ok (.if_icmp .eq 285, 3) := by decide +kernel
theorem dL_law_292 : decode cL_law 292 = .ok (.iconst 0, 1) := by decide +kernel
theorem dL_law_293 : decode cL_law 293 = .ok (.ireturn, 1) := by decide +kernel
theorem dL_law_294 : decode cL_law 294 = .ok (.aload_n 1, 1) := by decide +kernel
theorem dL_law_295 : decode cL_law 295 = .ok (.aload_n 0, 1) := by decide +kernel
theorem dL_law_296 : decode cL_law 296 = .ok (.iload_n 3, 1) := by decide +kernel
theorem dL_law_297 : decode cL_law 297 = .ok (.iconst 1, 1) := by decide +kernel
theorem dL_law_298 : decode cL_law 298 = .ok (.iadd, 1) := by decide +kernel
theorem dL_law_299 : decode cL_law 299 = .ok (.iaload, 1) := by decide +kernel
theorem dL_law_300 : decode cL_law 300 = .ok (.aload_n 0, 1) := by decide +kernel
theorem dL_law_301 : decode cL_law 301 = .ok (.iload_n 3, 1) := by decide +kernel
theorem dL_law_302 : decode cL_law 302 = .ok (.iconst 2, 1) := by decide +kernel
theorem dL_law_303 : decode cL_law 303 = .ok (.iadd, 1) := by decide +kernel
theorem dL_law_304 : decode cL_law 304 = .ok (.iaload, 1) := by decide +kernel
theorem dL_law_305 : decode cL_law 305 = .ok (.aload_n 0, 1) := by decide +kernel
theorem dL_law_306 : decode cL_law 306 = .ok (.iload_n 3, 1) := by decide +kernel
theorem dL_law_307 : decode cL_law 307 = .ok (.iconst 3, 1) := by decide +kernel
theorem dL_law_308 : decode cL_law 308 = .ok (.iadd, 1) := by decide +kernel
theorem dL_law_309 : decode cL_law 309 = .ok (.iaload, 1) := by decide +kernel
theorem dL_law_310 : decode cL_law 310 = .ok (.invokevirtual 39, 3) := by decide +kernel
theorem dL_law_313 : decode cL_law 313 = .ok (.aload_n 2, 1) := by decide +kernel
theorem dL_law_314 : decode cL_law 314 = .ok (.aload_n 0, 1) := by decide +kernel
theorem dL_law_315 : decode cL_law 315 = .ok (.iload_n 3, 1) := by decide +kernel
theorem dL_law_316 : decode cL_law 316 = .ok (.iconst 1, 1) := by decide +kernel
theorem dL_law_317 : decode cL_law 317 = .ok (.iadd, 1) := by decide +kernel
theorem dL_law_318 : decode cL_law 318 = .ok (.iaload, 1) := by decide +kernel
theorem dL_law_319 : decode cL_law 319 = .ok (.aload_n 0, 1) := by decide +kernel
theorem dL_law_320 : decode cL_law 320 = .ok (.iload_n 3, 1) := by decide +kernel
theorem dL_law_321 : decode cL_law 321 = .ok (.iconst 2, 1) := by decide +kernel
theorem dL_law_322 : decode cL_law 322 = .ok (.iadd, 1) := by decide +kernel
theorem dL_law_323 : decode cL_law 323 = .ok (.iaload, 1) := by decide +kernel
theorem dL_law_324 : decode cL_law 324 = .ok (.aload_n 0, 1) := by decide +kernel
theorem dL_law_325 : decode cL_law 325 = .ok (.iload_n 3, 1) := by decide +kernel
theorem dL_law_326 : decode cL_law 326 = .ok (.iconst 3, 1) := by decide +kernel
theorem dL_law_327 : decode cL_law 327 = .ok (.iadd, 1) := by decide +kernel
theorem dL_law_328 : decode cL_law 328 = .ok (.iaload, 1) := by decide +kernel
theorem dL_law_329 : decode cL_law 329 = .ok (.invokevirtual 42, 3) := by decide +kernel
theorem dL_law_332 : decode cL_law 332 = .ok (.if_icmp .eq 242, 3) := by decide +kernel
theorem dL_law_335 : decode cL_law 335 = .ok (.iconst 0, 1) := by decide +kernel
theorem dL_law_336 : decode cL_law 336 = .ok (.ireturn, 1) := by decide +kernel
theorem dL_law_337 : decode cL_law 337 = .ok (.aload_n 1, 1) := by decide +kernel
theorem dL_law_338 : decode cL_law 338 = .ok (.aload_n 0, 1) := by decide +kernel
theorem dL_law_339 : decode cL_law 339 = .ok (.iload_n 3, 1) := by decide +kernel
theorem dL_law_340 : decode cL_law 340 = .ok (.iconst 1, 1) := by decide +kernel
theorem dL_law_341 : decode cL_law 341 = .ok (.iadd, 1) := by decide +kernel
theorem dL_law_342 : decode cL_law 342 = .ok (.iaload, 1) := by decide +kernel
theorem dL_law_343 : decode cL_law 343 = .ok (.aload_n 0, 1) := by decide +kernel
theorem dL_law_344 : decode cL_law 344 = .ok (.iload_n 3, 1) := by decide +kernel
theorem dL_law_345 : decode cL_law 345 = .ok (.iconst 2, 1) := by decide +kernel
theorem dL_law_346 : decode cL_law 346 = .ok (.iadd, 1) := by decide +kernel
theorem dL_law_347 : decode cL_law 347 = .ok (.iaload, 1) := by decide +kernel
theorem dL_law_348 : decode cL_law 348 = .ok (.aload_n 0, 1) := by decide +kernel
theorem dL_law_349 : decode cL_law 349 = .ok (.iload_n 3, 1) := by decide +kernel
theorem dL_law_350 : decode cL_law 350 = .ok (.iconst 3, 1) := by decide +kernel
theorem dL_law_351 : decode cL_law 351 = .ok (.iadd, 1) := by decide +kernel
theorem dL_law_352 : decode cL_law 352 = .ok (.iaload, 1) := by decide +kernel
theorem dL_law_353 : decode cL_law 353 = .ok (.invokevirtual 43, 3) := by decide +kernel
theorem dL_law_356 : decode cL_law 356 = .ok (.aload_n 2, 1) := by decide +kernel
theorem dL_law_357 : decode cL_law 357 = .ok (.aload_n 0, 1) := by decide +kernel
theorem dL_law_358 : decode cL_law 358 = .ok (.iload_n 3, 1) := by decide +kernel
theorem dL_law_359 : decode cL_law 359 = .ok (.iconst 1, 1) := by decide +kernel
theorem dL_law_360 : decode cL_law 360 = .ok (.iadd, 1) := by decide +kernel
theorem dL_law_361 : decode cL_law 361 = .ok (.iaload, 1) := by decide +kernel
theorem dL_law_362 : decode cL_law 362 = .ok (.aload_n 0, 1) := by decide +kernel
theorem dL_law_363 : decode cL_law 363 = .ok (.iload_n 3, 1) := by decide +kernel
theorem dL_law_364 : decode cL_law 364 = .ok (.iconst 2, 1) := by decide +kernel
theorem dL_law_365 : decode cL_law 365 = .ok (.iadd, 1) := by decide +kernel
theorem dL_law_366 : decode cL_law 366 = .ok (.iaload, 1) := by decide +kernel
theorem dL_law_367 : decode cL_law 367 = .ok (.aload_n 0, 1) := by decide +kernel
theorem dL_law_368 : decode cL_law 368 = .ok (.iload_n 3, 1) := by decide +kernel
theorem dL_law_369 : decode cL_law 369 = .ok (.iconst 3, 1) := by decide +kernel
theorem dL_law_370 : decode cL_law 370 = .ok (.iadd, 1) := by decide +kernel
theorem dL_law_371 : decode cL_law 371 = .ok (.iaload, 1) := by decide +kernel
theorem dL_law_372 : decode cL_law 372 = .ok (.invokevirtual 46, 3) := by decide +kernel
theorem dL_law_375 : decode cL_law 375 = .ok (.if_icmp .eq 199, 3) := by decide +kernel
theorem dL_law_378 : decode cL_law 378 = .ok (.iconst 0, 1) := by decide +kernel
theorem dL_law_379 : decode cL_law 379 = .ok (.ireturn, 1) := by decide +kernel
theorem dL_law_380 : decode cL_law 380 = .ok (.aload_n 1, 1) := by decide +kernel
theorem dL_law_381 : decode cL_law 381 = .ok (.aload_n 0, 1) := by decide +kernel
theorem dL_law_382 : decode cL_law 382 = .ok (.iload_n 3, 1) := by decide +kernel
theorem dL_law_383 : decode cL_law 383 = .ok (.iconst 1, 1) := by decide +kernel
theorem dL_law_384 : decode cL_law 384 = .ok (.iadd, 1) := by decide +kernel
theorem dL_law_385 : decode cL_law 385 = .ok (.iaload, 1) := by decide +kernel
theorem dL_law_386 : decode cL_law 386 = .ok (.invokevirtual 47, 3) := by decide +kernel
theorem dL_law_389 : decode cL_law 389 = .ok (.aload_n 2, 1) := by decide +kernel
theorem dL_law_390 : decode cL_law 390 = .ok (.aload_n 0, 1) := by decide +kernel
theorem dL_law_391 : decode cL_law 391 = .ok (.iload_n 3, 1) := by decide +kernel
theorem dL_law_392 : decode cL_law 392 = .ok (.iconst 1, 1) := by decide +kernel
theorem dL_law_393 : decode cL_law 393 = .ok (.iadd, 1) := by decide +kernel
theorem dL_law_394 : decode cL_law 394 = .ok (.iaload, 1) := by decide +kernel
theorem dL_law_395 : decode cL_law 395 = .ok (.invokevirtual 51, 3) := by decide +kernel
theorem dL_law_398 : decode cL_law 398 = .ok (.if_icmp .eq 176, 3) := by decide +kernel
theorem dL_law_401 : decode cL_law 401 = .ok (.iconst 0, 1) := by decide +kernel
theorem dL_law_402 : decode cL_law 402 = .ok (.ireturn, 1) := by decide +kernel
theorem dL_law_403 : decode cL_law 403 = .ok (.aload_n 1, 1) := by decide +kernel
theorem dL_law_404 : decode cL_law 404 = .ok (.aload_n 0, 1) := by decide +kernel
theorem dL_law_405 : decode cL_law 405 = .ok (.iload_n 3, 1) := by decide +kernel
theorem dL_law_406 : decode cL_law 406 = .ok (.iconst 1, 1) := by decide +kernel
theorem dL_law_407 : decode cL_law 407 = .ok (.iadd, 1) := by decide +kernel
theorem dL_law_408 : decode cL_law 408 = .ok (.iaload, 1) := by decide +kernel
theorem dL_law_409 : decode cL_law 409 = .ok (.aload_n 0, 1) := by decide +kernel
theorem dL_law_410 : decode cL_law 410 = .ok (.iload_n 3, 1) := by decide +kernel
theorem dL_law_411 : decode cL_law 411 = .ok (.iconst 2, 1) := by decide +kernel
theorem dL_law_412 : decode cL_law 412 = .ok (.iadd, 1) := by decide +kernel
theorem dL_law_413 : decode cL_law 413 = .ok (.iaload, 1) := by decide +kernel
theorem dL_law_414 : decode cL_law 414 = .ok (.aload_n 0, 1) := by decide +kernel
theorem dL_law_415 : decode cL_law 415 = .ok (.iload_n 3, 1) := by decide +kernel
theorem dL_law_416 : decode cL_law 416 = .ok (.iconst 3, 1) := by decide +kernel
theorem dL_law_417 : decode cL_law 417 = .ok (.iadd, 1) := by decide +kernel
theorem dL_law_418 : decode cL_law 418 = .ok (.iaload, 1) := by decide +kernel
theorem dL_law_419 : decode cL_law 419 = .ok (.invokevirtual 52, 3) := by decide +kernel
theorem dL_law_422 : decode cL_law 422 = .ok (.aload_n 2, 1) := by decide +kernel
theorem dL_law_423 : decode cL_law 423 = .ok (.aload_n 0, 1) := by decide +kernel
theorem dL_law_424 : decode cL_law 424 = .ok (.iload_n 3, 1) := by decide +kernel
theorem dL_law_425 : decode cL_law 425 = .ok (.iconst 1, 1) := by decide +kernel
theorem dL_law_426 : decode cL_law 426 = .ok (.iadd, 1) := by decide +kernel
theorem dL_law_427 : decode cL_law 427 = .ok (.iaload, 1) := by decide +kernel
theorem dL_law_428 : decode cL_law 428 = .ok (.aload_n 0, 1) := by decide +kernel
theorem dL_law_429 : decode cL_law 429 = .ok (.iload_n 3, 1) := by decide +kernel
theorem dL_law_430 : decode cL_law 430 = .ok (.iconst 2, 1) := by decide +kernel
theorem dL_law_431 : decode cL_law 431 = .ok (.iadd, 1) := by decide +kernel
theorem dL_law_432 : decode cL_law 432 = .ok (.iaload, 1) := by decide +kernel
theorem dL_law_433 : decode cL_law 433 = .ok (.aload_n 0, 1) := by decide +kernel
theorem dL_law_434 : decode cL_law 434 = .ok (.iload_n 3, 1) := by decide +kernel
theorem dL_law_435 : decode cL_law 435 = .ok (.iconst 3, 1) := by decide +kernel
theorem dL_law_436 : decode cL_law 436 = .ok (.iadd, 1) := by decide +kernel
theorem dL_law_437 : decode cL_law 437 = .ok (.iaload, 1) := by decide +kernel
theorem dL_law_438 : decode cL_law 438 = .ok (.invokevirtual 56, 3) := by decide +kernel
theorem dL_law_441 : decode cL_law 441 = .ok (.if_icmp .eq 133, 3) := by decide +kernel
theorem dL_law_444 : decode cL_law 444 = .ok (.iconst 0, 1) := by decide +kernel
theorem dL_law_445 : decode cL_law 445 = .ok (.ireturn, 1) := by decide +kernel
theorem dL_law_446 : decode cL_law 446 = .ok (.aload_n 1, 1) := by decide +kernel
theorem dL_law_447 : decode cL_law 447 = .ok (.invokevirtual 57, 3) := by decide +kernel
theorem dL_law_450 : decode cL_law 450 = .ok (.aload_n 2, 1) := by decide +kernel
theorem dL_law_451 : decode cL_law 451 = .ok (.invokevirtual 61, 3) := by decide +kernel
theorem dL_law_454 : decode cL_law 454 = .ok (.if_icmp .eq 120, 3) := by decide +kernel
theorem dL_law_457 : decode cL_law 457 = .ok (.iconst 0, 1) := by decide +kernel
theorem dL_law_458 : decode cL_law 458 = .ok (.ireturn, 1) := by decide +kernel
theorem dL_law_459 : decode cL_law 459 = .ok (.aload_n 1, 1) := by decide +kernel
theorem dL_law_460 : decode cL_law 460 = .ok (.invokevirtual 62, 3) := by decide +kernel
theorem dL_law_463 : decode cL_law 463 = .ok (.aload_n 2, 1) := by decide +kernel
theorem dL_law_464 : decode cL_law 464 = .ok (.invokevirtual 65, 3) := by decide +kernel
theorem dL_law_467 : decode cL_law 467 = .ok (.if_icmp .eq 107, 3) := by decide +kernel
theorem dL_law_470 : decode cL_law 470 = .ok (.iconst 0, 1) := by decide +kernel
theorem dL_law_471 : decode cL_law 471 = .ok (.ireturn, 1) := by decide +kernel
theorem dL_law_472 : decode cL_law 472 = .ok (.aload_n 1, 1) := by decide +kernel
theorem dL_law_473 : decode cL_law 473 = .ok (.aload_n 0, 1) := by decide +kernel
theorem dL_law_474 : decode cL_law 474 = .ok (.iload_n 3, 1) := by decide +kernel
theorem dL_law_475 : decode cL_law 475 = .ok (.iconst 1, 1) := by decide +kernel
theorem dL_law_476 : decode cL_law 476 = .ok (.iadd, 1) := by decide +kernel
theorem dL_law_477 : decode cL_law 477 = .ok (.iaload, 1) := by decide +kernel
theorem dL_law_478 : decode cL_law 478 = .ok (.invokevirtual 66, 3) := by decide +kernel
theorem dL_law_481 : decode cL_law 481 = .ok (.aload_n 2, 1) := by decide +kernel
theorem dL_law_482 : decode cL_law 482 = .ok (.aload_n 0, 1) := by decide +kernel
theorem dL_law_483 : decode cL_law 483 = .ok (.iload_n 3, 1) := by decide +kernel
theorem dL_law_484 : decode cL_law 484 = .ok (.iconst 1, 1) := by decide +kernel
theorem dL_law_485 : decode cL_law 485 = .ok (.iadd, 1) := by decide +kernel
theorem dL_law_486 : decode cL_law 486 = .ok (.iaload, 1) := by decide +kernel
theorem dL_law_487 : decode cL_law 487 = .ok (.invokevirtual 70, 3) := by decide +kernel
theorem dL_law_490 : decode cL_law 490 = .ok (.if_icmp .eq 84, 3) := by decide +kernel
theorem dL_law_493 : decode cL_law 493 = .ok (.iconst 0, 1) := by decide +kernel
theorem dL_law_494 : decode cL_law 494 = .ok (.ireturn, 1) := by decide +kernel
theorem dL_law_495 : decode cL_law 495 = .ok (.aload_n 1, 1) := by decide +kernel
theorem dL_law_496 : decode cL_law 496 = .ok (.invokevirtual 71, 3) := by decide +kernel
theorem dL_law_499 : decode cL_law 499 = .ok (.aload_n 2, 1) := by decide +kernel
theorem dL_law_500 : decode cL_law 500 = .ok (.invokevirtual 75, 3) := by decide +kernel
theorem dL_law_503 : decode cL_law 503 = .ok (.if_icmp .eq 71, 3) := by decide +kernel
theorem dL_law_506 : decode cL_law 506 = .ok (.iconst 0, 1) := by decide +kernel
theorem dL_law_507 : decode cL_law 507 = .ok (.ireturn, 1) := by decide +kernel
theorem dL_law_508 : decode cL_law 508 = .ok (.aload_n 1, 1) := by decide +kernel
theorem dL_law_509 : decode cL_law 509 = .ok (.invokevirtual 76, 3) := by decide +kernel
theorem dL_law_512 : decode cL_law 512 = .ok (.aload_n 2, 1) := by decide +kernel
theorem dL_law_513 : decode cL_law 513 = .ok (.invokevirtual 79, 3) := by decide +kernel
theorem dL_law_516 : decode cL_law 516 = .ok (.if_icmp .eq 58, 3) := by decide +kernel
theorem dL_law_519 : decode cL_law 519 = .ok (.iconst 0, 1) := by decide +kernel
theorem dL_law_520 : decode cL_law 520 = .ok (.ireturn, 1) := by decide +kernel
theorem dL_law_521 : decode cL_law 521 = .ok (.aload_n 1, 1) := by decide +kernel
theorem dL_law_522 : decode cL_law 522 = .ok (.aload_n 0, 1) := by decide +kernel
theorem dL_law_523 : decode cL_law 523 = .ok (.iload_n 3, 1) := by decide +kernel
theorem dL_law_524 : decode cL_law 524 = .ok (.iconst 1, 1) := by decide +kernel
theorem dL_law_525 : decode cL_law 525 = .ok (.iadd, 1) := by decide +kernel
theorem dL_law_526 : decode cL_law 526 = .ok (.iaload, 1) := by decide +kernel
theorem dL_law_527 : decode cL_law 527 = .ok (.aload_n 0, 1) := by decide +kernel
theorem dL_law_528 : decode cL_law 528 = .ok (.iload_n 3, 1) := by decide +kernel
theorem dL_law_529 : decode cL_law 529 = .ok (.iconst 2, 1) := by decide +kernel
theorem dL_law_530 : decode cL_law 530 = .ok (.iadd, 1) := by decide +kernel
theorem dL_law_531 : decode cL_law 531 = .ok (.iaload, 1) := by decide +kernel
theorem dL_law_532 : decode cL_law 532 = .ok (.aload_n 0, 1) := by decide +kernel
theorem dL_law_533 : decode cL_law 533 = .ok (.iload_n 3, 1) := by decide +kernel
theorem dL_law_534 : decode cL_law 534 = .ok (.iconst 3, 1) := by decide +kernel
theorem dL_law_535 : decode cL_law 535 = .ok (.iadd, 1) := by decide +kernel
theorem dL_law_536 : decode cL_law 536 = .ok (.iaload, 1) := by decide +kernel
theorem dL_law_537 : decode cL_law 537 = .ok (.aload_n 0, 1) := by decide +kernel
theorem dL_law_538 : decode cL_law 538 = .ok (.iload_n 3, 1) := by decide +kernel
theorem dL_law_539 : decode cL_law 539 = .ok (.iconst 4, 1) := by decide +kernel
theorem dL_law_540 : decode cL_law 540 = .ok (.iadd, 1) := by decide +kernel
theorem dL_law_541 : decode cL_law 541 = .ok (.iaload, 1) := by decide +kernel
theorem dL_law_542 : decode cL_law 542 = .ok (.invokevirtual 80, 3) := by decide +kernel
theorem dL_law_545 : decode cL_law 545 = .ok (.aload_n 2, 1) := by decide +kernel
theorem dL_law_546 : decode cL_law 546 = .ok (.aload_n 0, 1) := by decide +kernel
theorem dL_law_547 : decode cL_law 547 = .ok (.iload_n 3, 1) := by decide +kernel
theorem dL_law_548 : decode cL_law 548 = .ok (.iconst 1, 1) := by decide +kernel
theorem dL_law_549 : decode cL_law 549 = .ok (.iadd, 1) := by decide +kernel
theorem dL_law_550 : decode cL_law 550 = .ok (.iaload, 1) := by decide +kernel
theorem dL_law_551 : decode cL_law 551 = .ok (.aload_n 0, 1) := by decide +kernel
theorem dL_law_552 : decode cL_law 552 = .ok (.iload_n 3, 1) := by decide +kernel
theorem dL_law_553 : decode cL_law 553 = .ok (.iconst 2, 1) := by decide +kernel
theorem dL_law_554 : decode cL_law 554 = .ok (.iadd, 1) := by decide +kernel
theorem dL_law_555 : decode cL_law 555 = .ok (.iaload, 1) := by decide +kernel
theorem dL_law_556 : decode cL_law 556 = .ok (.aload_n 0, 1) := by decide +kernel
theorem dL_law_557 : decode cL_law 557 = .ok (.iload_n 3, 1) := by decide +kernel
theorem dL_law_558 : decode cL_law 558 = .ok (.iconst 3, 1) := by decide +kernel
theorem dL_law_559 : decode cL_law 559 = .ok (.iadd, 1) := by decide +kernel
theorem dL_law_560 : decode cL_law 560 = .ok (.iaload, 1) := by decide +kernel
theorem dL_law_561 : decode cL_law 561 = .ok (.aload_n 0, 1) := by decide +kernel
theorem dL_law_562 : decode cL_law 562 = .ok (.iload_n 3, 1) := by decide +kernel
theorem dL_law_563 : decode cL_law 563 = .ok (.iconst 4, 1) := by decide +kernel
theorem dL_law_564 : decode cL_law 564 = .ok (.iadd, 1) := by decide +kernel
theorem dL_law_565 : decode cL_law 565 = .ok (.iaload, 1) := by decide +kernel
theorem dL_law_566 : decode cL_law 566 = .ok (.invokevirtual 83, 3) := by decide +kernel
theorem dL_law_569 : decode cL_law 569 = .ok (.if_icmp .eq 5, 3) := by decide +kernel
theorem dL_law_572 : decode cL_law 572 = .ok (.iconst 0, 1) := by decide +kernel
theorem dL_law_573 : decode cL_law 573 = .ok (.ireturn, 1) := by decide +kernel
theorem dL_law_574 : decode cL_law 574 = .ok (.iinc 3 5, 3) := by decide +kernel
theorem dL_law_577 : decode cL_law 577 = .ok (.goto (-549), 3) := by decide +kernel
theorem dL_law_580 : decode cL_law 580 = .ok (.iconst 1, 1) := by decide +kernel
theorem dL_law_581 : decode cL_law 581 = .ok (.ireturn, 1) := by decide +kernel
abbrev vwCl : List vw_C := [(RX0, TX0, 6), (RX1, TX1, 4)]
end
section
abbrev cX1_has : ByteArray := prog_3_method_11_code
def yX1_has : MethodName := ⟨RX1, "has", "(III)I"⟩
abbrev cX1_first : ByteArray := prog_3_method_12_code
def yX1_first : MethodName := ⟨RX1, "first", "(JI)J"⟩
abbrev cX1_beginning : ByteArray := prog_3_method_13_code
def yX1_beginning : MethodName := ⟨RX1, "beginning", "(IIII)J"⟩
abbrev cX1_count : ByteArray := prog_3_method_14_code
def yX1_count : MethodName := ⟨RX1, "count", "(IIII)I"⟩
abbrev cX1_different : ByteArray := prog_3_method_15_code
def yX1_different : MethodName := ⟨RX1, "different", "(III)I"⟩
abbrev cX1_rank : ByteArray := prog_3_method_16_code
def yX1_rank : MethodName := ⟨RX1, "rank", "(III)I"⟩
abbrev cX1_stand : ByteArray := prog_3_method_17_code
def yX1_stand : MethodName := ⟨RX1, "stand", "(I)Z"⟩
abbrev cX1_choose : ByteArray := prog_3_method_18_code
def yX1_choose : MethodName := ⟨RX1, "choose", "(I)Z"⟩
abbrev cX1_seek : ByteArray := prog_3_method_19_code
def yX1_seek : MethodName := ⟨RX1, "seek", "(III)Z"⟩
abbrev cX1_next : ByteArray := prog_3_method_20_code
def yX1_next : MethodName := ⟨RX1, "next", "()Z"⟩
abbrev cX1_previous : ByteArray := prog_3_method_21_code
def yX1_previous : MethodName := ⟨RX1, "previous", "()Z"⟩
abbrev cX1_number : ByteArray := prog_3_method_22_code
def yX1_number : MethodName := ⟨RX1, "number", "(I)I"⟩
abbrev cX1_placeOf : ByteArray := prog_3_method_23_code
def yX1_placeOf : MethodName := ⟨RX1, "placeOf", "(I)I"⟩
abbrev cX1_told : ByteArray := prog_3_method_24_code
def yX1_told : MethodName := ⟨RX1, "told", "(I)I"⟩
abbrev cX1_stands : ByteArray := prog_3_method_25_code
def yX1_stands : MethodName := ⟨RX1, "stands", "()I"⟩
abbrev cX1_size : ByteArray := prog_3_method_26_code
def yX1_size : MethodName := ⟨RX1, "size", "()I"⟩
abbrev cX1_cut : ByteArray := prog_3_method_27_code
def yX1_cut : MethodName := ⟨RX1, "cut", "(IIII)I"⟩
def wsX1_has : List Cond := .code yX1_has cX1_has 6 (some .int) :: ([.methodLink RX1 43 yX1_areNumbers, .static yX1_areNumbers, .initialized RX1, .code yX1_areNumbers cX1_areNumbers 4 (some .boolean), .methodLink RX1 30 yX1_isNumber, .static yX1_isNumber, .code yX1_isNumber cX1_isNumber 1 (some .boolean), .constant RX1 29 (1048576), .methodLink RX1 47 yX1_key, .instanceMethod yX1_key, .selects RX1 yX1_key yX1_key, .code yX1_key cX1_key 4 (some .long), .fieldLink RX1 25 "PageIndexModel" "order" "I", .methodLink RX1 36 yX1_packed, .static yX1_packed, .code yX1_packed cX1_packed 6 (some .long), .constantLong RX1 34 (1048576), .methodLink RX1 51 yX1_below, .instanceMethod yX1_below, .selects RX1 yX1_below yX1_below, .code yX1_below cX1_below 4 (some .int), .fieldLink RX1 40 "PageIndexModel" "size" "I", .fieldLink RX1 7 "PageIndexModel" "keys" "[J", .methodLink RX1 55 yX1_isThere, .instanceMethod yX1_isThere, .selects RX1 yX1_isThere yX1_isThere, .code yX1_isThere cX1_isThere 4 (some .boolean)] ++ wsX10)
def wsX1_first : List Cond := .code yX1_first cX1_first 5 (some .long) :: ([.constantLong RX1 63 (1152921504606846976), .constantLong RX1 65 (1099511627776), .constantLong RX1 34 (1048576)])
def wsX1_beginning : List Cond := .code yX1_beginning cX1_beginning 4 (some .long) :: ([.methodLink RX1 36 yX1_packed, .static yX1_packed, .initialized RX1, .code yX1_packed cX1_packed 6 (some .long), .constantLong RX1 34 (1048576)])
def wsX1_count : List Cond := .code yX1_count cX1_count 9 (some .int) :: ([.methodLink RX1 43 yX1_areNumbers, .static yX1_areNumbers, .initialized RX1, .code yX1_areNumbers cX1_areNumbers 4 (some .boolean), .methodLink RX1 30 yX1_isNumber, .static yX1_isNumber, .code yX1_isNumber cX1_isNumber 1 (some .boolean), .constant RX1 29 (1048576), .methodLink RX1 67 yX1_beginning, .static yX1_beginning, .code yX1_beginning cX1_beginning 4 (some .long), .methodLink RX1 36 yX1_packed, .static yX1_packed, .code yX1_packed cX1_packed 6 (some .long), .constantLong RX1 34 (1048576), .fieldLink RX1 40 "PageIndexModel" "size" "I", .fieldLink RX1 7 "PageIndexModel" "keys" "[J", .methodLink RX1 71 yX1_first, .static yX1_first, .code yX1_first cX1_first 5 (some .long), .constantLong RX1 63 (1152921504606846976), .constantLong RX1 65 (1099511627776)] ++ wsX10)
def wsX1_different : List Cond := .code yX1_different cX1_different 12 (some .int) :: ([.methodLink RX1 43 yX1_areNumbers, .static yX1_areNumbers, .initialized RX1, .code yX1_areNumbers cX1_areNumbers 4 (some .boolean), .methodLink RX1 30 yX1_isNumber, .static yX1_isNumber, .code yX1_isNumber cX1_isNumber 1 (some .boolean), .constant RX1 29 (1048576), .methodLink RX1 67 yX1_beginning, .static yX1_beginning, .code yX1_beginning cX1_beginning 4 (some .long), .methodLink RX1 36 yX1_packed, .static yX1_packed, .code yX1_packed cX1_packed 6 (some .long), .constantLong RX1 34 (1048576), .constantLong RX1 13 (-1), .fieldLink RX1 40 "PageIndexModel" "size" "I", .fieldLink RX1 7 "PageIndexModel" "keys" "[J", .methodLink RX1 71 yX1_first, .static yX1_first, .code yX1_first cX1_first 5 (some .long), .constantLong RX1 63 (1152921504606846976), .constantLong RX1 65 (1099511627776)] ++ wsX10)
def wsX1_rank : List Cond := .code yX1_rank cX1_rank 4 (some .int) :: ([.methodLink RX1 43 yX1_areNumbers, .static yX1_areNumbers, .initialized RX1, .code yX1_areNumbers cX1_areNumbers 4 (some .boolean), .methodLink RX1 30 yX1_isNumber, .static yX1_isNumber, .code yX1_isNumber cX1_isNumber 1 (some .boolean), .constant RX1 29 (1048576), .methodLink RX1 36 yX1_packed, .static yX1_packed, .code yX1_packed cX1_packed 6 (some .long), .constantLong RX1 34 (1048576), .methodLink RX1 51 yX1_below, .instanceMethod yX1_below, .selects RX1 yX1_below yX1_below, .code yX1_below cX1_below 4 (some .int), .fieldLink RX1 40 "PageIndexModel" "size" "I", .fieldLink RX1 7 "PageIndexModel" "keys" "[J"] ++ wsX10)
def wsX1_stand : List Cond := .code yX1_stand cX1_stand 3 (some .boolean) :: ([.fieldLink RX1 40 "PageIndexModel" "size" "I", .fieldLink RX1 7 "PageIndexModel" "keys" "[J", .constantLong RX1 13 (-1), .fieldLink RX1 15 "PageIndexModel" "cursor" "J"] ++ wsX10)
def wsX1_choose : List Cond := .code yX1_choose cX1_choose 2 (some .boolean) :: ([.methodLink RX1 75 yX1_stand, .instanceMethod yX1_stand, .selects RX1 yX1_stand yX1_stand, .initialized RX1, .code yX1_stand cX1_stand 3 (some .boolean), .fieldLink RX1 40 "PageIndexModel" "size" "I", .fieldLink RX1 7 "PageIndexModel" "keys" "[J", .constantLong RX1 13 (-1), .fieldLink RX1 15 "PageIndexModel" "cursor" "J"] ++ wsX10)
def wsX1_seek : List Cond := .code yX1_seek cX1_seek 4 (some .boolean) :: ([.methodLink RX1 43 yX1_areNumbers, .static yX1_areNumbers, .initialized RX1, .code yX1_areNumbers cX1_areNumbers 4 (some .boolean), .methodLink RX1 30 yX1_isNumber, .static yX1_isNumber, .code yX1_isNumber cX1_isNumber 1 (some .boolean), .constant RX1 29 (1048576), .methodLink RX1 36 yX1_packed, .static yX1_packed, .code yX1_packed cX1_packed 6 (some .long), .constantLong RX1 34 (1048576), .methodLink RX1 51 yX1_below, .instanceMethod yX1_below, .selects RX1 yX1_below yX1_below, .code yX1_below cX1_below 4 (some .int), .fieldLink RX1 40 "PageIndexModel" "size" "I", .fieldLink RX1 7 "PageIndexModel" "keys" "[J", .methodLink RX1 75 yX1_stand, .instanceMethod yX1_stand, .selects RX1 yX1_stand yX1_stand, .code yX1_stand cX1_stand 3 (some .boolean), .constantLong RX1 13 (-1), .fieldLink RX1 15 "PageIndexModel" "cursor" "J"] ++ wsX10)
def wsX1_next : List Cond := .code yX1_next cX1_next 1 (some .boolean) :: ([.fieldLink RX1 15 "PageIndexModel" "cursor" "J", .methodLink RX1 51 yX1_below, .instanceMethod yX1_below, .selects RX1 yX1_below yX1_below, .initialized RX1, .code yX1_below cX1_below 4 (some .int), .fieldLink RX1 40 "PageIndexModel" "size" "I", .fieldLink RX1 7 "PageIndexModel" "keys" "[J", .methodLink RX1 75 yX1_stand, .instanceMethod yX1_stand, .selects RX1 yX1_stand yX1_stand, .code yX1_stand cX1_stand 3 (some .boolean), .constantLong RX1 13 (-1)] ++ wsX10)
def wsX1_previous : List Cond := .code yX1_previous cX1_previous 1 (some .boolean) :: ([.fieldLink RX1 15 "PageIndexModel" "cursor" "J", .constantLong RX1 13 (-1), .fieldLink RX1 40 "PageIndexModel" "size" "I", .methodLink RX1 51 yX1_below, .instanceMethod yX1_below, .selects RX1 yX1_below yX1_below, .initialized RX1, .code yX1_below cX1_below 4 (some .int), .fieldLink RX1 7 "PageIndexModel" "keys" "[J", .methodLink RX1 75 yX1_stand, .instanceMethod yX1_stand, .selects RX1 yX1_stand yX1_stand, .code yX1_stand cX1_stand 3 (some .boolean)] ++ wsX10)
def wsX1_number : List Cond := .code yX1_number cX1_number 2 (some .int) :: ([.fieldLink RX1 15 "PageIndexModel" "cursor" "J", .constantLong RX1 34 (1048576)] ++ wsX10)
def wsX1_placeOf : List Cond := .code yX1_placeOf cX1_placeOf 2 (some .int) :: ([.fieldLink RX1 25 "PageIndexModel" "order" "I"] ++ wsX10)
def wsX1_told : List Cond := .code yX1_told cX1_told 2 (some .int) :: ([.fieldLink RX1 15 "PageIndexModel" "cursor" "J", .constantLong RX1 13 (-1), .methodLink RX1 78 yX1_number, .instanceMethod yX1_number, .selects RX1 yX1_number yX1_number, .initialized RX1, .code yX1_number cX1_number 2 (some .int), .constantLong RX1 34 (1048576), .methodLink RX1 82 yX1_placeOf, .instanceMethod yX1_placeOf, .selects RX1 yX1_placeOf yX1_placeOf, .code yX1_placeOf cX1_placeOf 2 (some .int), .fieldLink RX1 25 "PageIndexModel" "order" "I"] ++ wsX10)
def wsX1_stands : List Cond := .code yX1_stands cX1_stands 1 (some .int) :: ([.fieldLink RX1 15 "PageIndexModel" "cursor" "J", .constantLong RX1 13 (-1), .methodLink RX1 51 yX1_below, .instanceMethod yX1_below, .selects RX1 yX1_below yX1_below, .initialized RX1, .code yX1_below cX1_below 4 (some .int), .fieldLink RX1 40 "PageIndexModel" "size" "I", .fieldLink RX1 7 "PageIndexModel" "keys" "[J", .methodLink RX1 55 yX1_isThere, .instanceMethod yX1_isThere, .selects RX1 yX1_isThere yX1_isThere, .code yX1_isThere cX1_isThere 4 (some .boolean)] ++ wsX10)
def wsX1_size : List Cond := .code yX1_size cX1_size 1 (some .int) :: ([.fieldLink RX1 40 "PageIndexModel" "size" "I"] ++ wsX10)
def wsX1_cut : List Cond := .code yX1_cut cX1_cut 9 (some .int) :: ([.methodLink RX1 43 yX1_areNumbers, .static yX1_areNumbers, .initialized RX1, .code yX1_areNumbers cX1_areNumbers 4 (some .boolean), .methodLink RX1 30 yX1_isNumber, .static yX1_isNumber, .code yX1_isNumber cX1_isNumber 1 (some .boolean), .constant RX1 29 (1048576), .methodLink RX1 67 yX1_beginning, .static yX1_beginning, .code yX1_beginning cX1_beginning 4 (some .long), .methodLink RX1 36 yX1_packed, .static yX1_packed, .code yX1_packed cX1_packed 6 (some .long), .constantLong RX1 34 (1048576), .fieldLink RX1 40 "PageIndexModel" "size" "I", .fieldLink RX1 7 "PageIndexModel" "keys" "[J", .methodLink RX1 71 yX1_first, .static yX1_first, .code yX1_first cX1_first 5 (some .long), .constantLong RX1 63 (1152921504606846976), .constantLong RX1 65 (1099511627776)] ++ wsX10)
set_option maxRecDepth 20000 in
theorem gX1_has_X1_areNumbers : GoodIn wsX1_has (va_wsS RX1 43 yX1_areNumbers wsX1_areNumbers) := goodIn_p _ [4, 7] (by decide +kernel) (by decide +kernel)
set_option maxRecDepth 20000 in
theorem gX1_has_X1_key : GoodIn wsX1_has (wsV RX1 47 RX1 yX1_key wsX1_key) := goodIn_p _ [12, 16] (by decide +kernel) (by decide +kernel)
set_option maxRecDepth 20000 in
theorem gX1_has_X1_below : GoodIn wsX1_has (wsV RX1 51 RX1 yX1_below wsX1_below) := goodIn_p _ [21] (by decide +kernel) (by decide +kernel)
set_option maxRecDepth 20000 in
theorem gX1_has_X1_isThere : GoodIn wsX1_has (wsV RX1 55 RX1 yX1_isThere wsX1_isThere) := goodIn_p _ [27] (by decide +kernel) (by decide +kernel)
theorem dX1_has_0 : decode cX1_has 0 = .ok (.iconst 3, 1) := by decide +kernel
theorem dX1_has_1 : decode cX1_has 1 = .ok (.iload_n 1, 1) := by decide +kernel
theorem dX1_has_2 : decode cX1_has 2 = .ok (.iload_n 2, 1) := by decide +kernel
theorem dX1_has_3 : decode cX1_has 3 = .ok (.iload_n 3, 1) := by decide +kernel
theorem dX1_has_4 : decode cX1_has 4 = .ok (.invokestatic 43, 3) := by decide +kernel
theorem dX1_has_7 : decode cX1_has 7 = .ok (.ifCond .ne 5, 3) := by decide +kernel
theorem dX1_has_10 : decode cX1_has 10 = .ok (.iconst (-1), 1) := by decide +kernel
theorem dX1_has_11 : decode cX1_has 11 = .ok (.ireturn, 1) := by decide +kernel
theorem dX1_has_12 : decode cX1_has 12 = .ok (.aload_n 0, 1) := by decide +kernel
theorem dX1_has_13 : decode cX1_has 13 = .ok (.iload_n 1, 1) := by decide +kernel
theorem dX1_has_14 : decode cX1_has 14 = .ok (.iload_n 2, 1) := by decide +kernel
theorem dX1_has_15 : decode cX1_has 15 = .ok (.iload_n 3, 1) := by decide +kernel
theorem dX1_has_16 : decode cX1_has 16 = .ok (.invokevirtual 47, 3) := by decide +kernel
theorem dX1_has_19 : decode cX1_has 19 = .ok (.lstore 4, 2) := by decide +kernel
theorem dX1_has_21 : decode cX1_has 21 = .ok (.aload_n 0, 1) := by decide +kernel
theorem dX1_has_22 : decode cX1_has 22 = .ok (.aload_n 0, 1) := by decide +kernel
theorem dX1_has_23 : decode cX1_has 23 = .ok (.lload 4, 2) := by decide +kernel
theorem dX1_has_25 : decode cX1_has 25 = .ok (.invokevirtual 51, 3) := by decide +kernel
theorem dX1_has_28 : decode cX1_has 28 = .ok (.lload 4, 2) := by decide +kernel
theorem dX1_has_30 : decode cX1_has 30 = .ok (.invokevirtual 55, 3) := by decide +kernel
theorem dX1_has_33 : decode cX1_has 33 = .ok (.ifCond .eq 7, 3) := by decide +kernel
theorem dX1_has_36 : decode cX1_has 36 = .ok (.iconst 1, 1) := by decide +kernel
theorem dX1_has_37 : decode cX1_has 37 = .ok (.goto 4, 3) := by decide +kernel
theorem dX1_has_40 : decode cX1_has 40 = .ok (.iconst 0, 1) := by decide +kernel
theorem dX1_has_41 : decode cX1_has 41 = .ok (.ireturn, 1) := by decide +kernel
theorem dX1_first_0 : decode cX1_first 0 = .ok (.iload_n 2, 1) := by decide +kernel
theorem dX1_first_1 : decode cX1_first 1 = .ok (.ifCond .ne 9, 3) := by decide +kernel
theorem dX1_first_4 : decode cX1_first 4 = .ok (.ldc2_w 63, 3) := by decide +kernel
theorem dX1_first_7 : decode cX1_first 7 = .ok (.goto 26, 3) := by decide +kernel
theorem dX1_first_10 : decode cX1_first 10 = .ok (.iload_n 2, 1) := by decide +kernel
theorem dX1_first_11 : decode cX1_first 11 = .ok (.iconst 1, 1) := by decide +kernel
theorem dX1_first_12 : decode cX1_first 12 = .ok (.if_icmp .ne 9, 3) := by decide +kernel
theorem dX1_first_15 : decode cX1_first 15 = .ok (.ldc2_w 65, 3) := by decide +kernel
theorem dX1_first_18 : decode cX1_first 18 = .ok (.goto 15, 3) := by decide +kernel
theorem dX1_first_21 : decode cX1_first 21 = .ok (.iload_n 2, 1) := by decide +kernel
theorem dX1_first_22 : decode cX1_first 22 = .ok (.iconst 2, 1) := by decide +kernel
theorem dX1_first_23 : decode cX1_first 23 = .ok (.if_icmp .ne 9, 3) := by decide +kernel
theorem dX1_first_26 : decode cX1_first 26 = .ok (.ldc2_w 34, 3) := by decide +kernel
theorem dX1_first_29 : decode cX1_first 29 = .ok (.goto 4, 3) := by decide +kernel
theorem dX1_first_32 : decode cX1_first 32 = .ok (.lconst 1, 1) := by decide +kernel
theorem dX1_first_33 : decode cX1_first 33 = .ok (.lstore_n 3, 1) := by decide +kernel
theorem dX1_first_34 : decode cX1_first 34 = .ok (.iload_n 2, 1) := by decide +kernel
theorem dX1_first_35 : decode cX1_first 35 = .ok (.ifCond .ne 7, 3) := by decide +kernel
theorem dX1_first_38 : decode cX1_first 38 = .ok (.lconst 0, 1) := by decide +kernel
theorem dX1_first_39 : decode cX1_first 39 = .ok (.goto 8, 3) := by decide +kernel
theorem dX1_first_42 : decode cX1_first 42 = .ok (.lload_n 0, 1) := by decide +kernel
theorem dX1_first_43 : decode cX1_first 43 = .ok (.lload_n 0, 1) := by decide +kernel
theorem dX1_first_44 : decode cX1_first 44 = .ok (.lload_n 3, 1) := by decide +kernel
theorem dX1_first_45 : decode cX1_first 45 = .ok (.lrem, 1) := by decide +kernel
theorem dX1_first_46 : decode cX1_first 46 = .ok (.lsub, 1) := by decide +kernel
theorem dX1_first_47 : decode cX1_first 47 = .ok (.lreturn, 1) := by decide +kernel
set_option maxRecDepth 20000 in
theorem gX1_beginning_X1_packed : GoodIn wsX1_beginning (va_wsS RX1 36 yX1_packed wsX1_packed) := goodIn_p _ [4] (by decide +kernel) (by decide +kernel)
theorem dX1_beginning_0 : decode cX1_beginning 0 = .ok (.iload_n 0, 1) := by decide +kernel
theorem dX1_beginning_1 : decode cX1_beginning 1 = .ok (.ifCond .le 8, 3) := by decide +kernel
theorem dX1_beginning_4 : decode cX1_beginning 4 = .ok (.iload_n 1, 1) := by decide +kernel
theorem dX1_beginning_5 : decode cX1_beginning 5 = .ok (.i2l, 1) := by decide +kernel
theorem dX1_beginning_6 : decode cX1_beginning 6 = .ok (.goto 4, 3) := by decide +kernel
theorem dX1_beginning_9 : decode cX1_beginning 9 = .ok (.lconst 0, 1) := by decide +kernel
theorem dX1_beginning_10 : decode cX1_beginning 10 = .ok (.iload_n 0, 1) := by decide +kernel
theorem dX1_beginning_11 : decode cX1_beginning 11 = .ok (.iconst 1, 1) := by decide +kernel
theorem dX1_beginning_12 : decode cX1_beginning 12 = .ok (.if_icmp .le 8, 3) := by decide +kernel
theorem dX1_beginning_15 : decode cX1_beginning 15 = .ok (.iload_n 2, 1) := by decide +kernel
theorem dX1_beginning_16 : decode cX1_beginning 16 = .ok (.i2l, 1) := by decide +kernel
theorem dX1_beginning_17 : decode cX1_beginning 17 = .ok (.goto 4, 3) := by decide +kernel
theorem dX1_beginning_20 : decode cX1_beginning 20 = .ok (.lconst 0, 1) := by decide +kernel
theorem dX1_beginning_21 : decode cX1_beginning 21 = .ok (.iload_n 0, 1) := by decide +kernel
theorem dX1_beginning_22 : decode cX1_beginning 22 = .ok (.iconst 2, 1) := by decide +kernel
theorem dX1_beginning_23 : decode cX1_beginning 23 = .ok (.if_icmp .le 8, 3) := by decide +kernel
theorem dX1_beginning_26 : decode cX1_beginning 26 = .ok (.iload_n 3, 1) := by decide +kernel
theorem dX1_beginning_27 : decode cX1_beginning 27 = .ok (.i2l, 1) := by decide +kernel
theorem dX1_beginning_28 : decode cX1_beginning 28 = .ok (.goto 4, 3) := by decide +kernel
theorem dX1_beginning_31 : decode cX1_beginning 31 = .ok (.lconst 0, 1) := by decide +kernel
theorem dX1_beginning_32 : decode cX1_beginning 32 = .ok (.invokestatic 36, 3) := by decide +kernel
theorem dX1_beginning_35 : decode cX1_beginning 35 = .ok (.lreturn, 1) := by decide +kernel
set_option maxRecDepth 20000 in
theorem gX1_count_X1_areNumbers : GoodIn wsX1_count (va_wsS RX1 43 yX1_areNumbers wsX1_areNumbers) := goodIn_p _ [4, 7] (by decide +kernel) (by decide +kernel)
set_option maxRecDepth 20000 in
theorem gX1_count_X1_beginning : GoodIn wsX1_count (va_wsS RX1 67 yX1_beginning wsX1_beginning) := goodIn_p _ [11, 14] (by decide +kernel) (by decide +kernel)
set_option maxRecDepth 20000 in
theorem gX1_count_X1_first : GoodIn wsX1_count (va_wsS RX1 71 yX1_first wsX1_first) := goodIn_p _ [20] (by decide +kernel) (by decide +kernel)
theorem dX1_count_0 : decode cX1_count 0 = .ok (.iload_n 1, 1) := by decide +kernel
theorem dX1_count_1 : decode cX1_count 1 = .ok (.ifCond .lt 8, 3) := by decide +kernel
theorem dX1_count_4 : decode cX1_count 4 = .ok (.iload_n 1, 1) := by decide +kernel
theorem dX1_count_5 : decode cX1_count 5 = .ok (.iconst 3, 1) := by decide +kernel
theorem dX1_count_6 : decode cX1_count 6 = .ok (.if_icmp .le 5, 3) := by decide +kernel
theorem dX1_count_9 : decode cX1_count 9 = .ok (.iconst (-1), 1) := by decide +kernel
theorem dX1_count_10 : decode cX1_count 10 = .ok (.ireturn, 1) := by decide +kernel
theorem dX1_count_11 : decode cX1_count 11 = .ok (.iload_n 1, 1) := by decide +kernel
theorem dX1_count_12 : decode cX1_count 12 = .ok (.iload_n 2, 1) := by decide +kernel
theorem dX1_count_13 : decode cX1_count 13 = .ok (.iload_n 3, 1) := by decide +kernel
theorem dX1_count_14 : decode cX1_count 14 = .ok (.iload 4, 2) := by decide +kernel
theorem dX1_count_16 : decode cX1_count 16 = .ok (.invokestatic 43, 3) := by decide +kernel
theorem dX1_count_19 : decode cX1_count 19 = .ok (.ifCond .ne 5, 3) := by decide +kernel
theorem dX1_count_22 : decode cX1_count 22 = .ok (.iconst 0, 1) := by decide +kernel
theorem dX1_count_23 : decode cX1_count 23 = .ok (.ireturn, 1) := by decide +kernel
theorem dX1_count_24 : decode cX1_count 24 = .ok (.iload_n 1, 1) := by decide +kernel
theorem dX1_count_25 : decode cX1_count 25 = .ok (.iload_n 2, 1) := by decide +kernel
theorem dX1_count_26 : decode cX1_count 26 = .ok (.iload_n 3, 1) := by decide +kernel
theorem dX1_count_27 : decode cX1_count 27 = .ok (.iload 4, 2) := by decide +kernel
theorem dX1_count_29 : decode cX1_count 29 = .ok (.invokestatic 67, 3) := by decide +kernel
theorem dX1_count_32 : decode cX1_count 32 = .ok (.lstore 5, 2) := by decide +kernel
theorem dX1_count_34 : decode cX1_count 34 = .ok (.iconst 0, 1) := by decide +kernel
theorem dX1_count_35 : decode cX1_count 35 = .ok (.istore 7, 2) := by decide +kernel
theorem dX1_count_37 : decode cX1_count 37 = .ok (.iconst 0, 1) := by decide +kernel
theorem dX1_count_38 : decode cX1_count 38 = .ok (.istore 8, 2) := by decide +kernel
theorem dX1_count_40 : decode cX1_count 40 = .ok (.iload 8, 2) := by decide +kernel
theorem dX1_count_42 : decode cX1_count 42 = .ok (.aload_n 0, 1) := by decide +kernel
theorem dX1_count_43 : decode cX1_count 43 = .ok (.getfield 40, 3) := by decide +kernel
theorem dX1_count_46 : decode cX1_count 46 = .ok (.if_icmp .ge 36, 3) := by decide +kernel
theorem dX1_count_49 : decode cX1_count 49 = .ok (.iload 7, 2) := by decide +kernel
theorem dX1_count_51 : decode cX1_count 51 = .ok (.aload_n 0, 1) := by decide +kernel
theorem dX1_count_52 : decode cX1_count 52 = .ok (.getfield 7, 3) := by decide +kernel
theorem dX1_count_55 : decode cX1_count 55 = .ok (.iload 8, 2) := by decide +kernel
theorem dX1_count_57 : decode cX1_count 57 = .ok (.laload, 1) := by decide +kernel
theorem dX1_count_58 : decode cX1_count 58 = .ok (.iload_n 1, 1) := by decide +kernel
theorem dX1_count_59 : decode cX1_count 59 = .ok (.invokestatic 71, 3) := by decide +kernel
theorem dX1_count_62 : decode cX1_count 62 = .ok (.lload 5, 2) := by decide +kernel
theorem dX1_count_64 : decode cX1_count 64 = .ok (.lcmp, 1) := by decide +kernel
theorem dX1_count_65 : decode cX1_count 65 = .ok (.ifCond .ne 7, 3) := by decide +kernel
theorem dX1_count_68 : decode cX1_count 68 = .ok (.iconst 1, 1) := by decide +kernel
theorem dX1_count_69 : decode cX1_count 69 = .ok (.goto 4, 3) := by decide +kernel
theorem dX1_count_72 : decode cX1_count 72 = .ok (.iconst 0, 1) := by decide +kernel
theorem dX1_count_73 : decode cX1_count 73 = .ok (.iadd, 1) := by decide +kernel
theorem dX1_count_74 : decode cX1_count 74 = .ok (.istore 7, 2) := by decide +kernel
theorem dX1_count_76 : decode cX1_count 76 = .ok (.iinc 8 1, 3) := by decide +kernel
theorem dX1_count_79 : decode cX1_count 79 = .ok (.goto (-39), 3) := by decide +kernel
theorem dX1_count_82 : decode cX1_count 82 = .ok (.iload 7, 2) := by decide +kernel
theorem dX1_count_84 : decode cX1_count 84 = .ok (.ireturn, 1) := by decide +kernel
set_option maxRecDepth 20000 in
theorem gX1_different_X1_areNumbers : GoodIn wsX1_different (va_wsS RX1 43 yX1_areNumbers wsX1_areNumbers) := goodIn_p _ [4, 7] (by decide +kernel) (by decide +kernel)
set_option maxRecDepth 20000 in
theorem gX1_different_X1_beginning : GoodIn wsX1_different (va_wsS RX1 67 yX1_beginning wsX1_beginning) := goodIn_p _ [11, 14] (by decide +kernel) (by decide +kernel)
set_option maxRecDepth 20000 in
theorem gX1_different_X1_first : GoodIn wsX1_different (va_wsS RX1 71 yX1_first wsX1_first) := goodIn_p _ [21] (by decide +kernel) (by decide +kernel)
theorem dX1_different_0 : decode cX1_different 0 = .ok (.iload_n 1, 1) := by decide +kernel
theorem dX1_different_1 : decode cX1_different 1 = .ok (.ifCond .lt 8, 3) := by decide +kernel
theorem dX1_different_4 : decode cX1_different 4 = .ok (.iload_n 1, 1) := by decide +kernel
theorem dX1_different_5 : decode cX1_different 5 = .ok (.iconst 2, 1) := by decide +kernel
theorem dX1_different_6 : decode cX1_different 6 = .ok (.if_icmp .le 5, 3) := by decide +kernel
theorem dX1_different_9 : decode cX1_different 9 = .ok (.iconst (-1), 1) := by decide +kernel
theorem dX1_different_10 : decode cX1_different 10 = .ok (.ireturn, 1) := by decide +kernel
theorem dX1_different_11 : decode cX1_different 11 = .ok (.iload_n 1, 1) := by decide +kernel
theorem dX1_different_12 : decode cX1_different 12 = .ok (.iload_n 2, 1) := by decide +kernel
theorem dX1_different_13 : decode cX1_different 13 = .ok (.iload_n 3, 1) := by decide +kernel
theorem dX1_different_14 : decode cX1_different 14 = .ok (.iconst 0, 1) := by decide +kernel
theorem dX1_different_15 : decode cX1_different 15 = .ok (.invokestatic 43, 3) := by decide +kernel
theorem dX1_different_18 : decode cX1_different 18 = .ok (.ifCond .ne 5, 3) := by decide +kernel
theorem dX1_different_21 : decode cX1_different 21 = .ok (.iconst 0, 1) := by decide +kernel
theorem dX1_different_22 : decode cX1_different 22 = .ok (.ireturn, 1) := by decide +kernel
theorem dX1_different_23 : decode cX1_different 23 = .ok (.iload_n 1, 1) := by decide +kernel
theorem dX1_different_24 : decode cX1_different 24 = .ok (.iload_n 2, 1) := by decide +kernel
theorem dX1_different_25 : decode cX1_different 25 = .ok (.iload_n 3, 1) := by decide +kernel
theorem dX1_different_26 : decode cX1_different 26 = .ok (.iconst 0, 1) := by decide +kernel
theorem dX1_different_27 : decode cX1_different 27 = .ok (.invokestatic 67, 3) := by decide +kernel
theorem dX1_different_30 : decode cX1_different 30 = .ok (.lstore 4, 2) := by decide +kernel
theorem dX1_different_32 : decode cX1_different 32 = .ok (.iconst 0, 1) := by decide +kernel
theorem dX1_different_33 : decode cX1_different 33 = .ok (.istore 6, 2) := by decide +kernel
theorem dX1_different_35 : decode cX1_different 35 = .ok (.ldc2_w 13, 3) := by decide +kernel
theorem dX1_different_38 : decode cX1_different 38 = .ok (.lstore 7, 2) := by decide +kernel
theorem dX1_different_40 : decode cX1_different 40 = .ok (.iconst 0, 1) := by decide +kernel
theorem dX1_different_41 : decode cX1_different 41 = .ok (.istore 9, 2) := by decide +kernel
theorem dX1_different_43 : decode cX1_different 43 = .ok (.iload 9, 2) := by decide +kernel
theorem dX1_different_45 : decode cX1_different 45 = .ok (.aload_n 0, 1) := by decide +kernel
theorem dX1_different_46 : decode cX1_different 46 = .ok (.getfield 40, 3) := by decide +kernel
theorem dX1_different_49 : decode cX1_different 49 = .ok (.if_icmp .ge 59, 3) := by decide +kernel
theorem dX1_different_52 : decode cX1_different 52 = .ok (.aload_n 0, 1) := by decide +kernel
theorem dX1_different_53 : decode cX1_different 53 = .ok (.getfield 7, 3) := by decide +kernel
theorem dX1_different_56 : decode cX1_different 56 = .ok (.iload 9, 2) := by decide +kernel
theorem dX1_different_58 : decode cX1_different 58 = .ok (.laload, 1) := by decide +kernel
theorem dX1_different_59 : decode cX1_different 59 = .ok (.iload_n 1, 1) := by decide +kernel
theorem dX1_different_60 : decode cX1_different 60 = .ok (.iconst 1, 1) := by decide +kernel
theorem dX1_different_61 : decode cX1_different 61 = .ok (.iadd, 1) := by decide +kernel
theorem dX1_different_62 : decode cX1_different 62 = .ok (.invokestatic 71, 3) := by decide +kernel
theorem dX1_different_65 : decode cX1_different 65 = .ok (.lstore 10, 2) := by decide +kernel
theorem dX1_different_67 : decode cX1_different 67 = .ok (.aload_n 0, 1) := by decide +kernel
theorem dX1_different_68 : decode cX1_different 68 = .ok (.getfield 7, 3) := by decide +kernel
theorem dX1_different_71 : decode cX1_different 71 = .ok (.iload 9, 2) := by decide +kernel
theorem dX1_different_73 : decode cX1_different 73 = .ok (.laload, 1) := by decide +kernel
theorem dX1_different_74 : decode cX1_different 74 = .ok (.iload_n 1, 1) := by decide +kernel
theorem dX1_different_75 : decode cX1_different 75 = .ok (.invokestatic 71, 3) := by decide +kernel
theorem dX1_different_78 : decode cX1_different 78 = .ok (.lload 4, 2) := by decide +kernel
theorem dX1_different_80 : decode cX1_different 80 = .ok (.lcmp, 1) := by decide +kernel
theorem dX1_different_81 : decode cX1_different 81 = .ok (.ifCond .ne 21, 3) := by decide +kernel
theorem dX1_different_84 : decode cX1_different 84 = .ok (.lload 10, 2) := by decide +kernel
theorem dX1_different_86 : decode cX1_different 86 = .ok (.lload 7, 2) := by decide +kernel
theorem dX1_different_88 : decode cX1_different 88 = .ok (.lcmp, 1) := by decide +kernel
theorem dX1_different_89 : decode cX1_different 89 = .ok (.ifCond .ne 6, 3) := by decide +kernel
theorem dX1_different_92 : decode cX1_different 92 = .ok (.goto 10, 3) := by decide +kernel
theorem dX1_different_95 : decode cX1_different 95 = .ok (.iinc 6 1, 3) := by decide +kernel
theorem dX1_different_98 : decode cX1_different 98 = .ok (.lload 10, 2) := by decide +kernel
theorem dX1_different_100 : decode cX1_different 100 = .ok (.lstore 7, 2) := by decide +kernel
theorem dX1_different_102 : decode cX1_different 102 = .ok (.iinc 9 1, 3) := by decide +kernel
theorem dX1_different_105 : decode cX1_different 105 = .ok (.goto (-62), 3) := by decide +kernel
theorem dX1_different_108 : decode cX1_different 108 = .ok (.iload 6, 2) := by decide +kernel
theorem dX1_different_110 : decode cX1_different 110 = .ok (.ireturn, 1) := by decide +kernel
set_option maxRecDepth 20000 in
theorem gX1_rank_X1_areNumbers : GoodIn wsX1_rank (va_wsS RX1 43 yX1_areNumbers wsX1_areNumbers) := goodIn_p _ [4, 7] (by decide +kernel) (by decide +kernel)
set_option maxRecDepth 20000 in
theorem gX1_rank_X1_packed : GoodIn wsX1_rank (va_wsS RX1 36 yX1_packed wsX1_packed) := goodIn_p _ [11] (by decide +kernel) (by decide +kernel)
set_option maxRecDepth 20000 in
theorem gX1_rank_X1_below : GoodIn wsX1_rank (wsV RX1 51 RX1 yX1_below wsX1_below) := goodIn_p _ [16] (by decide +kernel) (by decide +kernel)
theorem dX1_rank_0 : decode cX1_rank 0 = .ok (.iconst 3, 1) := by decide +kernel
theorem dX1_rank_1 : decode cX1_rank 1 = .ok (.iload_n 1, 1) := by decide +kernel
theorem dX1_rank_2 : decode cX1_rank 2 = .ok (.iload_n 2, 1) := by decide +kernel
theorem dX1_rank_3 : decode cX1_rank 3 = .ok (.iload_n 3, 1) := by decide +kernel
theorem dX1_rank_4 : decode cX1_rank 4 = .ok (.invokestatic 43, 3) := by decide +kernel
theorem dX1_rank_7 : decode cX1_rank 7 = .ok (.ifCond .eq 19, 3) := by decide +kernel
theorem dX1_rank_10 : decode cX1_rank 10 = .ok (.aload_n 0, 1) := by decide +kernel
theorem dX1_rank_11 : decode cX1_rank 11 = .ok (.iload_n 1, 1) := by decide +kernel
theorem dX1_rank_12 : decode cX1_rank 12 = .ok (.i2l, 1) := by decide +kernel
theorem dX1_rank_13 : decode cX1_rank 13 = .ok (.iload_n 2, 1) := by decide +kernel
theorem dX1_rank_14 : decode cX1_rank 14 = .ok (.i2l, 1) := by decide +kernel
theorem dX1_rank_15 : decode cX1_rank 15 = .ok (.iload_n 3, 1) := by decide +kernel
theorem dX1_rank_16 : decode cX1_rank 16 = .ok (.i2l, 1) := by decide +kernel
theorem dX1_rank_17 : decode cX1_rank 17 = .ok (.invokestatic 36, 3) := by decide +kernel
theorem dX1_rank_20 : decode cX1_rank 20 = .ok (.invokevirtual 51, 3) := by decide +kernel
theorem dX1_rank_23 : decode cX1_rank 23 = .ok (.goto 4, 3) := by decide +kernel
theorem dX1_rank_26 : decode cX1_rank 26 = .ok (.iconst (-1), 1) := by decide +kernel
theorem dX1_rank_27 : decode cX1_rank 27 = .ok (.ireturn, 1) := by decide +kernel
theorem dX1_stand_0 : decode cX1_stand 0 = .ok (.iload_n 1, 1) := by decide +kernel
theorem dX1_stand_1 : decode cX1_stand 1 = .ok (.ifCond .lt 15, 3) := by decide +kernel
theorem dX1_stand_4 : decode cX1_stand 4 = .ok (.iload_n 1, 1) := by decide +kernel
theorem dX1_stand_5 : decode cX1_stand 5 = .ok (.aload_n 0, 1) := by decide +kernel
theorem dX1_stand_6 : decode cX1_stand 6 = .ok (.getfield 40, 3) := by decide +kernel
theorem dX1_stand_9 : decode cX1_stand 9 = .ok (.if_icmp .ge 7, 3) := by decide +kernel
theorem dX1_stand_12 : decode cX1_stand 12 = .ok (.iconst 1, 1) := by decide +kernel
theorem dX1_stand_13 : decode cX1_stand 13 = .ok (.goto 4, 3) := by decide +kernel
theorem dX1_stand_16 : decode cX1_stand 16 = .ok (.iconst 0, 1) := by decide +kernel
theorem dX1_stand_17 : decode cX1_stand 17 = .ok (.istore_n 2, 1) := by decide +kernel
theorem dX1_stand_18 : decode cX1_stand 18 = .ok (.aload_n 0, 1) := by decide +kernel
theorem dX1_stand_19 : decode cX1_stand 19 = .ok (.iload_n 2, 1) := by decide +kernel
theorem dX1_stand_20 : decode cX1_stand 20 = .ok (.ifCond .eq 12, 3) := by decide +kernel
theorem dX1_stand_23 : decode cX1_stand 23 = .ok (.aload_n 0, 1) := by decide +kernel
theorem dX1_stand_24 : decode cX1_stand 24 = .ok (.getfield 7, 3) := by decide +kernel
theorem dX1_stand_27 : decode cX1_stand 27 = .ok (.iload_n 1, 1) := by decide +kernel
theorem dX1_stand_28 : decode cX1_stand 28 = .ok (.laload, 1) := by decide +kernel
theorem dX1_stand_29 : decode cX1_stand 29 = .ok (.goto 6, 3) := by decide +kernel
theorem dX1_stand_32 : decode cX1_stand 32 = .ok (.ldc2_w 13, 3) := by decide +kernel
theorem dX1_stand_35 : decode cX1_stand 35 = .ok (.putfield 15, 3) := by decide +kernel
theorem dX1_stand_38 : decode cX1_stand 38 = .ok (.iload_n 2, 1) := by decide +kernel
theorem dX1_stand_39 : decode cX1_stand 39 = .ok (.ireturn, 1) := by decide +kernel
set_option maxRecDepth 20000 in
theorem gX1_choose_X1_stand : GoodIn wsX1_choose (wsV RX1 75 RX1 yX1_stand wsX1_stand) := goodIn_p _ [5] (by decide +kernel) (by decide +kernel)
theorem dX1_choose_0 : decode cX1_choose 0 = .ok (.aload_n 0, 1) := by decide +kernel
theorem dX1_choose_1 : decode cX1_choose 1 = .ok (.iload_n 1, 1) := by decide +kernel
theorem dX1_choose_2 : decode cX1_choose 2 = .ok (.invokevirtual 75, 3) := by decide +kernel
theorem dX1_choose_5 : decode cX1_choose 5 = .ok (.ireturn, 1) := by decide +kernel
set_option maxRecDepth 20000 in
theorem gX1_seek_X1_areNumbers : GoodIn wsX1_seek (va_wsS RX1 43 yX1_areNumbers wsX1_areNumbers) := goodIn_p _ [4, 7] (by decide +kernel) (by decide +kernel)
set_option maxRecDepth 20000 in
theorem gX1_seek_X1_packed : GoodIn wsX1_seek (va_wsS RX1 36 yX1_packed wsX1_packed) := goodIn_p _ [11] (by decide +kernel) (by decide +kernel)
set_option maxRecDepth 20000 in
theorem gX1_seek_X1_below : GoodIn wsX1_seek (wsV RX1 51 RX1 yX1_below wsX1_below) := goodIn_p _ [16] (by decide +kernel) (by decide +kernel)
set_option maxRecDepth 20000 in
theorem gX1_seek_X1_stand : GoodIn wsX1_seek (wsV RX1 75 RX1 yX1_stand wsX1_stand) := goodIn_p _ [22] (by decide +kernel) (by decide +kernel)
theorem dX1_seek_0 : decode cX1_seek 0 = .ok (.iconst 3, 1) := by decide +kernel
theorem dX1_seek_1 : decode cX1_seek 1 = .ok (.iload_n 1, 1) := by decide +kernel
theorem dX1_seek_2 : decode cX1_seek 2 = .ok (.iload_n 2, 1) := by decide +kernel
theorem dX1_seek_3 : decode cX1_seek 3 = .ok (.iload_n 3, 1) := by decide +kernel
theorem dX1_seek_4 : decode cX1_seek 4 = .ok (.invokestatic 43, 3) := by decide +kernel
theorem dX1_seek_7 : decode cX1_seek 7 = .ok (.ifCond .eq 27, 3) := by decide +kernel
theorem dX1_seek_10 : decode cX1_seek 10 = .ok (.aload_n 0, 1) := by decide +kernel
theorem dX1_seek_11 : decode cX1_seek 11 = .ok (.aload_n 0, 1) := by decide +kernel
theorem dX1_seek_12 : decode cX1_seek 12 = .ok (.iload_n 1, 1) := by decide +kernel
theorem dX1_seek_13 : decode cX1_seek 13 = .ok (.i2l, 1) := by decide +kernel
theorem dX1_seek_14 : decode cX1_seek 14 = .ok (.iload_n 2, 1) := by decide +kernel
theorem dX1_seek_15 : decode cX1_seek 15 = .ok (.i2l, 1) := by decide +kernel
theorem dX1_seek_16 : decode cX1_seek 16 = .ok (.iload_n 3, 1) := by decide +kernel
theorem dX1_seek_17 : decode cX1_seek 17 = .ok (.i2l, 1) := by decide +kernel
theorem dX1_seek_18 : decode cX1_seek 18 = .ok (.invokestatic 36, 3) := by decide +kernel
theorem dX1_seek_21 : decode cX1_seek 21 = .ok (.invokevirtual 51, 3) := by decide +kernel
theorem dX1_seek_24 : decode cX1_seek 24 = .ok (.invokevirtual 75, 3) := by decide +kernel
theorem dX1_seek_27 : decode cX1_seek 27 = .ok (.ifCond .eq 7, 3) := by decide +kernel
theorem dX1_seek_30 : decode cX1_seek 30 = .ok (.iconst 1, 1) := by decide +kernel
theorem dX1_seek_31 : decode cX1_seek 31 = .ok (.goto 4, 3) := by decide +kernel
theorem dX1_seek_34 : decode cX1_seek 34 = .ok (.iconst 0, 1) := by decide +kernel
theorem dX1_seek_35 : decode cX1_seek 35 = .ok (.ireturn, 1) := by decide +kernel
set_option maxRecDepth 20000 in
theorem gX1_next_X1_below : GoodIn wsX1_next (wsV RX1 51 RX1 yX1_below wsX1_below) := goodIn_p _ [6] (by decide +kernel) (by decide +kernel)
set_option maxRecDepth 20000 in
theorem gX1_next_X1_stand : GoodIn wsX1_next (wsV RX1 75 RX1 yX1_stand wsX1_stand) := goodIn_p _ [12] (by decide +kernel) (by decide +kernel)
theorem dX1_next_0 : decode cX1_next 0 = .ok (.aload_n 0, 1) := by decide +kernel
theorem dX1_next_1 : decode cX1_next 1 = .ok (.aload_n 0, 1) := by decide +kernel
theorem dX1_next_2 : decode cX1_next 2 = .ok (.aload_n 0, 1) := by decide +kernel
theorem dX1_next_3 : decode cX1_next 3 = .ok (.getfield 15, 3) := by decide +kernel
theorem dX1_next_6 : decode cX1_next 6 = .ok (.lconst 1, 1) := by decide +kernel
theorem dX1_next_7 : decode cX1_next 7 = .ok (.ladd, 1) := by decide +kernel
theorem dX1_next_8 : decode cX1_next 8 = .ok (.invokevirtual 51, 3) := by decide +kernel
theorem dX1_next_11 : decode cX1_next 11 = .ok (.invokevirtual 75, 3) := by decide +kernel
theorem dX1_next_14 : decode cX1_next 14 = .ok (.ireturn, 1) := by decide +kernel
set_option maxRecDepth 20000 in
theorem gX1_previous_X1_below : GoodIn wsX1_previous (wsV RX1 51 RX1 yX1_below wsX1_below) := goodIn_p _ [8] (by decide +kernel) (by decide +kernel)
set_option maxRecDepth 20000 in
theorem gX1_previous_X1_stand : GoodIn wsX1_previous (wsV RX1 75 RX1 yX1_stand wsX1_stand) := goodIn_p _ [13] (by decide +kernel) (by decide +kernel)
theorem dX1_previous_0 : decode cX1_previous 0 = .ok (.aload_n 0, 1) := by decide +kernel
theorem dX1_previous_1 : decode cX1_previous 1 = .ok (.aload_n 0, 1) := by decide +kernel
theorem dX1_previous_2 : decode cX1_previous 2 = .ok (.getfield 15, 3) := by decide +kernel
theorem dX1_previous_5 : decode cX1_previous 5 = .ok (.ldc2_w 13, 3) := by decide +kernel
theorem dX1_previous_8 : decode cX1_previous 8 = .ok (.lcmp, 1) := by decide +kernel
theorem dX1_previous_9 : decode cX1_previous 9 = .ok (.ifCond .ne 12, 3) := by decide +kernel
theorem dX1_previous_12 : decode cX1_previous 12 = .ok (.aload_n 0, 1) := by decide +kernel
theorem dX1_previous_13 : decode cX1_previous 13 = .ok (.getfield 40, 3) := by decide +kernel
theorem dX1_previous_16 : decode cX1_previous 16 = .ok (.iconst 1, 1) := by decide +kernel
theorem dX1_previous_17 : decode cX1_previous 17 = .ok (.isub, 1) := by decide +kernel
theorem dX1_previous_18 : decode cX1_previous 18 = .ok (.goto 13, 3) := by decide +kernel
theorem dX1_previous_21 : decode cX1_previous 21 = .ok (.aload_n 0, 1) := by decide +kernel
theorem dX1_previous_22 : decode cX1_previous 22 = .ok (.aload_n 0, 1) := by decide +kernel
theorem dX1_previous_23 : decode cX1_previous 23 = .ok (.getfield 15, 3) := by decide +kernel
theorem dX1_previous_26 : decode cX1_previous 26 = .ok (.invokevirtual 51, 3) := by decide +kernel
theorem dX1_previous_29 : decode cX1_previous 29 = .ok (.iconst 1, 1) := by decide +kernel
theorem dX1_previous_30 : decode cX1_previous 30 = .ok (.isub, 1) := by decide +kernel
theorem dX1_previous_31 : decode cX1_previous 31 = .ok (.invokevirtual 75, 3) := by decide +kernel
theorem dX1_previous_34 : decode cX1_previous 34 = .ok (.ireturn, 1) := by decide +kernel
theorem dX1_number_0 : decode cX1_number 0 = .ok (.iload_n 1, 1) := by decide +kernel
theorem dX1_number_1 : decode cX1_number 1 = .ok (.ifCond .ne 18, 3) := by decide +kernel
theorem dX1_number_4 : decode cX1_number 4 = .ok (.aload_n 0, 1) := by decide +kernel
theorem dX1_number_5 : decode cX1_number 5 = .ok (.getfield 15, 3) := by decide +kernel
theorem dX1_number_8 : decode cX1_number 8 = .ok (.ldc2_w 34, 3) := by decide +kernel
theorem dX1_number_11 : decode cX1_number 11 = .ok (.ldiv, 1) := by decide +kernel
theorem dX1_number_12 : decode cX1_number 12 = .ok (.ldc2_w 34, 3) := by decide +kernel
theorem dX1_number_15 : decode cX1_number 15 = .ok (.ldiv, 1) := by decide +kernel
theorem dX1_number_16 : decode cX1_number 16 = .ok (.goto 31, 3) := by decide +kernel
theorem dX1_number_19 : decode cX1_number 19 = .ok (.iload_n 1, 1) := by decide +kernel
theorem dX1_number_20 : decode cX1_number 20 = .ok (.iconst 1, 1) := by decide +kernel
theorem dX1_number_21 : decode cX1_number 21 = .ok (.if_icmp .ne 18, 3) := by decide +kernel
theorem dX1_number_24 : decode cX1_number 24 = .ok (.aload_n 0, 1) := by decide +kernel
theorem dX1_number_25 : decode cX1_number 25 = .ok (.getfield 15, 3) := by decide +kernel
theorem dX1_number_28 : decode cX1_number 28 = .ok (.ldc2_w 34, 3) := by decide +kernel
theorem dX1_number_31 : decode cX1_number 31 = .ok (.ldiv, 1) := by decide +kernel
theorem dX1_number_32 : decode cX1_number 32 = .ok (.ldc2_w 34, 3) := by decide +kernel
theorem dX1_number_35 : decode cX1_number 35 = .ok (.lrem, 1) := by decide +kernel
theorem dX1_number_36 : decode cX1_number 36 = .ok (.goto 11, 3) := by decide +kernel
theorem dX1_number_39 : decode cX1_number 39 = .ok (.aload_n 0, 1) := by decide +kernel
theorem dX1_number_40 : decode cX1_number 40 = .ok (.getfield 15, 3) := by decide +kernel
theorem dX1_number_43 : decode cX1_number 43 = .ok (.ldc2_w 34, 3) := by decide +kernel
theorem dX1_number_46 : decode cX1_number 46 = .ok (.lrem, 1) := by decide +kernel
theorem dX1_number_47 : decode cX1_number 47 = .ok (.l2i, 1) := by decide +kernel
theorem dX1_number_48 : decode cX1_number 48 = .ok (.ireturn, 1) := by decide +kernel
theorem dX1_placeOf_0 : decode cX1_placeOf 0 = .ok (.aload_n 0, 1) := by decide +kernel
theorem dX1_placeOf_1 : decode cX1_placeOf 1 = .ok (.getfield 25, 3) := by decide +kernel
theorem dX1_placeOf_4 : decode cX1_placeOf 4 = .ok (.tableswitch 88 0 4 #[36, 38, 50, 63, 75], 36) := by decide +kernel
theorem dX1_placeOf_40 : decode cX1_placeOf 40 = .ok (.iload_n 1, 1) := by decide +kernel
theorem dX1_placeOf_41 : decode cX1_placeOf 41 = .ok (.ireturn, 1) := by decide +kernel
theorem dX1_placeOf_42 : decode cX1_placeOf 42 = .ok (.iload_n 1, 1) := by decide +kernel
theorem dX1_placeOf_43 : decode cX1_placeOf 43 = .ok (.ifCond .ne 7, 3) := by decide +kernel
theorem dX1_placeOf_46 : decode cX1_placeOf 46 = .ok (.iconst 0, 1) := by decide +kernel
theorem dX1_placeOf_47 : decode cX1_placeOf 47 = .ok (.goto 6, 3) := by decide +kernel
theorem dX1_placeOf_50 : decode cX1_placeOf 50 = .ok (.iconst 3, 1) := by decide +kernel
theorem dX1_placeOf_51 : decode cX1_placeOf 51 = .ok (.iload_n 1, 1) := by decide +kernel
theorem dX1_placeOf_52 : decode cX1_placeOf 52 = .ok (.isub, 1) := by decide +kernel
theorem dX1_placeOf_53 : decode cX1_placeOf 53 = .ok (.ireturn, 1) := by decide +kernel
theorem dX1_placeOf_54 : decode cX1_placeOf 54 = .ok (.iload_n 1, 1) := by decide +kernel
theorem dX1_placeOf_55 : decode cX1_placeOf 55 = .ok (.iconst 2, 1) := by decide +kernel
theorem dX1_placeOf_56 : decode cX1_placeOf 56 = .ok (.if_icmp .ne 7, 3) := by decide +kernel
theorem dX1_placeOf_59 : decode cX1_placeOf 59 = .ok (.iconst 2, 1) := by decide +kernel
theorem dX1_placeOf_60 : decode cX1_placeOf 60 = .ok (.goto 6, 3) := by decide +kernel
theorem dX1_placeOf_63 : decode cX1_placeOf 63 = .ok (.iconst 1, 1) := by decide +kernel
theorem dX1_placeOf_64 : decode cX1_placeOf 64 = .ok (.iload_n 1, 1) := by decide +kernel
theorem dX1_placeOf_65 : decode cX1_placeOf 65 = .ok (.isub, 1) := by decide +kernel
theorem dX1_placeOf_66 : decode cX1_placeOf 66 = .ok (.ireturn, 1) := by decide +kernel
theorem dX1_placeOf_67 : decode cX1_placeOf 67 = .ok (.iload_n 1, 1) := by decide +kernel
theorem dX1_placeOf_68 : decode cX1_placeOf 68 = .ok (.ifCond .ne 7, 3) := by decide +kernel
theorem dX1_placeOf_71 : decode cX1_placeOf 71 = .ok (.iconst 2, 1) := by decide +kernel
theorem dX1_placeOf_72 : decode cX1_placeOf 72 = .ok (.goto 6, 3) := by decide +kernel
theorem dX1_placeOf_75 : decode cX1_placeOf 75 = .ok (.iload_n 1, 1) := by decide +kernel
theorem dX1_placeOf_76 : decode cX1_placeOf 76 = .ok (.iconst 1, 1) := by decide +kernel
theorem dX1_placeOf_77 : decode cX1_placeOf 77 = .ok (.isub, 1) := by decide +kernel
theorem dX1_placeOf_78 : decode cX1_placeOf 78 = .ok (.ireturn, 1) := by decide +kernel
theorem dX1_placeOf_79 : decode cX1_placeOf 79 = .ok (.iload_n 1, 1) := by decide +kernel
theorem dX1_placeOf_80 : decode cX1_placeOf 80 = .ok (.iconst 2, 1) := by decide +kernel
theorem dX1_placeOf_81 : decode cX1_placeOf 81 = .ok (.if_icmp .ne 7, 3) := by decide +kernel
theorem dX1_placeOf_84 : decode cX1_placeOf 84 = .ok (.iconst 0, 1) := by decide +kernel
theorem dX1_placeOf_85 : decode cX1_placeOf 85 = .ok (.goto 6, 3) := by decide +kernel
theorem dX1_placeOf_88 : decode cX1_placeOf 88 = .ok (.iload_n 1, 1) := by decide +kernel
theorem dX1_placeOf_89 : decode cX1_placeOf 89 = .ok (.iconst 1, 1) := by decide +kernel
theorem dX1_placeOf_90 : decode cX1_placeOf 90 = .ok (.iadd, 1) := by decide +kernel
theorem dX1_placeOf_91 : decode cX1_placeOf 91 = .ok (.ireturn, 1) := by decide +kernel
theorem dX1_placeOf_92 : decode cX1_placeOf 92 = .ok (.iconst 2, 1) := by decide +kernel
theorem dX1_placeOf_93 : decode cX1_placeOf 93 = .ok (.iload_n 1, 1) := by decide +kernel
theorem dX1_placeOf_94 : decode cX1_placeOf 94 = .ok (.isub, 1) := by decide +kernel
theorem dX1_placeOf_95 : decode cX1_placeOf 95 = .ok (.ireturn, 1) := by decide +kernel
set_option maxRecDepth 20000 in
theorem gX1_told_X1_number : GoodIn wsX1_told (wsV RX1 78 RX1 yX1_number wsX1_number) := goodIn_p _ [7] (by decide +kernel) (by decide +kernel)
set_option maxRecDepth 20000 in
theorem gX1_told_X1_placeOf : GoodIn wsX1_told (wsV RX1 82 RX1 yX1_placeOf wsX1_placeOf) := goodIn_p _ [12] (by decide +kernel) (by decide +kernel)
theorem dX1_told_0 : decode cX1_told 0 = .ok (.aload_n 0, 1) := by decide +kernel
theorem dX1_told_1 : decode cX1_told 1 = .ok (.getfield 15, 3) := by decide +kernel
theorem dX1_told_4 : decode cX1_told 4 = .ok (.ldc2_w 13, 3) := by decide +kernel
theorem dX1_told_7 : decode cX1_told 7 = .ok (.lcmp, 1) := by decide +kernel
theorem dX1_told_8 : decode cX1_told 8 = .ok (.ifCond .eq 12, 3) := by decide +kernel
theorem dX1_told_11 : decode cX1_told 11 = .ok (.iload_n 1, 1) := by decide +kernel
theorem dX1_told_12 : decode cX1_told 12 = .ok (.ifCond .lt 8, 3) := by decide +kernel
theorem dX1_told_15 : decode cX1_told 15 = .ok (.iload_n 1, 1) := by decide +kernel
theorem dX1_told_16 : decode cX1_told 16 = .ok (.iconst 5, 1) := by decide +kernel
theorem dX1_told_17 : decode cX1_told 17 = .ok (.if_icmp .le 5, 3) := by decide +kernel
theorem dX1_told_20 : decode cX1_told 20 = .ok (.iconst (-1), 1) := by decide +kernel
theorem dX1_told_21 : decode cX1_told 21 = .ok (.ireturn, 1) := by decide +kernel
theorem dX1_told_22 : decode cX1_told 22 = .ok (.iload_n 1, 1) := by decide +kernel
theorem dX1_told_23 : decode cX1_told 23 = .ok (.iconst 3, 1) := by decide +kernel
theorem dX1_told_24 : decode cX1_told 24 = .ok (.if_icmp .ge 11, 3) := by decide +kernel
theorem dX1_told_27 : decode cX1_told 27 = .ok (.aload_n 0, 1) := by decide +kernel
theorem dX1_told_28 : decode cX1_told 28 = .ok (.iload_n 1, 1) := by decide +kernel
theorem dX1_told_29 : decode cX1_told 29 = .ok (.invokevirtual 78, 3) := by decide +kernel
theorem dX1_told_32 : decode cX1_told 32 = .ok (.goto 14, 3) := by decide +kernel
theorem dX1_told_35 : decode cX1_told 35 = .ok (.aload_n 0, 1) := by decide +kernel
theorem dX1_told_36 : decode cX1_told 36 = .ok (.aload_n 0, 1) := by decide +kernel
theorem dX1_told_37 : decode cX1_told 37 = .ok (.iload_n 1, 1) := by decide +kernel
theorem dX1_told_38 : decode cX1_told 38 = .ok (.iconst 3, 1) := by decide +kernel
theorem dX1_told_39 : decode cX1_told 39 = .ok (.isub, 1) := by decide +kernel
theorem dX1_told_40 : decode cX1_told 40 = .ok (.invokevirtual 82, 3) := by decide +kernel
theorem dX1_told_43 : decode cX1_told 43 = .ok (.invokevirtual 78, 3) := by decide +kernel
theorem dX1_told_46 : decode cX1_told 46 = .ok (.ireturn, 1) := by decide +kernel
set_option maxRecDepth 20000 in
theorem gX1_stands_X1_below : GoodIn wsX1_stands (wsV RX1 51 RX1 yX1_below wsX1_below) := goodIn_p _ [7] (by decide +kernel) (by decide +kernel)
set_option maxRecDepth 20000 in
theorem gX1_stands_X1_isThere : GoodIn wsX1_stands (wsV RX1 55 RX1 yX1_isThere wsX1_isThere) := goodIn_p _ [13] (by decide +kernel) (by decide +kernel)
theorem dX1_stands_0 : decode cX1_stands 0 = .ok (.aload_n 0, 1) := by decide +kernel
theorem dX1_stands_1 : decode cX1_stands 1 = .ok (.getfield 15, 3) := by decide +kernel
theorem dX1_stands_4 : decode cX1_stands 4 = .ok (.ldc2_w 13, 3) := by decide +kernel
theorem dX1_stands_7 : decode cX1_stands 7 = .ok (.lcmp, 1) := by decide +kernel
theorem dX1_stands_8 : decode cX1_stands 8 = .ok (.ifCond .eq 26, 3) := by decide +kernel
theorem dX1_stands_11 : decode cX1_stands 11 = .ok (.aload_n 0, 1) := by decide +kernel
theorem dX1_stands_12 : decode cX1_stands 12 = .ok (.aload_n 0, 1) := by decide +kernel
theorem dX1_stands_13 : decode cX1_stands 13 = .ok (.aload_n 0, 1) := by decide +kernel
theorem dX1_stands_14 : decode cX1_stands 14 = .ok (.getfield 15, 3) := by decide +kernel
theorem dX1_stands_17 : decode cX1_stands 17 = .ok (.invokevirtual 51, 3) := by decide +kernel
theorem dX1_stands_20 : decode cX1_stands 20 = .ok (.aload_n 0, 1) := by decide +kernel
theorem dX1_stands_21 : decode cX1_stands 21 = .ok (.getfield 15, 3) := by decide +kernel
theorem dX1_stands_24 : decode cX1_stands 24 = .ok (.invokevirtual 55, 3) := by decide +kernel
theorem dX1_stands_27 : decode cX1_stands 27 = .ok (.ifCond .eq 7, 3) := by decide +kernel
theorem dX1_stands_30 : decode cX1_stands 30 = .ok (.iconst 1, 1) := by decide +kernel
theorem dX1_stands_31 : decode cX1_stands 31 = .ok (.goto 4, 3) := by decide +kernel
theorem dX1_stands_34 : decode cX1_stands 34 = .ok (.iconst 0, 1) := by decide +kernel
theorem dX1_stands_35 : decode cX1_stands 35 = .ok (.ireturn, 1) := by decide +kernel
theorem dX1_size_0 : decode cX1_size 0 = .ok (.aload_n 0, 1) := by decide +kernel
theorem dX1_size_1 : decode cX1_size 1 = .ok (.getfield 40, 3) := by decide +kernel
theorem dX1_size_4 : decode cX1_size 4 = .ok (.ireturn, 1) := by decide +kernel
set_option maxRecDepth 20000 in
theorem gX1_cut_X1_areNumbers : GoodIn wsX1_cut (va_wsS RX1 43 yX1_areNumbers wsX1_areNumbers) := goodIn_p _ [4, 7] (by decide +kernel) (by decide +kernel)
set_option maxRecDepth 20000 in
theorem gX1_cut_X1_beginning : GoodIn wsX1_cut (va_wsS RX1 67 yX1_beginning wsX1_beginning) := goodIn_p _ [11, 14] (by decide +kernel) (by decide +kernel)
set_option maxRecDepth 20000 in
theorem gX1_cut_X1_first : GoodIn wsX1_cut (va_wsS RX1 71 yX1_first wsX1_first) := goodIn_p _ [20] (by decide +kernel) (by decide +kernel)
theorem dX1_cut_0 : decode cX1_cut 0 = .ok (.iload_n 1, 1) := by decide +kernel
theorem dX1_cut_1 : decode cX1_cut 1 = .ok (.ifCond .lt 8, 3) := by decide +kernel
theorem dX1_cut_4 : decode cX1_cut 4 = .ok (.iload_n 1, 1) := by decide +kernel
theorem dX1_cut_5 : decode cX1_cut 5 = .ok (.iconst 3, 1) := by decide +kernel
theorem dX1_cut_6 : decode cX1_cut 6 = .ok (.if_icmp .le 5, 3) := by decide +kernel
theorem dX1_cut_9 : decode cX1_cut 9 = .ok (.iconst (-1), 1) := by decide +kernel
theorem dX1_cut_10 : decode cX1_cut 10 = .ok (.ireturn, 1) := by decide +kernel
theorem dX1_cut_11 : decode cX1_cut 11 = .ok (.iload_n 1, 1) := by decide +kernel
theorem dX1_cut_12 : decode cX1_cut 12 = .ok (.iload_n 2, 1) := by decide +kernel
theorem dX1_cut_13 : decode cX1_cut 13 = .ok (.iload_n 3, 1) := by decide +kernel
theorem dX1_cut_14 : decode cX1_cut 14 = .ok (.iload 4, 2) := by decide +kernel
theorem dX1_cut_16 : decode cX1_cut 16 = .ok (.invokestatic 43, 3) := by decide +kernel
theorem dX1_cut_19 : decode cX1_cut 19 = .ok (.ifCond .ne 5, 3) := by decide +kernel
theorem dX1_cut_22 : decode cX1_cut 22 = .ok (.iconst 0, 1) := by decide +kernel
theorem dX1_cut_23 : decode cX1_cut 23 = .ok (.ireturn, 1) := by decide +kernel
theorem dX1_cut_24 : decode cX1_cut 24 = .ok (.iload_n 1, 1) := by decide +kernel
theorem dX1_cut_25 : decode cX1_cut 25 = .ok (.iload_n 2, 1) := by decide +kernel
theorem dX1_cut_26 : decode cX1_cut 26 = .ok (.iload_n 3, 1) := by decide +kernel
theorem dX1_cut_27 : decode cX1_cut 27 = .ok (.iload 4, 2) := by decide +kernel
theorem dX1_cut_29 : decode cX1_cut 29 = .ok (.invokestatic 67, 3) := by decide +kernel
theorem dX1_cut_32 : decode cX1_cut 32 = .ok (.lstore 5, 2) := by decide +kernel
theorem dX1_cut_34 : decode cX1_cut 34 = .ok (.iconst 0, 1) := by decide +kernel
theorem dX1_cut_35 : decode cX1_cut 35 = .ok (.istore 7, 2) := by decide +kernel
theorem dX1_cut_37 : decode cX1_cut 37 = .ok (.iconst 0, 1) := by decide +kernel
theorem dX1_cut_38 : decode cX1_cut 38 = .ok (.istore 8, 2) := by decide +kernel
theorem dX1_cut_40 : decode cX1_cut 40 = .ok (.iload 8, 2) := by decide +kernel
theorem dX1_cut_42 : decode cX1_cut 42 = .ok (.aload_n 0, 1) := by decide +kernel
theorem dX1_cut_43 : decode cX1_cut 43 = .ok (.getfield 40, 3) := by decide +kernel
theorem dX1_cut_46 : decode cX1_cut 46 = .ok (.if_icmp .ge 46, 3) := by decide +kernel
theorem dX1_cut_49 : decode cX1_cut 49 = .ok (.aload_n 0, 1) := by decide +kernel
theorem dX1_cut_50 : decode cX1_cut 50 = .ok (.getfield 7, 3) := by decide +kernel
theorem dX1_cut_53 : decode cX1_cut 53 = .ok (.iload 8, 2) := by decide +kernel
theorem dX1_cut_55 : decode cX1_cut 55 = .ok (.laload, 1) := by decide +kernel
theorem dX1_cut_56 : decode cX1_cut 56 = .ok (.iload_n 1, 1) := by decide +kernel
theorem dX1_cut_57 : decode cX1_cut 57 = .ok (.invokestatic 71, 3) := by decide +kernel
theorem dX1_cut_60 : decode cX1_cut 60 = .ok (.lload 5, 2) := by decide +kernel
theorem dX1_cut_62 : decode cX1_cut 62 = .ok (.lcmp, 1) := by decide +kernel
theorem dX1_cut_63 : decode cX1_cut 63 = .ok (.ifCond .ne 6, 3) := by decide +kernel
theorem dX1_cut_66 : decode cX1_cut 66 = .ok (.goto 20, 3) := by decide +kernel
theorem dX1_cut_69 : decode cX1_cut 69 = .ok (.aload_n 0, 1) := by decide +kernel
theorem dX1_cut_70 : decode cX1_cut 70 = .ok (.getfield 7, 3) := by decide +kernel
theorem dX1_cut_73 : decode cX1_cut 73 = .ok (.iload 7, 2) := by decide +kernel
theorem dX1_cut_75 : decode cX1_cut 75 = .ok (.aload_n 0, 1) := by decide +kernel
theorem dX1_cut_76 : decode cX1_cut 76 = .ok (.getfield 7, 3) := by decide +kernel
theorem dX1_cut_79 : decode cX1_cut 79 = .ok (.iload 8, 2) := by decide +kernel
theorem dX1_cut_81 : decode cX1_cut 81 = .ok (.laload, 1) := by decide +kernel
theorem dX1_cut_82 : decode cX1_cut 82 = .ok (.lastore, 1) := by decide +kernel
theorem dX1_cut_83 : decode cX1_cut 83 = .ok (.iinc 7 1, 3) := by decide +kernel
theorem dX1_cut_86 : decode cX1_cut 86 = .ok (.iinc 8 1, 3) := by decide +kernel
theorem dX1_cut_89 : decode cX1_cut 89 = .ok (.goto (-49), 3) := by decide +kernel
theorem dX1_cut_92 : decode cX1_cut 92 = .ok (.aload_n 0, 1) := by decide +kernel
theorem dX1_cut_93 : decode cX1_cut 93 = .ok (.getfield 40, 3) := by decide +kernel
theorem dX1_cut_96 : decode cX1_cut 96 = .ok (.iload 7, 2) := by decide +kernel
theorem dX1_cut_98 : decode cX1_cut 98 = .ok (.isub, 1) := by decide +kernel
theorem dX1_cut_99 : decode cX1_cut 99 = .ok (.istore 8, 2) := by decide +kernel
theorem dX1_cut_101 : decode cX1_cut 101 = .ok (.aload_n 0, 1) := by decide +kernel
theorem dX1_cut_102 : decode cX1_cut 102 = .ok (.iload 7, 2) := by decide +kernel
theorem dX1_cut_104 : decode cX1_cut 104 = .ok (.putfield 40, 3) := by decide +kernel
theorem dX1_cut_107 : decode cX1_cut 107 = .ok (.iload 8, 2) := by decide +kernel
theorem dX1_cut_109 : decode cX1_cut 109 = .ok (.ireturn, 1) := by decide +kernel
set_option maxRecDepth 20000 in
theorem gL_law_X1_has : GoodIn lw_tbl (wsV RL 33 RX1 yX1_has wsX1_has) := goodIn_p _ [260, 228, 231, 236, 239, 244, 248] (by decide +kernel) (by decide +kernel)
set_option maxRecDepth 20000 in
theorem gL_law_X1_count : GoodIn lw_tbl (wsV RL 38 RX1 yX1_count wsX1_count) := goodIn_p _ [264, 228, 231, 267, 239, 270] (by decide +kernel) (by decide +kernel)
set_option maxRecDepth 20000 in
theorem gL_law_X1_different : GoodIn lw_tbl (wsV RL 42 RX1 yX1_different wsX1_different) := goodIn_p _ [276, 228, 231, 267, 239, 270] (by decide +kernel) (by decide +kernel)
set_option maxRecDepth 20000 in
theorem gL_law_X1_rank : GoodIn lw_tbl (wsV RL 46 RX1 yX1_rank wsX1_rank) := goodIn_p _ [280, 228, 231, 239, 244] (by decide +kernel) (by decide +kernel)
set_option maxRecDepth 20000 in
theorem gL_law_X1_choose : GoodIn lw_tbl (wsV RL 51 RX1 yX1_choose wsX1_choose) := goodIn_p _ [284, 288] (by decide +kernel) (by decide +kernel)
set_option maxRecDepth 20000 in
theorem gL_law_X1_seek : GoodIn lw_tbl (wsV RL 56 RX1 yX1_seek wsX1_seek) := goodIn_p _ [292, 228, 231, 239, 244, 288] (by decide +kernel) (by decide +kernel)
set_option maxRecDepth 20000 in
theorem gL_law_X1_next : GoodIn lw_tbl (wsV RL 61 RX1 yX1_next wsX1_next) := goodIn_p _ [296, 244, 288] (by decide +kernel) (by decide +kernel)
set_option maxRecDepth 20000 in
theorem gL_law_X1_previous : GoodIn lw_tbl (wsV RL 65 RX1 yX1_previous wsX1_previous) := goodIn_p _ [300, 244, 288] (by decide +kernel) (by decide +kernel)
set_option maxRecDepth 20000 in
theorem gL_law_X1_told : GoodIn lw_tbl (wsV RL 70 RX1 yX1_told wsX1_told) := goodIn_p _ [304, 308, 312] (by decide +kernel) (by decide +kernel)
set_option maxRecDepth 20000 in
theorem gL_law_X1_stands : GoodIn lw_tbl (wsV RL 75 RX1 yX1_stands wsX1_stands) := goodIn_p _ [316, 244, 248] (by decide +kernel) (by decide +kernel)
set_option maxRecDepth 20000 in
theorem gL_law_X1_size : GoodIn lw_tbl (wsV RL 79 RX1 yX1_size wsX1_size) := goodIn_p _ [320] (by decide +kernel) (by decide +kernel)
set_option maxRecDepth 20000 in
theorem gL_law_X1_cut : GoodIn lw_tbl (wsV RL 83 RX1 yX1_cut wsX1_cut) := goodIn_p _ [324, 228, 231, 267, 239, 270] (by decide +kernel) (by decide +kernel)
end
section
/-! ===== lN n to 2^64: shifts, and, or, masks, one bit ===== -/
theorem wb_tb (n : Nat) : (lN n).toBitVec = BitVec.ofNat 64 n := rfl
theorem wb_inj {a b : Int64} (h : a.toBitVec = b.toBitVec) : a = b := Int64.toBitVec_inj.mp h
theorem wb_tn {n : Nat} (h : n < 2 ^ 64) : (lN n).toBitVec.toNat = n := by rw [wb_tb, BitVec.toNat_ofNat, Nat.mod_eq_of_lt h]
theorem wb_of (x : Int64) : ∃ n, n < 2 ^ 64 ∧ x = lN n := ⟨x.toBitVec.toNat, x.toBitVec.isLt, wb_inj (by rw [wb_tb]; simp)⟩
theorem wb_of32 (x : Int32) : ∃ n, n < 2 ^ 32 ∧ x = nI n := ⟨x.toBitVec.toNat, x.toBitVec.isLt, Int32.toBitVec_inj.mp (by show _ = BitVec.ofNat 32 _; simp)⟩
theorem wb_c : ∀ k, k < 64 → ((nI k).toInt64 &&& 63) = lN k := by decide +kernel
theorem wb_cu : ∀ k, k < 64 → ((nI k).toInt64.toUInt64 &&& Int64.toUInt64 63) = UInt64.ofNat k := by decide +kernel
theorem wb_sm : ∀ k, k < 64 → (BitVec.ofNat 64 k).smod 64 = BitVec.ofNat 64 k := by decide +kernel
theorem wb_pw {a b : Nat} (h : a ≤ b) : 2 ^ b = 2 ^ a * 2 ^ (b - a) := by rw [← Nat.pow_add]; congr 1; omega
theorem wb_lt2 {a b : Nat} (h : a < b) : 2 ^ a < 2 ^ b := Nat.pow_lt_pow_right (by decide) h
theorem wb_mod (n : Nat) : lN n = lN (n % 2 ^ 64) := wb_inj (by rw [wb_tb, wb_tb]; apply BitVec.eq_of_toNat_eq; rw [BitVec.toNat_ofNat, BitVec.toNat_ofNat, Nat.mod_mod])
theorem wb_shr {n k : Nat} (hn : n < 2 ^ 64) (hk : k < 64) : ((lN n).toUInt64 >>> ((nI k).toInt64.toUInt64 &&& Int64.toUInt64 63)).toInt64 = lN (n / 2 ^ k) := by
  rw [wb_cu k hk]
  apply wb_inj
  apply BitVec.eq_of_toNat_eq
  show ((lN n).toUInt64 >>> UInt64.ofNat k).toNat = (BitVec.ofNat 64 _).toNat
  have h1 : (UInt64.ofNat k).toNat = k := by
    show (BitVec.ofNat 64 k).toNat = k
    rw [BitVec.toNat_ofNat, Nat.mod_eq_of_lt (by omega)]
  have h2 : (lN n).toUInt64.toNat = n := wb_tn hn
  rw [UInt64.toNat_shiftRight, h1, h2, Nat.mod_eq_of_lt hk, Nat.shiftRight_eq_div_pow, BitVec.toNat_ofNat, Nat.mod_eq_of_lt (Nat.lt_of_le_of_lt (Nat.div_le_self _ _) hn)]
theorem wb_shl (n : Nat) {k : Nat} (hk : k < 64) : lN n <<< ((nI k).toInt64 &&& 63) = lN (n * 2 ^ k) := by
  rw [wb_c k hk]
  apply wb_inj
  rw [Int64.toBitVec_shiftLeft, wb_tb, wb_tb, wb_tb, wb_sm k hk]
  apply BitVec.eq_of_toNat_eq
  rw [BitVec.shiftLeft_eq', BitVec.toNat_shiftLeft, BitVec.toNat_ofNat, BitVec.toNat_ofNat, BitVec.toNat_ofNat, Nat.mod_eq_of_lt (show k < 2 ^ 64 by omega), Nat.shiftLeft_eq, Nat.mul_mod, Nat.mod_mod, ← Nat.mul_mod]
theorem wb_and {a b : Nat} (ha : a < 2 ^ 64) (hb : b < 2 ^ 64) : lN a &&& lN b = lN (a &&& b) := by
  apply wb_inj
  rw [Int64.toBitVec_and, wb_tb, wb_tb, wb_tb]
  apply BitVec.eq_of_toNat_eq
  rw [BitVec.toNat_and, BitVec.toNat_ofNat, BitVec.toNat_ofNat, BitVec.toNat_ofNat, Nat.mod_eq_of_lt ha, Nat.mod_eq_of_lt hb, Nat.mod_eq_of_lt (Nat.and_lt_two_pow _ hb)]
theorem wb_or {a b : Nat} (ha : a < 2 ^ 64) (hb : b < 2 ^ 64) : lN a ||| lN b = lN (a ||| b) := by
  apply wb_inj
  rw [Int64.toBitVec_or, wb_tb, wb_tb, wb_tb]
  apply BitVec.eq_of_toNat_eq
  rw [BitVec.toNat_or, BitVec.toNat_ofNat, BitVec.toNat_ofNat, BitVec.toNat_ofNat, Nat.mod_eq_of_lt ha, Nat.mod_eq_of_lt hb, Nat.mod_eq_of_lt (Nat.or_lt_two_pow ha hb)]
theorem wb_mask {n k : Nat} (hn : n < 2 ^ 64) (hk : k < 64) : lN n &&& lN (2 ^ k - 1) = lN (n % 2 ^ k) := by
  rw [wb_and hn (by have := wb_lt2 hk; omega), Nat.and_two_pow_sub_one_eq_mod]
theorem wb_a1 {n : Nat} (hn : n < 2 ^ 64) : lN n &&& 1 = lN (n % 2) := wb_mask (k := 1) hn (by decide)
theorem wb_bit {n k : Nat} (hn : n < 2 ^ 64) (hk : k < 64) : ((lN n).toUInt64 >>> ((nI k).toInt64.toUInt64 &&& Int64.toUInt64 63)).toInt64 &&& 1 = lN (n / 2 ^ k % 2) := by
  rw [wb_shr hn hk, wb_a1 (Nat.lt_of_le_of_lt (Nat.div_le_self _ _) hn)]
theorem wb_xor {q k : Nat} (hk : k < 63) (h : 2 ^ k ≤ q) (h2 : q < 2 ^ (k + 1)) : lN q ^^^ lN (2 ^ k) = lN (q - 2 ^ k) := by
  obtain ⟨r, rfl⟩ : ∃ r, q = 2 ^ k + r := ⟨q - 2 ^ k, by omega⟩
  have hr : r < 2 ^ k := by rw [Nat.pow_succ] at h2; omega
  have hx : (2 ^ k + r) ^^^ 2 ^ k = r := by
    apply Nat.eq_of_testBit_eq
    intro i
    rw [Nat.testBit_xor, Nat.testBit_two_pow]
    rcases Nat.lt_trichotomy i k with h | h | h
    · rw [Nat.testBit_two_pow_add_gt h]
      simp [show ¬ k = i by omega]
    · subst h
      rw [Nat.testBit_two_pow_add_eq]
      simp
    · have a1 : 2 ^ (k + 1) ≤ 2 ^ i := Nat.pow_le_pow_right (by decide) h
      rw [Nat.testBit_lt_two_pow (show 2 ^ k + r < 2 ^ i by omega), Nat.testBit_lt_two_pow (show r < 2 ^ i by omega)]
      simp [show ¬ k = i by omega]
  have b1 := wb_lt2 (show k + 1 < 64 by omega)
  have b2 := wb_lt2 (show k < 64 by omega)
  apply wb_inj
  rw [Int64.toBitVec_xor, wb_tb, wb_tb, wb_tb]
  apply BitVec.eq_of_toNat_eq
  rw [BitVec.toNat_xor, BitVec.toNat_ofNat, BitVec.toNat_ofNat, BitVec.toNat_ofNat, Nat.mod_eq_of_lt (by omega : 2 ^ k + r < 2 ^ 64), Nat.mod_eq_of_lt b2, hx, Nat.add_sub_cancel_left, Nat.mod_eq_of_lt (by omega)]
/-! ===== lN: masks, 'or' of parts that don't overlap is a sum ===== -/
theorem u_tn {n : Nat} (h : n < 2 ^ 64) : (UInt64.ofNat n).toNat = n := Nat.mod_eq_of_lt h
theorem g_and {a b c : Nat} (ha : a < 2 ^ 64) (hb : b < 2 ^ 64) (hc : a &&& b = c) : lN a &&& lN b = lN c := by
  subst hc
  have h : UInt64.ofNat a &&& UInt64.ofNat b = UInt64.ofNat (a &&& b) := UInt64.toNat_inj.mp (by rw [UInt64.toNat_and, u_tn ha, u_tn hb, u_tn (Nat.and_lt_two_pow a hb)])
  have h2 := congrArg UInt64.toInt64 h
  exact h2
theorem g_and1 {a : Nat} (ha : a < 2 ^ 64) : lN a &&& 1 = lN (a % 2) := g_and (b := 1) ha (by decide) (Nat.and_two_pow_sub_one_eq_mod a 1)
theorem g_mask {a s p : Nat} (hp : 2 ^ s = p) (hs : s < 64) (ha : a < 2 ^ 64) : lN a &&& lN (p - 1) = lN (a % p) := by
  subst hp
  have := Nat.pow_lt_pow_right (show 1 < 2 by decide) hs
  exact g_and ha (by omega) (Nat.and_two_pow_sub_one_eq_mod a s)
theorem g_or {k p a b : Nat} (hp : 2 ^ k = p) (ha : a < p) (h : b * p + a < 2 ^ 64) : lN (b * p) ||| lN a = lN (b * p + a) := by
  subst hp
  have h1 : b * 2 ^ k ||| a = b * 2 ^ k + a := by rw [← Nat.shiftLeft_eq, Nat.shiftLeft_add_eq_or_of_lt ha]
  have h3 : UInt64.ofNat (b * 2 ^ k) ||| UInt64.ofNat a = UInt64.ofNat (b * 2 ^ k + a) := UInt64.toNat_inj.mp (by rw [UInt64.toNat_or, u_tn (by omega), u_tn (by omega), u_tn h, h1])
  have h2 := congrArg UInt64.toInt64 h3
  exact h2
theorem g_or' {k p a b : Nat} (hp : 2 ^ k = p) (ha : a < p) (h : a + b * p < 2 ^ 64) : lN a ||| lN (b * p) = lN (a + b * p) := by
  rw [Int64.or_comm, g_or hp ha (by omega), Nat.add_comm]
theorem g_ushr {a k p : Nat} {y : UInt64} (hy : y = UInt64.ofNat k) (hk : k < 64) (hp : 2 ^ k = p) (ha : a < 2 ^ 64) : ((lN a).toUInt64 >>> y).toInt64 = lN (a / p) := by
  subst hy hp
  have h : UInt64.ofNat a >>> UInt64.ofNat k = UInt64.ofNat (a / 2 ^ k) := UInt64.toNat_inj.mp (by rw [UInt64.toNat_shiftRight, u_tn ha, u_tn (by omega), u_tn (Nat.lt_of_le_of_lt (Nat.div_le_self _ _) ha), Nat.mod_eq_of_lt hk, Nat.shiftRight_eq_div_pow])
  have h2 := congrArg UInt64.toInt64 h
  exact h2
theorem g_shl {a k p : Nat} {y : Int64} (hy : y.toBitVec.smod 64 = BitVec.ofNat 64 k) (hk : k < 64) (hp : 2 ^ k = p) (ha : a < 2 ^ 64) : lN a <<< y = lN (a * p) := by
  subst hp
  apply Int64.toBitVec_inj.mp
  rw [Int64.toBitVec_shiftLeft, hy]
  apply BitVec.eq_of_toNat_eq
  have hb : (lN a).toBitVec.toNat = a := Nat.mod_eq_of_lt ha
  have hk' : (BitVec.ofNat 64 k).toNat = k := Nat.mod_eq_of_lt (by omega)
  have h : ((lN a).toBitVec <<< BitVec.ofNat 64 k).toNat = (a * 2 ^ k) % 2 ^ 64 := by simp only [BitVec.shiftLeft_eq', BitVec.toNat_shiftLeft, hb, hk', Nat.shiftLeft_eq]
  exact h
/-! ===== lN to 2^62 under >> and >>> ===== -/
theorem pf_lI {a : Nat} (h : a < 2 ^ 63) : (lN a).toInt = (a : Int) := lg_ofNat_toInt h
theorem pf_shr {a d : Nat} {D : Int64} (hD : (D.toBitVec.smod 64).toNat = d) (h : a < 2 ^ 62) : lN a >>> D = lN (a / 2 ^ d) := by
  have hd : a / 2 ^ d ≤ a := Nat.div_le_self _ _
  apply Int64.toInt_inj.mp
  have e : (lN a >>> D).toInt = (lN a).toInt >>> d := by
    rw [← hD]
    exact BitVec.toInt_sshiftRight ..
  rw [e, Int.shiftRight_eq_div_pow, pf_lI (by omega), pf_lI (by omega)]
  rfl
theorem pf_ushr {a d : Nat} {D : UInt64} (hD : D.toNat % 64 = d) (h : a < 2 ^ 62) : ((lN a).toUInt64 >>> D).toInt64 = lN (a / 2 ^ d) := by
  have hd : a / 2 ^ d ≤ a := Nat.div_le_self _ _
  have e : (lN a).toUInt64 >>> D = UInt64.ofNat (a / 2 ^ d) := UInt64.toNat_inj.mp (by
    rw [UInt64.toNat_shiftRight, hD, Nat.shiftRight_eq_div_pow, UInt64.toNat_ofNat']
    show (UInt64.ofNat a).toNat / 2 ^ d = _
    rw [UInt64.toNat_ofNat', Nat.mod_eq_of_lt (by omega), Nat.mod_eq_of_lt (by omega)])
  rw [e]
  rfl
theorem pf_andw (x : Int64) : ∃ m, m < 2 ^ 32 ∧ x &&& 4294967295 = lN m := ⟨x.toBitVec.toNat % 2 ^ 32, Nat.mod_lt _ (by decide), Int64.toBitVec_inj.mp (BitVec.eq_of_toNat_eq (by
  show (x.toBitVec &&& 4294967295#64).toNat = (BitVec.ofNat 64 (x.toBitVec.toNat % 2 ^ 32)).toNat
  rw [BitVec.toNat_and, show (4294967295#64).toNat = 2 ^ 32 - 1 from by decide, Nat.and_two_pow_sub_one_eq_mod, BitVec.toNat_ofNat]
  omega))⟩
end
section
/-! Own rows: contracts of methods that only read (their answer, the heap as it was), and how they are called. -/
def zb_I (b : Bool) : Int32 := if b then 1 else 0
theorem zb_nar (b : Bool) : narrow .boolean (.int (zb_I b)) = .int (zb_I b) := by
  cases b
  · exact narrow_b0
  · exact narrow_b1
theorem zb_0 {b : Bool} : zb_I b = 0 ↔ b = false := by cases b <;> decide
theorem zb_1 {b : Bool} : ¬ zb_I b = 0 ↔ b = true := by cases b <;> decide
def zw_Q (v : Option Value) : Array Value → State → Outcome → State → Prop := fun _ st o t => o = .returned v ∧ t.heap = st.heap
def zw_P (av : List Value) (D : va_G) (cl : List vw_C) (ws : va_W) (tys : List (ClassId × FieldType)) : Array Value → State → Prop := va_Pc av (fun U => va_P D cl ws U.heap ∧ va_K D cl tys U)
theorem zw_bl {av : List Value} {D : va_G} {cl : List vw_C} {ws : va_W} {tys : List (ClassId × FieldType)} : FrameBlind (zw_P av D cl ws tys) := fun a U g mk q => ⟨q.1, q.2.1, va_K.moved (u := U) (U := U.calling g mk a) (Vm.Alike.refl U.vm) q.2.2⟩
theorem zw_preS {s : State} {H : Heap} {av : List Value} {D : va_G} {cl : List vw_C} {ws : va_W} {tys : List (ClassId × FieldType)} (hP : va_P D cl ws H) (hK : va_K D cl tys s) : PreS s H (zw_P av D cl ws tys) av := ⟨zw_bl, fun U hU hW => ⟨rfl, by rw [hU]; exact hP, va_K.moved hW.alike hK⟩⟩
theorem zw_preV {s : State} {H : Heap} {As : List Value} {a : Nat} {D : va_G} {cl : List vw_C} {ws : va_W} {tys : List (ClassId × FieldType)} (hP : va_P D cl ws H) (hK : va_K D cl tys s) {ci q0 : Nat} {fs : List Value} {q : vw_C} (hc : cl[ci]? = some q) (he : ws[q0]? = some (a, .inr (ci, fs))) : PreV s H q.1 a (zw_P (.ref a :: As) D cl ws tys) As := ⟨zw_bl, va_recv hK hP hc he, fun U hU hW => ⟨rfl, by rw [hU]; exact hP, va_K.moved hW.alike hK⟩⟩
/-- contracts of methods that change their cells: the cells before, the cells behind -/
def zw_Pw (av : List Value) (D : va_G) (cl : List vw_C) (ws : va_W) (tys : List (ClassId × FieldType)) (sz : Nat) : Array Value → State → Prop := va_Pc av (fun U => U.heap.size = sz ∧ va_P D cl ws U.heap ∧ va_K D cl tys U ∧ va_D (fun _ => True) ws)
def zw_Qw {S : Type} (v : S → Option Value) (post : S → Prop) (D : va_G) (cl : List vw_C) (w1 : S → va_W) (t1 : S → List (ClassId × FieldType)) (A : Nat → Prop) : Array Value → State → Outcome → State → Prop := fun _ st oc t => (∃ u : S, oc = .returned (v u) ∧ post u ∧ va_P D cl (w1 u) t.heap ∧ va_K D cl (t1 u) t ∧ va_D A (w1 u)) ∧ va_F A st t
theorem zw_blw {av : List Value} {D : va_G} {cl : List vw_C} {ws : va_W} {tys : List (ClassId × FieldType)} {sz : Nat} : FrameBlind (zw_Pw av D cl ws tys sz) := fun a U g mk q => ⟨q.1, q.2.1, q.2.2.1, va_K.moved (u := U) (U := U.calling g mk a) (Vm.Alike.refl U.vm) q.2.2.2.1, q.2.2.2.2⟩
theorem zw_preW {s : State} {H : Heap} {av : List Value} {A : Nat → Prop} {D : va_G} {cl : List vw_C} {ws : va_W} {tys : List (ClassId × FieldType)} (hP : va_P D cl ws H) (hK : va_K D cl tys s) (hD : va_D A ws) : PreS s H (zw_Pw av D cl ws tys H.size) av := ⟨zw_blw, fun U hU hW => ⟨rfl, by rw [hU], by rw [hU]; exact hP, va_K.moved hW.alike hK, hD.weaken (fun _ _ _ _ => trivial)⟩⟩
theorem zw_preWV {s : State} {H : Heap} {As : List Value} {a : Nat} {A : Nat → Prop} {D : va_G} {cl : List vw_C} {ws : va_W} {tys : List (ClassId × FieldType)} (hP : va_P D cl ws H) (hK : va_K D cl tys s) (hD : va_D A ws) {ci q0 : Nat} {fs : List Value} {q : vw_C} (hc : cl[ci]? = some q) (he : ws[q0]? = some (a, .inr (ci, fs))) : PreV s H q.1 a (zw_Pw (.ref a :: As) D cl ws tys H.size) As := ⟨zw_blw, va_recv hK hP hc he, fun U hU hW => ⟨rfl, by rw [hU], by rw [hU]; exact hP, va_K.moved hW.alike hK, hD.weaken (fun _ _ _ _ => trivial)⟩⟩
section
variable {p : Program} {l : Launch} {e : Env} {R : Room} {s : State} {m : MethodId} {args : Array Value} {below : List Frame} {meth : Method} {c : Code} {H : Heap} {locs : List Loc} {cells slots : Nat} {Q : State → Prop} {pc : Nat} {ls : Array Slot} {rest st0 : List Value} {a : Array Value}
theorem zw_call {v : Option Value} (hr : va_Run p l e R s m args below meth c H locs cells slots 0 0 (F0 m pc ls st0) rest (zw_Q v a) (fun _ => False)) (kk : W p l e R s m args below meth c H locs cells slots Q (F0 m (pc + 3) ls (v.toList ++ rest))) : W p l e R s m args below meth c H locs cells slots Q (F0 m pc ls st0) := by
  intro T hT X
  obtain ⟨v', st₀, t, T', L, h0, X', hL, e1, e2, ⟨hv, hh⟩, st⟩ := hr T hT X
  cases hv
  obtain ⟨t2, a1, b1⟩ := kk T' (by rw [e1, hh, h0]) (Stand.forget X' (fun q h => (hL q h).elim))
  exact ⟨t2, st t2 a1, b1⟩
theorem zw_ci {r : Int32} (hr : va_Run p l e R s m args below meth c H locs cells slots 0 0 (F0 m pc ls st0) rest (zw_Q (some (.int r)) a) (fun _ => False)) (kk : W p l e R s m args below meth c H locs cells slots Q (F0 m (pc + 3) ls (.int r :: rest))) : W p l e R s m args below meth c H locs cells slots Q (F0 m pc ls st0) := zw_call hr kk
theorem zw_cl {r : Int64} (hr : va_Run p l e R s m args below meth c H locs cells slots 0 0 (F0 m pc ls st0) rest (zw_Q (some (.long r)) a) (fun _ => False)) (kk : W p l e R s m args below meth c H locs cells slots Q (F0 m (pc + 3) ls (.long r :: rest))) : W p l e R s m args below meth c H locs cells slots Q (F0 m pc ls st0) := zw_call hr kk
theorem zw_eqi {x y : Int32} (h : x = y) (kk : W p l e R s m args below meth c H locs cells slots Q (F0 m pc ls (.int y :: rest))) : W p l e R s m args below meth c H locs cells slots Q (F0 m pc ls (.int x :: rest)) := by rw [h]; exact kk
theorem zw_eql {x y : Int64} (h : x = y) (kk : W p l e R s m args below meth c H locs cells slots Q (F0 m pc ls (.long y :: rest))) : W p l e R s m args below meth c H locs cells slots Q (F0 m pc ls (.long x :: rest)) := by rw [h]; exact kk
theorem zw_ifeq {cc : ByteArray} (hexec : p.tables.exec = Jvm.exec) (hb : c.code = cc) {b : Bool} {off : Int} {tgt : Nat} (hdg : decode cc pc = .ok (.ifCond .eq off, 3)) (ht : (pc : Int) + off = (tgt : Int))
    (kt : b = false → W p l e R s m args below meth c H locs cells slots Q (F0 m tgt ls rest)) (kf : b = true → W p l e R s m args below meth c H locs cells slots Q (F0 m (pc + 3) ls rest)) : W p l e R s m args below meth c H locs cells slots Q (F0 m pc ls (.int (zb_I b) :: rest)) := lv_if_eq hexec hb hdg ht (fun h => kt (zb_0.mp h)) (fun h => kf (zb_1.mp h))
theorem zw_ifne {cc : ByteArray} (hexec : p.tables.exec = Jvm.exec) (hb : c.code = cc) {b : Bool} {off : Int} {tgt : Nat} (hdg : decode cc pc = .ok (.ifCond .ne off, 3)) (ht : (pc : Int) + off = (tgt : Int))
    (kt : b = true → W p l e R s m args below meth c H locs cells slots Q (F0 m tgt ls rest)) (kf : b = false → W p l e R s m args below meth c H locs cells slots Q (F0 m (pc + 3) ls rest)) : W p l e R s m args below meth c H locs cells slots Q (F0 m pc ls (.int (zb_I b) :: rest)) := lv_if_ne hexec hb hdg ht (fun h => kt (zb_1.mp h)) (fun h => kf (zb_0.mp h))
theorem zw_callw {S : Type} {mc ms : Nat} {v : S → Option Value} {post : S → Prop} {w1 : S → va_W} {t1 : S → List (ClassId × FieldType)} {D : va_G} {cl : List vw_C} {ws wc wr : va_W} {A0 : Nat → Prop} {H0 : Heap}
    (hr : va_Run p l e R s m args below meth c H locs cells slots mc ms (F0 m pc ls st0) rest (zw_Qw v post D cl w1 t1 (va_A wc H.size) a) (va_A wc H.size))
    (hP : va_P D cl ws H) (hD : va_D A0 ws) (hS : va_S A0 H0 H locs) (hA : ∀ q, H0.size ≤ q → A0 q) (isC isR : List Nat) (hC : isC.map (fun i => ws[i]?) = wc.map some) (hR : isR.map (fun i => ws[i]?) = wr.map some) (hn : va_nd isR = true) (hdis : ∀ i ∈ isR, i ∉ isC)
    (kk : ∀ (u : S) (H1 : Heap) (locs1 : List Loc), post u → va_P D cl (wr ++ w1 u) H1 → va_D A0 (wr ++ w1 u) → va_K D cl (t1 u) s → va_S A0 H0 H1 locs1 → W p l e R s m args below meth c H1 locs1 (cells + mc) (slots + ms) Q (F0 m (pc + 3) ls ((v u).toList ++ rest))) : W p l e R s m args below meth c H locs cells slots Q (F0 m pc ls st0) := by
  have hF := va_free (wc := wc) hD hS hA isC hC
  intro T hT X
  obtain ⟨v', st₀, t, T', L, h0, X', hL, e1, e2, ⟨⟨u, hv, hp, hP1, hK1, hD1⟩, hz, hk⟩, st⟩ := hr T hT X
  cases hv
  rw [h0] at hz hk
  have hk1 : ∀ q : Nat, q < H.size → ¬ va_A wc H.size q → T'.heap[q]? = H[q]? := fun q h1 h2 => by rw [e1]; exact hk q h1 h2
  rw [← e1] at hP1
  have hvm : s.vm.Alike t.vm := by rw [← e2]; exact X'.warmed.alike
  have hK2 : va_K D cl (t1 u) s := va_K.moved hvm.symm hK1
  obtain ⟨hPj, hDj⟩ := va_join (wr := wr) (w1 := w1 u) hP hD isC isR hC hR hn hdis hk1 hF hP1 hD1
  obtain ⟨t2, a1, b1⟩ := kk u T'.heap (locs ++ L) hp hPj hDj hK2 ⟨Nat.le_trans hS.1 (by rw [e1]; exact hz), fun q h1 h2 => by rw [e1, hk q (Nat.lt_of_lt_of_le h1 hS.1) (fun z => h2 (hF q z))]; exact hS.2.1 q h1 h2, fun q hq => by
      rcases List.mem_append.mp hq with h | h
      · exact hS.2.2 q h
      · exact hF _ (hL q h)⟩ T' rfl X'
  exact ⟨t2, st t2 a1, b1⟩
end
end
section
/-! Own rows: sorted lists of keys, how many lie before a key, the row with one more or some fewer, how many different beginnings. -/
/-- how many keys lie before k -/
def zk_c (ks : List Nat) (k : Nat) : Nat := ks.countP (fun x => decide (x < k))
theorem zk_c_le (ks : List Nat) (k : Nat) : zk_c ks k ≤ ks.length := List.countP_le_length
theorem zk_c_cons (x : Nat) (ks : List Nat) (k : Nat) : zk_c (x :: ks) k = zk_c ks k + if x < k then 1 else 0 := by
  simp [zk_c, List.countP_cons]
theorem zk_c_0 {x : Nat} {ks : List Nat} {k : Nat} (h : ∀ y ∈ ks, x < y) (hk : k ≤ x) : zk_c ks k = 0 := by
  unfold zk_c
  rw [List.countP_eq_zero]
  intro a ha
  have := h a ha
  simp only [decide_eq_true_eq]
  omega
theorem zk_mem_getD {ks : List Nat} {j : Nat} (h : j < ks.length) : ks.getD j 0 ∈ ks := by
  rw [List.getD_eq_getElem?_getD, List.getElem?_eq_getElem h]
  exact List.getElem_mem h
theorem zk_lt (ks : List Nat) (k : Nat) (hp : ks.Pairwise (· < ·)) : ∀ j, j < ks.length → (ks.getD j 0 < k ↔ j < zk_c ks k) := by
  induction ks with
  | nil => intro j h; simp at h
  | cons x xs ih =>
    intro j h
    rw [List.pairwise_cons] at hp
    rw [zk_c_cons]
    by_cases hx : x < k
    · rw [if_pos hx]
      cases j with
      | zero => simp [hx]
      | succ j =>
        have h2 := ih hp.2 j (by simpa using h)
        rw [List.getD_cons_succ, h2]
        omega
    · rw [if_neg hx, zk_c_0 hp.1 (by omega)]
      cases j with
      | zero => simp only [List.getD_cons_zero]; omega
      | succ j =>
        have hj : j < xs.length := by simpa using h
        have h2 := hp.1 _ (zk_mem_getD hj)
        rw [List.getD_cons_succ]
        omega
theorem zk_take (ks : List Nat) (k : Nat) (hp : ks.Pairwise (· < ·)) : ks.take (zk_c ks k) = ks.filter (fun x => decide (x < k)) := by
  induction ks with
  | nil => simp
  | cons x xs ih =>
    rw [List.pairwise_cons] at hp
    rw [zk_c_cons]
    by_cases hx : x < k
    · rw [if_pos hx, List.take_succ_cons, ih hp.2, List.filter_cons_of_pos (by simpa using hx)]
    · rw [if_neg hx, zk_c_0 hp.1 (by omega), List.filter_cons_of_neg (by simpa using hx)]
      symm
      rw [show 0 + 0 = 0 from rfl, List.take_zero, List.filter_eq_nil_iff]
      intro a ha
      have := hp.1 a ha
      simp only [decide_eq_true_eq]
      omega
theorem zk_drop (ks : List Nat) (k : Nat) (hp : ks.Pairwise (· < ·)) : ks.drop (zk_c ks k) = ks.filter (fun x => decide (k ≤ x)) := by
  induction ks with
  | nil => simp
  | cons x xs ih =>
    rw [List.pairwise_cons] at hp
    rw [zk_c_cons]
    by_cases hx : x < k
    · rw [if_pos hx, List.drop_succ_cons, ih hp.2, List.filter_cons_of_neg (by simp only [decide_eq_true_eq]; omega)]
    · rw [if_neg hx, zk_c_0 hp.1 (by omega)]
      symm
      rw [show 0 + 0 = 0 from rfl, List.drop_zero, List.filter_eq_self]
      intro a ha
      simp only [decide_eq_true_eq]
      rcases List.mem_cons.mp ha with rfl | h
      · omega
      · have := hp.1 a h; omega
/-- a key comes -/
def zk_ins (ks : List Nat) (k : Nat) : List Nat := ks.take (zk_c ks k) ++ k :: ks.drop (zk_c ks k)
theorem zk_ins_len (ks : List Nat) (k : Nat) : (zk_ins ks k).length = ks.length + 1 := by
  have := zk_c_le ks k
  simp only [zk_ins, List.length_append, List.length_take, List.length_cons, List.length_drop]
  omega
theorem zk_ins_perm (ks : List Nat) (k : Nat) : (zk_ins ks k).Perm (k :: ks) := by
  unfold zk_ins
  refine List.perm_middle.trans ?_
  rw [List.take_append_drop]
theorem zk_ins_sorted {ks : List Nat} {k : Nat} (hp : ks.Pairwise (· < ·)) (hk : k ∉ ks) : (zk_ins ks k).Pairwise (· < ·) := by
  unfold zk_ins
  rw [zk_take ks k hp, zk_drop ks k hp, List.pairwise_append]
  refine ⟨hp.filter _, ?_, ?_⟩
  · rw [List.pairwise_cons]
    refine ⟨fun a ha => ?_, hp.filter _⟩
    rw [List.mem_filter, decide_eq_true_eq] at ha
    have : a ≠ k := fun e => hk (e ▸ ha.1)
    omega
  · intro a ha b hb
    rw [List.mem_filter, decide_eq_true_eq] at ha
    rcases List.mem_cons.mp hb with rfl | hb
    · exact ha.2
    · rw [List.mem_filter, decide_eq_true_eq] at hb
      omega
theorem zk_ins_get {ks : List Nat} {k j : Nat} : (zk_ins ks k).getD j 0 = if j < zk_c ks k then ks.getD j 0 else if j = zk_c ks k then k else ks.getD (j - 1) 0 := by
  have hc := zk_c_le ks k
  generalize hC : zk_c ks k = C at hc
  unfold zk_ins
  rw [hC]
  simp only [List.getD_eq_getElem?_getD]
  rw [List.getElem?_append, List.length_take, Nat.min_eq_left hc]
  by_cases h1 : j < C
  · rw [if_pos h1, if_pos h1, List.getElem?_take, if_pos h1]
  · rw [if_neg h1, if_neg h1]
    by_cases h2 : j = C
    · rw [if_pos h2, h2, Nat.sub_self, List.getElem?_cons_zero]; rfl
    · rw [if_neg h2]
      obtain ⟨i, hi⟩ : ∃ i, j - C = i + 1 := ⟨j - C - 1, by omega⟩
      rw [hi, List.getElem?_cons_succ, List.getElem?_drop]
      congr 2
      omega
/-- the keys from lo on, ahead of hi, go -/
def zk_del (ks : List Nat) (a b : Nat) : List Nat := ks.take a ++ ks.drop b
theorem zk_del_len {ks : List Nat} {a b : Nat} (h : a ≤ b) (hb : b ≤ ks.length) : (zk_del ks a b).length = ks.length - (b - a) := by
  simp only [zk_del, List.length_append, List.length_take, List.length_drop]
  omega
theorem zk_del_get {ks : List Nat} {a b j : Nat} (h : a ≤ b) (hb : b ≤ ks.length) : (zk_del ks a b).getD j 0 = if j < a then ks.getD j 0 else ks.getD (b + (j - a)) 0 := by
  unfold zk_del
  simp only [List.getD_eq_getElem?_getD]
  rw [List.getElem?_append, List.length_take, Nat.min_eq_left (by omega)]
  by_cases h1 : j < a
  · rw [if_pos h1, if_pos h1, List.getElem?_take, if_pos h1]
  · rw [if_neg h1, if_neg h1, List.getElem?_drop]
theorem zk_del_eq {ks : List Nat} {lo hi : Nat} (hp : ks.Pairwise (· < ·)) (hlh : lo ≤ hi) : zk_del ks (zk_c ks lo) (zk_c ks hi) = ks.filter (fun x => !(decide (lo ≤ x) && decide (x < hi))) := by
  unfold zk_del
  rw [zk_take ks lo hp, zk_drop ks hi hp]
  induction ks with
  | nil => rfl
  | cons x xs ih =>
    rw [List.pairwise_cons] at hp
    have ih := ih hp.2
    by_cases h1 : x < lo
    · rw [List.filter_cons_of_pos (by simpa using h1), List.filter_cons_of_neg (by simp only [decide_eq_true_eq]; omega), List.filter_cons_of_pos (by simp; omega), List.cons_append, ih]
    · have e1 : xs.filter (fun x => decide (x < lo)) = [] := by
        rw [List.filter_eq_nil_iff]
        intro a ha
        have := hp.1 a ha
        simp only [decide_eq_true_eq]
        omega
      rw [List.filter_cons_of_neg (by simpa using h1), e1, List.nil_append]
      rw [e1, List.nil_append] at ih
      by_cases h2 : hi ≤ x
      · rw [List.filter_cons_of_pos (by simpa using h2), List.filter_cons_of_pos (by simp; omega), ih]
      · rw [List.filter_cons_of_neg (by simpa using h2), List.filter_cons_of_neg (by simp; omega), ih]
theorem zk_mid_eq {ks : List Nat} {lo hi : Nat} (hp : ks.Pairwise (· < ·)) (hlh : lo ≤ hi) : (ks.take (zk_c ks hi)).drop (zk_c ks lo) = ks.filter (fun x => decide (lo ≤ x) && decide (x < hi)) := by
  rw [zk_take ks hi hp]
  have e : zk_c ks lo = zk_c (ks.filter (fun x => decide (x < hi))) lo := by
    unfold zk_c
    rw [List.countP_filter]
    apply List.countP_congr
    intro x _
    simp only [decide_eq_true_eq, Bool.and_eq_true]
    omega
  rw [e, zk_drop _ lo (hp.filter _), List.filter_filter]
theorem zk_c_mono (ks : List Nat) {a b : Nat} (h : a ≤ b) : zk_c ks a ≤ zk_c ks b := by
  unfold zk_c
  apply List.countP_mono_left
  intro x _
  simp only [decide_eq_true_eq]
  omega
theorem zk_c_sub (ks : List Nat) {lo hi : Nat} (h : lo ≤ hi) : zk_c ks hi - zk_c ks lo = ks.countP (fun x => decide (lo ≤ x) && decide (x < hi)) := by
  have e : zk_c ks hi = zk_c ks lo + ks.countP (fun x => decide (lo ≤ x) && decide (x < hi)) := by
    induction ks with
    | nil => rfl
    | cons x xs ih =>
      rw [zk_c_cons, zk_c_cons, List.countP_cons, ih]
      simp only [Bool.and_eq_true, decide_eq_true_eq]
      split <;> split <;> split <;> omega
  omega
/-- how many different numbers a list has -/
def zk_nd : List Nat → Nat
  | [] => 0
  | x :: xs => zk_nd xs + if x ∈ xs then 0 else 1
theorem zk_nd_perm {a b : List Nat} (h : a.Perm b) : zk_nd a = zk_nd b := by
  induction h with
  | nil => rfl
  | cons x p ih => simp only [zk_nd, ih, p.mem_iff]
  | swap x y l =>
    simp only [zk_nd, List.mem_cons]
    by_cases e : x = y
    · subst e; rfl
    · have e' : ¬ y = x := fun h => e h.symm
      simp only [e, e', false_or]
      omega
  | trans _ _ ih1 ih2 => rw [ih1, ih2]
/-- how often a number comes that isn't the last one -/
def zk_ch : Option Nat → List Nat → Nat
  | _, [] => 0
  | o, b :: l => (if some b = o then 0 else 1) + zk_ch (some b) l
theorem zk_ch_some (b : Nat) (l : List Nat) (h : (b :: l).Pairwise (· ≤ ·)) : zk_ch (some b) l + 1 = zk_nd (b :: l) := by
  induction l generalizing b with
  | nil => rfl
  | cons d l ih =>
    rw [List.pairwise_cons] at h
    have ih := ih d h.2
    have h2 := List.pairwise_cons.mp h.2
    rw [zk_nd, ← ih, zk_ch]
    have hd := h.1 d (List.mem_cons_self)
    by_cases e : d = b
    · subst e
      simp
    · have hn : b ∉ d :: l := by
        intro hm
        rcases List.mem_cons.mp hm with q | q
        · exact e q.symm
        · have := h2.1 b q; omega
      rw [if_neg (by intro q; exact e (Option.some.inj q)), if_neg hn]
      omega
theorem zk_ch_none (l : List Nat) (h : l.Pairwise (· ≤ ·)) : zk_ch none l = zk_nd l := by
  cases l with
  | nil => rfl
  | cons b l =>
    rw [← zk_ch_some b l h, zk_ch, if_neg (by simp)]
    omega
end
section
/-! Own rows: numbers of keys, keys as longs -/
def zf_n (x : Int32) : Bool := decide (¬ x < 0) && decide (¬ (1048575 : Int32) < x)
theorem zf_n_of {x : Int32} (h : zf_n x = true) : ∃ j : Nat, j < 1048576 ∧ x = nI j := by
  unfold zf_n at h
  rw [Bool.and_eq_true, decide_eq_true_eq, decide_eq_true_eq] at h
  obtain ⟨j, hj, e⟩ := nI_of2 (x := x) (M := 1048575) (n := 1048575) (by decide) h.1 (by
    have := h.2
    rw [Int32.lt_iff_toInt_lt] at this
    rw [Int32.le_iff_toInt_le]
    omega)
  exact ⟨j, by omega, e⟩
theorem zf_n_nI {j : Nat} (h : j < 1048576) : zf_n (nI j) = true := by
  unfold zf_n
  rw [Bool.and_eq_true, decide_eq_true_eq, decide_eq_true_eq]
  refine ⟨nI_pos (by omega), ?_⟩
  rw [show (1048575 : Int32) = nI 1048575 from rfl]
  exact nI_nlt (by omega) (by omega)
def zk_K (a b c : Nat) : Nat := a * 1099511627776 + b * 1048576 + c
theorem zk_K_lt {a b c : Nat} (ha : a < 1048576) (hb : b < 1048576) (hc : c < 1048576) : zk_K a b c < 1152921504606846976 := by unfold zk_K; omega
theorem zk_or3 {a b c : Nat} (ha : a < 1048576) (hb : b < 1048576) (hc : c < 1048576) : (lN (a * 1099511627776) ||| lN (b * 1048576)) ||| lN c = lN (zk_K a b c) := by
  rw [g_or (k := 40) (p := 1099511627776) (a := b * 1048576) (b := a) (by decide) (by omega) (by omega)]
  rw [show a * 1099511627776 + b * 1048576 = (a * 1048576 + b) * 1048576 by omega]
  rw [g_or (k := 20) (p := 1048576) (a := c) (b := a * 1048576 + b) (by decide) hc (by omega)]
  exact congrArg lN (by unfold zk_K; omega)
theorem zk_sh0 {x : Nat} : lN x <<< ((nI 0).toInt64 &&& 63) = lN x := by rw [wb_shl x (k := 0) (by decide), Nat.pow_zero, Nat.mul_one]
theorem zk_sh1 {x : Nat} : lN x <<< ((nI 20).toInt64 &&& 63) = lN (x * 1048576) := by rw [wb_shl x (k := 20) (by decide)]
theorem zk_sh2 {x : Nat} : lN x <<< ((nI 40).toInt64 &&& 63) = lN (x * 1099511627776) := by rw [wb_shl x (k := 40) (by decide)]
def zf_sh (p : Int32) : Int32 := 20 * (2 - p)
theorem zf_sh0 : zf_sh 0 = nI 40 := by decide
theorem zf_sh1 : zf_sh 1 = nI 20 := by decide
theorem zf_sh2 : zf_sh 2 = nI 0 := by decide
def zf_key (a b c : Int32) : Int64 := ((Int32.toInt64 a <<< (Int32.toInt64 (zf_sh 0) &&& 63)) ||| (Int32.toInt64 b <<< (Int32.toInt64 (zf_sh 1) &&& 63))) ||| Int32.toInt64 c
theorem zf_key_nI {a b c : Nat} (ha : a < 1048576) (hb : b < 1048576) (hc : c < 1048576) : zf_key (nI a) (nI b) (nI c) = lN (zk_K a b c) := by
  unfold zf_key
  rw [zf_sh0, zf_sh1, nI_l (n := a) (by omega), nI_l (n := b) (by omega), nI_l (n := c) (by omega), zk_sh2, zk_sh1]
  exact zk_or3 ha hb hc
def zf_kt (px py pz x y z : Int32) : Int64 := ((Int32.toInt64 x <<< (Int32.toInt64 (zf_sh px) &&& 63)) ||| (Int32.toInt64 y <<< (Int32.toInt64 (zf_sh py) &&& 63))) ||| (Int32.toInt64 z <<< (Int32.toInt64 (zf_sh pz) &&& 63))
/-- at which place of the key x, y and z stand -/
def zk_px (o : Nat) : Nat := match o with | 0 => 0 | 1 => 0 | 2 => 1 | 3 => 2 | 4 => 1 | _ => 2
def zk_py (o : Nat) : Nat := match o with | 0 => 1 | 1 => 2 | 2 => 0 | 3 => 0 | 4 => 2 | _ => 1
def zk_pz (o : Nat) : Nat := match o with | 0 => 2 | 1 => 1 | 2 => 2 | 3 => 1 | 4 => 0 | _ => 0
def zk_key (o x y z : Nat) : Nat := match o with
  | 0 => zk_K x y z | 1 => zk_K x z y | 2 => zk_K y x z | 3 => zk_K y z x | 4 => zk_K z x y | _ => zk_K z y x
theorem zf_kt_nI {o x y z : Nat} (ho : o < 6) (ha : x < 1048576) (hb : y < 1048576) (hc : z < 1048576) : zf_kt (nI (zk_px o)) (nI (zk_py o)) (nI (zk_pz o)) (nI x) (nI y) (nI z) = lN (zk_key o x y z) := by
  have s0 : zf_sh (nI 0) = nI 40 := by decide
  have s1 : zf_sh (nI 1) = nI 20 := by decide
  have s2 : zf_sh (nI 2) = nI 0 := by decide
  unfold zf_kt
  rw [nI_l (n := x) (by omega), nI_l (n := y) (by omega), nI_l (n := z) (by omega)]
  match o, ho with
  | 0, _ =>
    simp only [zk_px, zk_py, zk_pz, zk_key, s0, s1, s2, zk_sh0, zk_sh1, zk_sh2]
    exact zk_or3 ha hb hc
  | 1, _ =>
    simp only [zk_px, zk_py, zk_pz, zk_key, s0, s1, s2, zk_sh0, zk_sh1, zk_sh2]
    rw [← zk_or3 ha hc hb, Int64.or_assoc, Int64.or_comm (lN y), ← Int64.or_assoc]
  | 2, _ =>
    simp only [zk_px, zk_py, zk_pz, zk_key, s0, s1, s2, zk_sh0, zk_sh1, zk_sh2]
    rw [← zk_or3 hb ha hc, Int64.or_comm (lN (x * 1048576))]
  | 3, _ =>
    simp only [zk_px, zk_py, zk_pz, zk_key, s0, s1, s2, zk_sh0, zk_sh1, zk_sh2]
    rw [← zk_or3 hb hc ha, Int64.or_assoc, Int64.or_comm (lN x)]
  | 4, _ =>
    simp only [zk_px, zk_py, zk_pz, zk_key, s0, s1, s2, zk_sh0, zk_sh1, zk_sh2]
    rw [← zk_or3 hc ha hb, Int64.or_comm (lN (x * 1048576) ||| lN y), ← Int64.or_assoc]
  | 5, _ =>
    simp only [zk_px, zk_py, zk_pz, zk_key, s0, s1, s2, zk_sh0, zk_sh1, zk_sh2]
    rw [← zk_or3 hc hb ha, Int64.or_comm (lN x ||| lN (y * 1048576)), Int64.or_comm (lN x), ← Int64.or_assoc]
theorem zk_key_lt {o x y z : Nat} (ha : x < 1048576) (hb : y < 1048576) (hc : z < 1048576) : zk_key o x y z < 1152921504606846976 := by
  unfold zk_key
  split <;> exact zk_K_lt (by assumption) (by assumption) (by assumption)
/-- a key's numbers -/
def zk_at (k p : Nat) : Nat := match p with | 0 => k / 1099511627776 | 1 => k / 1048576 % 1048576 | _ => k % 1048576
def zf_cn (cur : Int64) (p : Int32) : Int32 := Int64.toInt32 (cur >>> (Int32.toInt64 (zf_sh p) &&& 63)) &&& 1048575
theorem zf_and20 (n : Nat) : nI n &&& 1048575 = nI (n % 1048576) := by
  rw [pk_and (nI n) (m := 1048575) 20 (by decide)]
  refine congrArg nI ?_
  show (BitVec.ofNat 32 n).toNat % 2 ^ 20 = n % 1048576
  rw [BitVec.toNat_ofNat]
  omega
theorem zf_cn_nI {k p : Nat} (hk : k < 1152921504606846976) (hp : p < 3) : zf_cn (lN k) (nI p) = nI (zk_at k p) := by
  unfold zf_cn
  match p, hp with
  | 0, _ =>
    rw [show zf_sh (nI 0) = nI 40 by decide, pf_shr (d := 40) (by decide) (by omega), lN_i, zf_and20]
    refine congrArg nI ?_
    show k / 1099511627776 % 1048576 = k / 1099511627776
    omega
  | 1, _ =>
    rw [show zf_sh (nI 1) = nI 20 by decide, pf_shr (d := 20) (by decide) (by omega), lN_i, zf_and20]
    rfl
  | 2, _ =>
    rw [show zf_sh (nI 2) = nI 0 by decide, pf_shr (d := 0) (by decide) (by omega), lN_i, zf_and20]
    refine congrArg nI ?_
    show k / 1 % 1048576 = k % 1048576
    omega
theorem zk_at_K {a b c : Nat} (ha : a < 1048576) (hb : b < 1048576) (hc : c < 1048576) : zk_at (zk_K a b c) 0 = a ∧ zk_at (zk_K a b c) 1 = b ∧ zk_at (zk_K a b c) 2 = c := by
  unfold zk_at zk_K
  simp only
  omega
theorem zk_K_at {k : Nat} (hk : k < 1152921504606846976) : zk_K (zk_at k 0) (zk_at k 1) (zk_at k 2) = k ∧ zk_at k 0 < 1048576 ∧ zk_at k 1 < 1048576 ∧ zk_at k 2 < 1048576 := by
  unfold zk_at zk_K
  simp only
  omega
theorem zk_K_inj {a b c d e f : Nat} (ha : a < 1048576) (hb : b < 1048576) (hc : c < 1048576) (hd : d < 1048576) (he : e < 1048576) (hf : f < 1048576) (h : zk_K a b c = zk_K d e f) : a = d ∧ b = e ∧ c = f := by
  unfold zk_K at h
  omega
/-! Own rows: which keys begin with the first n of a, b, c; the stretch of the row that they are -/
theorem zk_mem_iff {ks : List Nat} {k : Nat} (hp : ks.Pairwise (· < ·)) : k ∈ ks ↔ (zk_c ks k < ks.length ∧ ks.getD (zk_c ks k) 0 = k) := by
  constructor
  · intro h
    obtain ⟨j, hj, e⟩ := List.mem_iff_getElem.mp h
    have e : ks.getD j 0 = k := by rw [List.getD_eq_getElem?_getD, List.getElem?_eq_getElem hj]; exact e
    have h1 := zk_lt ks k hp j hj
    rw [e] at h1
    have h2 : zk_c ks k ≤ j := by omega
    have h3 := zk_lt ks k hp (zk_c ks k) (by omega)
    have h4 := zk_lt ks (k + 1) hp j hj
    rw [e] at h4
    have h5 := zk_lt ks (k + 1) hp (zk_c ks k) (by omega)
    exact ⟨by omega, by omega⟩
  · intro h
    rw [← h.2]
    exact zk_mem_getD h.1
def zf_nn (a b c : Int32) : Bool := zf_n a && (zf_n b && zf_n c)
def zf_fn (n a b c : Int32) : Bool := (decide (n < 1) || zf_n a) && ((decide (n < 2) || zf_n b) && (decide (n < 3) || zf_n c))
def zf_first (n a b c : Int32) : Int64 := zf_key (if 1 ≤ n then a else 0) (if 2 ≤ n then b else 0) (if 3 ≤ n then c else 0)
def zf_all (n : Int32) : Int64 := (1 : Int64) <<< (Int32.toInt64 (20 * (3 - n)) &&& 63)
/-- the key k begins with the first i of a, b, c -/
def zk_m (i : Nat) (a b c : Int32) (k : Nat) : Bool := (decide (i < 1) || decide (nI (zk_at k 0) = a)) && ((decide (i < 2) || decide (nI (zk_at k 1) = b)) && (decide (i < 3) || decide (nI (zk_at k 2) = c)))
def zk_w (i : Nat) : Nat := match i with | 0 => 1152921504606846976 | 1 => 1099511627776 | 2 => 1048576 | _ => 1
theorem zf_all_nI {i : Nat} (hi : i ≤ 3) : zf_all (nI i) = lN (zk_w i) := by
  unfold zf_all
  match i, hi with
  | 0, _ => decide
  | 1, _ => decide
  | 2, _ => decide
  | 3, _ => decide
theorem zk_at_n {k : Nat} (hk : k < 1152921504606846976) (p : Nat) : zf_n (nI (zk_at k p)) = true := by
  apply zf_n_nI
  unfold zk_at
  split <;> omega
theorem zf_fn_no {i : Nat} {a b c : Int32} (hi : i ≤ 3) (h : zf_fn (nI i) a b c = false) {k : Nat} (hk : k < 1152921504606846976) : zk_m i a b c k = false := by
  cases hm : zk_m i a b c k with
  | false => rfl
  | true =>
    exfalso
    have h0 := zk_at_n hk 0
    have h1 := zk_at_n hk 1
    have h2 := zk_at_n hk 2
    unfold zk_m at hm
    simp only [Bool.and_eq_true, Bool.or_eq_true, decide_eq_true_eq] at hm
    obtain ⟨q0, q1, q2⟩ := hm
    have e : zf_fn (nI i) a b c = true := by
      unfold zf_fn
      simp only [Bool.and_eq_true, Bool.or_eq_true, decide_eq_true_eq]
      refine ⟨?_, ?_, ?_⟩
      · rcases q0 with q | q
        · exact Or.inl (nI_lt (b := 1) q (by omega))
        · exact Or.inr (q ▸ h0)
      · rcases q1 with q | q
        · exact Or.inl (nI_lt (b := 2) q (by omega))
        · exact Or.inr (q ▸ h1)
      · rcases q2 with q | q
        · exact Or.inl (nI_lt (b := 3) q (by omega))
        · exact Or.inr (q ▸ h2)
    rw [e] at h
    cases h
theorem zk_nI_at {k p : Nat} {x : Nat} (hk : k < 1152921504606846976) (hx : x < 1048576) : nI (zk_at k p) = nI x ↔ zk_at k p = x := by
  apply nI_eq
  · unfold zk_at
    split <;> omega
  · omega
theorem zf_first_ok {i : Nat} {a b c : Int32} (hi : i ≤ 3) (h : zf_fn (nI i) a b c = true) : ∃ lo, zf_first (nI i) a b c = lN lo ∧ lo + zk_w i ≤ 1152921504606846976 ∧ ∀ k, k < 1152921504606846976 → (zk_m i a b c k = (decide (lo ≤ k) && decide (k < lo + zk_w i))) := by
  unfold zf_fn at h
  simp only [Bool.and_eq_true, Bool.or_eq_true, decide_eq_true_eq] at h
  obtain ⟨h0, h1, h2⟩ := h
  match i, hi with
  | 0, _ =>
    refine ⟨0, ?_, by decide, ?_⟩
    · show zf_key 0 0 0 = lN 0
      decide
    · intro k hk
      unfold zk_m zk_w
      simp [hk]
  | 1, _ =>
    have h0 : zf_n a = true := by rcases h0 with q | q; exact absurd q (by decide); exact q
    obtain ⟨x, hx, rfl⟩ := zf_n_of h0
    refine ⟨zk_K x 0 0, ?_, ?_, ?_⟩
    · show zf_key (nI x) 0 0 = _
      exact zf_key_nI (b := 0) (c := 0) hx (by omega) (by omega)
    · unfold zk_K zk_w; simp only; omega
    · intro k hk
      rw [Bool.eq_iff_iff]
      unfold zk_m
      simp only [Bool.and_eq_true, Bool.or_eq_true, decide_eq_true_eq, zk_nI_at hk hx]
      unfold zk_K zk_w zk_at
      simp only
      omega
  | 2, _ =>
    have h0 : zf_n a = true := by rcases h0 with q | q; exact absurd q (by decide); exact q
    have h1 : zf_n b = true := by rcases h1 with q | q; exact absurd q (by decide); exact q
    obtain ⟨x, hx, rfl⟩ := zf_n_of h0
    obtain ⟨y, hy, rfl⟩ := zf_n_of h1
    refine ⟨zk_K x y 0, ?_, ?_, ?_⟩
    · show zf_key (nI x) (nI y) 0 = _
      exact zf_key_nI (c := 0) hx hy (by omega)
    · unfold zk_K zk_w; simp only; omega
    · intro k hk
      rw [Bool.eq_iff_iff]
      unfold zk_m
      simp only [Bool.and_eq_true, Bool.or_eq_true, decide_eq_true_eq, zk_nI_at hk hx, zk_nI_at hk hy]
      unfold zk_K zk_w zk_at
      simp only
      omega
  | 3, _ =>
    have h0 : zf_n a = true := by rcases h0 with q | q; exact absurd q (by decide); exact q
    have h1 : zf_n b = true := by rcases h1 with q | q; exact absurd q (by decide); exact q
    have h2 : zf_n c = true := by rcases h2 with q | q; exact absurd q (by decide); exact q
    obtain ⟨x, hx, rfl⟩ := zf_n_of h0
    obtain ⟨y, hy, rfl⟩ := zf_n_of h1
    obtain ⟨z, hz, rfl⟩ := zf_n_of h2
    refine ⟨zk_K x y z, ?_, ?_, ?_⟩
    · show zf_key (nI x) (nI y) (nI z) = _
      exact zf_key_nI hx hy hz
    · unfold zk_K zk_w; simp only; omega
    · intro k hk
      rw [Bool.eq_iff_iff]
      unfold zk_m
      simp only [Bool.and_eq_true, Bool.or_eq_true, decide_eq_true_eq, zk_nI_at hk hx, zk_nI_at hk hy, zk_nI_at hk hz]
      unfold zk_K zk_w zk_at
      simp only
      omega
theorem zk_nd_congr {l : List Nat} {f g : Nat → Nat} (h : ∀ x ∈ l, ∀ y ∈ l, (f x = f y ↔ g x = g y)) : zk_nd (l.map f) = zk_nd (l.map g) := by
  induction l with
  | nil => rfl
  | cons x xs ih =>
    have ih := ih (fun a ha b hb => h a (List.mem_cons_of_mem _ ha) b (List.mem_cons_of_mem _ hb))
    simp only [List.map_cons, zk_nd, ih]
    congr 1
    have e : (f x ∈ xs.map f) ↔ (g x ∈ xs.map g) := by
      simp only [List.mem_map]
      constructor
      · rintro ⟨y, hy, q⟩
        exact ⟨y, hy, (h y (List.mem_cons_of_mem _ hy) x List.mem_cons_self).mp q⟩
      · rintro ⟨y, hy, q⟩
        exact ⟨y, hy, (h y (List.mem_cons_of_mem _ hy) x List.mem_cons_self).mpr q⟩
    simp only [e]
end
section
/-! Own rows: the row of keys that an object holds, and what its calls answer, said of the keys alone -/
/-- the array f of n places holds the sorted keys ks -/
def zk_G (ks : List Nat) (n : Nat) (f : Nat → Int64) : Prop := ks.Pairwise (· < ·) ∧ (∀ k ∈ ks, k < 1152921504606846976) ∧ ks.length ≤ n ∧ (64 ≤ n ∧ n ≤ 1024) ∧ ∀ j, j < ks.length → f j = lN (ks.getD j 0)
theorem zk_mem_b {ks : List Nat} {k : Nat} (hs : ks.Pairwise (· < ·)) : (decide (zk_c ks k < ks.length) && decide (ks.getD (zk_c ks k) 0 = k)) = decide (k ∈ ks) := by
  rw [Bool.eq_iff_iff]
  simp only [Bool.and_eq_true, decide_eq_true_eq]
  exact (zk_mem_iff hs).symm
theorem zk_toN {q : Nat} (h : q < 9223372036854775808) : Int.toNat (Int64.toInt (lN q)) = q := by
  rw [pk_lT (by omega)]
  rfl
theorem zk_first_N {i : Nat} {v a b d : Int32} (hi : i ≤ 3) (ev : v = nI i) (h : zf_fn v a b d = true) : zf_first v a b d = lN (Int.toNat (Int64.toInt (zf_first v a b d))) ∧ Int.toNat (Int64.toInt (zf_first v a b d)) ≤ 1152921504606846976 := by
  subst ev
  obtain ⟨lo, e, hle, -⟩ := zf_first_ok hi h
  rw [e, zk_toN (by omega)]
  exact ⟨rfl, by omega⟩
theorem zk_past_N {i : Nat} {v a b d : Int32} (hi : i ≤ 3) (ev : v = nI i) (h : zf_fn v a b d = true) : zf_first v a b d + zf_all v = lN (Int.toNat (Int64.toInt (zf_first v a b d + zf_all v))) ∧ Int.toNat (Int64.toInt (zf_first v a b d + zf_all v)) ≤ 1152921504606846976 := by
  subst ev
  obtain ⟨lo, e, hle, -⟩ := zf_first_ok hi h
  rw [e, zf_all_nI hi, lN_add, zk_toN (by omega)]
  exact ⟨rfl, by omega⟩
def zk_st (ks : List Nat) (v a b d : Int32) : Nat := if zf_fn v a b d then zk_c ks (Int.toNat (Int64.toInt (zf_first v a b d))) else 0
def zk_en (ks : List Nat) (v a b d : Int32) : Nat := if zf_fn v a b d then zk_c ks (Int.toNat (Int64.toInt (zf_first v a b d + zf_all v))) else 0
theorem zk_se {ks : List Nat} {i : Nat} {v a b d : Int32} (hs : ks.Pairwise (· < ·)) (h60 : ∀ k ∈ ks, k < 1152921504606846976) (hi : i ≤ 3) (ev : v = nI i) : zk_st ks v a b d ≤ zk_en ks v a b d ∧ zk_en ks v a b d ≤ ks.length ∧ zk_en ks v a b d - zk_st ks v a b d = ks.countP (zk_m i a b d) ∧ zk_del ks (zk_st ks v a b d) (zk_en ks v a b d) = ks.filter (fun k => !zk_m i a b d k) ∧ (ks.take (zk_en ks v a b d)).drop (zk_st ks v a b d) = ks.filter (zk_m i a b d) := by
  subst ev
  unfold zk_st zk_en
  cases h : zf_fn (nI i) a b d with
  | false =>
    have hm : ∀ k ∈ ks, zk_m i a b d k = false := fun k hk => zf_fn_no hi h (h60 k hk)
    simp only [Bool.false_eq_true, if_false]
    refine ⟨Nat.le_refl _, Nat.zero_le _, ?_, ?_, ?_⟩
    · symm
      rw [Nat.sub_self, List.countP_eq_zero]
      intro k hk
      rw [hm k hk]
      decide
    · symm
      unfold zk_del
      rw [List.take_zero, List.drop_zero, List.nil_append, List.filter_eq_self]
      intro k hk
      rw [hm k hk]
      rfl
    · symm
      rw [List.take_zero, List.drop_zero, List.filter_eq_nil_iff]
      intro k hk
      rw [hm k hk]
      decide
  | true =>
    obtain ⟨lo, e, hle, hm⟩ := zf_first_ok hi h
    simp only [if_true]
    rw [e, zf_all_nI hi, lN_add, zk_toN (by omega), zk_toN (by omega)]
    have hlh : lo ≤ lo + zk_w i := Nat.le_add_right _ _
    refine ⟨zk_c_mono ks hlh, zk_c_le _ _, ?_, ?_, ?_⟩
    · rw [zk_c_sub ks hlh]
      apply List.countP_congr
      intro k hk
      rw [hm k (h60 k hk)]
    · rw [zk_del_eq hs hlh]
      apply List.filter_congr
      intro k hk
      rw [hm k (h60 k hk)]
    · rw [zk_mid_eq hs hlh]
      apply List.filter_congr
      intro k hk
      rw [hm k (h60 k hk)]
def zs_count (ks : List Nat) (v a b d : Int32) : Int32 := if v < 0 ∨ ¬ v ≤ 3 then -1 else nI (ks.countP (zk_m v.toNatClampNeg a b d))
theorem zs_count_bad {ks : List Nat} {v a b d : Int32} (h : v < 0 ∨ ¬ v ≤ 3) : (-1 : Int32) = zs_count ks v a b d := by rw [zs_count, if_pos h]
theorem zs_count_ok {ks : List Nat} {i : Nat} {v a b d : Int32} (hs : ks.Pairwise (· < ·)) (h60 : ∀ k ∈ ks, k < 1152921504606846976) (hi : i ≤ 3) (ev : v = nI i) : nI (zk_en ks v a b d) - nI (zk_st ks v a b d) = zs_count ks v a b d := by
  have h := zk_se (a := a) (b := b) (d := d) hs h60 hi ev
  rw [pk_sub h.1, h.2.2.1, zs_count, if_neg, ev, nI_clamp (by omega)]
  rw [ev]
  rintro (q | q)
  · exact nI_pos (by omega) q
  · exact q (nI_le (b := 3) hi (by omega))
/-- the loop of beginnings -/
def zk_lp (f : Nat → Int64) (sh : Int32) : Nat → Nat → Int64 → Nat
  | 0, _, _ => 0
  | r + 1, i, last => (if f i >>> (Int32.toInt64 sh &&& 63) = last then 0 else 1) + zk_lp f sh r (i + 1) (f i >>> (Int32.toInt64 sh &&& 63))
def zk_o (o : Option Nat) : Int64 := match o with | none => -1 | some q => lN q
theorem zk_o_eq {o : Option Nat} {q : Nat} (hq : q < 9223372036854775808) (ho : ∀ z, o = some z → z < 9223372036854775808) : lN q = zk_o o ↔ some q = o := by
  cases o with
  | none =>
    constructor
    · intro h
      have h : lN q = -1 := h
      have := congrArg Int64.toInt h
      rw [pk_lT (by omega)] at this
      have e : (-1 : Int64).toInt = -1 := by decide
      omega
    · intro h
      cases h
  | some z =>
    show lN q = lN z ↔ _
    rw [pk_lEQ (by omega) (by have := ho z rfl; omega)]
    constructor
    · intro h; rw [h]
    · intro h; exact Option.some.inj h
theorem zk_lp_list {f : Nat → Int64} {sh : Int32} {s : Nat} (hs : ((Int32.toInt64 sh &&& 63).toBitVec.smod 64).toNat = s) (l : List Nat) (h60 : ∀ k ∈ l, k < 1152921504606846976) : ∀ (i : Nat) (o : Option Nat), (∀ z, o = some z → z < 9223372036854775808) → (∀ j, j < l.length → f (i + j) = lN (l.getD j 0)) → zk_lp f sh l.length i (zk_o o) = zk_ch o (l.map (fun k => k / 2 ^ s)) := by
  induction l with
  | nil => intro i o _ _; rfl
  | cons x xs ih =>
    intro i o ho hf
    have hx := h60 x List.mem_cons_self
    have h0 : f i = lN x := hf 0 (by simp)
    have hd : x / 2 ^ s ≤ x := Nat.div_le_self _ _
    rw [List.length_cons, zk_lp, h0, pf_shr hs (by omega), List.map_cons, zk_ch]
    rw [show lN (x / 2 ^ s) = zk_o (some (x / 2 ^ s)) from rfl]
    rw [ih (fun k hk => h60 k (List.mem_cons_of_mem _ hk)) (i + 1) (some (x / 2 ^ s)) (fun z hz => by cases hz; omega) (fun j hj => by
      have := hf (j + 1) (by rw [List.length_cons]; omega)
      rw [List.getD_cons_succ] at this
      rw [← this]
      congr 1
      omega)]
    congr 1
    have e := zk_o_eq (o := o) (q := x / 2 ^ s) (by omega) ho
    by_cases hc : some (x / 2 ^ s) = o
    · rw [if_pos hc, if_pos (show zk_o (some (x / 2 ^ s)) = zk_o o from e.mpr hc)]
    · rw [if_neg hc, if_neg (show ¬ zk_o (some (x / 2 ^ s)) = zk_o o from fun z => hc (e.mp z))]
def zs_dif (ks : List Nat) (v a b : Int32) : Int32 := if v < 0 ∨ ¬ v ≤ 2 then -1 else nI (zk_nd ((ks.filter (zk_m v.toNatClampNeg a b 0)).map (fun k => zk_at k v.toNatClampNeg)))
theorem zs_dif_bad {ks : List Nat} {v a b : Int32} (h : v < 0 ∨ ¬ v ≤ 2) : (-1 : Int32) = zs_dif ks v a b := by rw [zs_dif, if_pos h]
theorem zk_at_lt {k : Nat} (hk : k < 1152921504606846976) (p : Nat) : zk_at k p < 1048576 := by
  unfold zk_at
  split <;> omega
theorem zk_same {i s x y : Nat} {a b d : Int32} (hx : x < 1152921504606846976) (hy : y < 1152921504606846976) (hmx : zk_m i a b d x = true) (hmy : zk_m i a b d y = true) (h : i = 0 ∧ s = 40 ∨ i = 1 ∧ s = 20 ∨ i = 2 ∧ s = 0) : x / 2 ^ s = y / 2 ^ s ↔ zk_at x i = zk_at y i := by
  have ex := fun (p : Nat) (q : Int32) (h1 : nI (zk_at x p) = q) (h2 : nI (zk_at y p) = q) => (nI_eq (by have := zk_at_lt hx p; omega) (by have := zk_at_lt hy p; omega)).mp (h1.trans h2.symm)
  unfold zk_m at hmx hmy
  simp only [Bool.and_eq_true, Bool.or_eq_true, decide_eq_true_eq] at hmx hmy
  rcases h with ⟨rfl, rfl⟩ | ⟨rfl, rfl⟩ | ⟨rfl, rfl⟩
  · show x / 1099511627776 = y / 1099511627776 ↔ x / 1099511627776 = y / 1099511627776
    exact Iff.rfl
  · have e0 : x / 1099511627776 = y / 1099511627776 := ex 0 a (by simpa using hmx.1) (by simpa using hmy.1)
    show x / 1048576 = y / 1048576 ↔ x / 1048576 % 1048576 = y / 1048576 % 1048576
    omega
  · have e0 : x / 1099511627776 = y / 1099511627776 := ex 0 a (by simpa using hmx.1) (by simpa using hmy.1)
    have e1 : x / 1048576 % 1048576 = y / 1048576 % 1048576 := ex 1 b (by simpa using hmx.2.1) (by simpa using hmy.2.1)
    show x / 1 = y / 1 ↔ x % 1048576 = y % 1048576
    omega
theorem zs_dif_ok {ks : List Nat} {n : Nat} {f : Nat → Int64} {i : Nat} {v a b : Int32} (hG : zk_G ks n f) (hi : i ≤ 2) (ev : v = nI i) : nI (zk_lp f (zf_sh v) (zk_en ks v a b 0 - zk_st ks v a b 0) (zk_st ks v a b 0) (-1)) = zs_dif ks v a b := by
  obtain ⟨hs, h60, hn, hn2, hf⟩ := hG
  have h := zk_se (a := a) (b := b) (d := 0) hs h60 (show i ≤ 3 by omega) ev
  rw [zs_dif, if_neg (by
    rw [ev]
    rintro (q | q)
    · exact nI_pos (by omega) q
    · exact q (nI_le (b := 2) hi (by omega))), ev, nI_clamp (by omega)]
  rw [← ev]
  congr 1
  generalize zk_st ks v a b 0 = A at h
  generalize zk_en ks v a b 0 = B at h
  obtain ⟨h1, h2, h3, -, h5⟩ := h
  have hl : (ks.filter (zk_m i a b 0)).length = B - A := by rw [h3, List.countP_eq_length_filter]
  obtain ⟨s, hsh, his⟩ : ∃ s, ((Int32.toInt64 (zf_sh v) &&& 63).toBitVec.smod 64).toNat = s ∧ (i = 0 ∧ s = 40 ∨ i = 1 ∧ s = 20 ∨ i = 2 ∧ s = 0) := by
    rw [ev]
    match i, hi with
    | 0, _ => exact ⟨40, by decide, by omega⟩
    | 1, _ => exact ⟨20, by decide, by omega⟩
    | 2, _ => exact ⟨0, by decide, by omega⟩
  have hl60 : ∀ k ∈ ks.filter (zk_m i a b 0), k < 1152921504606846976 := fun k hk => h60 k (List.mem_filter.mp hk).1
  have e := zk_lp_list (f := f) hsh (ks.filter (zk_m i a b 0)) hl60 A none (fun z hz => by cases hz) (fun j hj => by
    rw [hl] at hj
    rw [hf (A + j) (by omega), ← h5]
    congr 1
    simp only [List.getD_eq_getElem?_getD]
    rw [List.getElem?_drop, List.getElem?_take, if_pos (by omega)])
  rw [hl] at e
  rw [show (-1 : Int64) = zk_o none from rfl, e, zk_ch_none]
  · exact zk_nd_congr (fun x hx y hy => zk_same (hl60 x hx) (hl60 y hy) (List.mem_filter.mp hx).2 (List.mem_filter.mp hy).2 his)
  · rw [List.pairwise_map]
    exact (hs.filter _).imp (fun {x y} h => Nat.div_le_div_right (Nat.le_of_lt h))
def zf_told (px py pz : Int32) (cur : Int64) (i : Int32) : Int32 := if cur = -1 then -1 else if i = 0 ∨ i = 1 ∨ i = 2 then zf_cn cur i else if i = 3 then zf_cn cur px else if i = 4 then zf_cn cur py else if i = 5 then zf_cn cur pz else -1
/-- where the cursor comes to: the key at place v of the row -/
def zs_at (ks : List Nat) (v : Int32) : Option Nat := if v < 0 then none else ks[v.toNatClampNeg]?
theorem zs_at_neg {ks : List Nat} {v : Int32} (h : v < 0) : none = zs_at ks v := by rw [zs_at, if_pos h]
theorem zs_at_out {ks : List Nat} {v : Int32} (h : ¬ v < 0) (h2 : nI ks.length ≤ v) (hl : ks.length ≤ 1024) : none = zs_at ks v := by
  rw [zs_at, if_neg h]
  symm
  rw [List.getElem?_eq_none_iff]
  obtain ⟨j, hj, rfl⟩ := nI_of h
  rw [nI_clamp hj]
  exact (nI_leI (by omega) hj).mp h2
theorem zs_at_in {ks : List Nat} {v : Int32} {j : Nat} (e : v = nI j) (h : j < ks.length) (hl : ks.length ≤ 1024) : some (ks.getD j 0) = zs_at ks v := by
  subst e
  rw [zs_at, if_neg (nI_pos (by omega)), nI_clamp (by omega), List.getD_eq_getElem?_getD, List.getElem?_eq_getElem h]
  rfl
theorem zs_at_nI {ks : List Nat} {j : Nat} (h : j < 2147483648) : zs_at ks (nI j) = ks[j]? := by
  rw [zs_at, if_neg (nI_pos (by omega)), nI_clamp (by omega)]
theorem zs_at_pred {ks : List Nat} {j : Nat} (h : j < 2147483648) : zs_at ks (nI j - 1) = if j = 0 then none else ks[j - 1]? := by
  by_cases e : j = 0
  · subst e
    rw [if_pos rfl]
    exact (zs_at_neg (by decide)).symm
  · rw [if_neg e, ← zs_at_nI (by omega)]
    congr 1
    exact pk_sub (a := j) (b := 1) (by omega)
def zk_nx (o : Option Nat) : Nat := match o with | none => 0 | some z => z + 1
theorem zk_o_succ (o : Option Nat) : zk_o o + 1 = lN (zk_nx o) := by
  cases o with
  | none => decide
  | some z => exact lN_1 z
def zk_pv (ks : List Nat) (o : Option Nat) : Nat := match o with | none => ks.length | some z => zk_c ks z
def zs_bad (v : Int32) : Bool := decide (v < 0) || decide (¬ v ≤ 3)
theorem zk_G_del {ks : List Nat} {n : Nat} {f : Nat → Int64} {a b : Nat} (hG : zk_G ks n f) (h : a ≤ b) (hb : b ≤ ks.length) : zk_G (zk_del ks a b) n (va_cpy f f b a (ks.length - b)) := by
  obtain ⟨hs, h60, hn, hn2, hf⟩ := hG
  have hl := zk_del_len h hb
  refine ⟨?_, ?_, by omega, hn2, ?_⟩
  · unfold zk_del
    rw [List.pairwise_append]
    refine ⟨hs.sublist (List.take_sublist _ _), hs.sublist (List.drop_sublist _ _), ?_⟩
    intro x hx y hy
    obtain ⟨i, hi, rfl⟩ := List.mem_iff_getElem.mp hx
    obtain ⟨j, hj, rfl⟩ := List.mem_iff_getElem.mp hy
    rw [List.getElem_take, List.getElem_drop]
    rw [List.length_take] at hi
    exact List.pairwise_iff_getElem.mp hs _ _ _ _ (by omega)
  · intro k hk
    unfold zk_del at hk
    rcases List.mem_append.mp hk with q | q
    · exact h60 k (List.mem_of_mem_take q)
    · exact h60 k (List.mem_of_mem_drop q)
  · intro j hj
    rw [zk_del_get h hb]
    rw [hl] at hj
    by_cases hja : j < a
    · rw [pk_cpy_out (Or.inl hja), if_pos hja]
      exact hf j (by omega)
    · rw [pk_cpy_in (by omega) (by omega), if_neg hja]
      exact hf _ (by omega)
theorem zk_G_ins {ks : List Nat} {n n2 : Nat} {f f2 : Nat → Int64} {k : Nat} (hG : zk_G ks n f) (hk : k ∉ ks) (hk60 : k < 1152921504606846976) (hn2 : ks.length + 1 ≤ n2) (hn3 : 64 ≤ n2 ∧ n2 ≤ 1024) (hf2 : ∀ j, j < ks.length → f2 j = f j) : zk_G (zk_ins ks k) n2 (vp_updL (va_cpy f2 f2 (zk_c ks k) (zk_c ks k + 1) (ks.length - zk_c ks k)) (zk_c ks k) (lN k)) := by
  obtain ⟨hs, h60, hn, hn2', hf⟩ := hG
  have hl := zk_ins_len ks k
  have hc := zk_c_le ks k
  refine ⟨zk_ins_sorted hs hk, ?_, by omega, hn3, ?_⟩
  · intro q hq
    rcases List.mem_cons.mp ((zk_ins_perm ks k).mem_iff.mp hq) with e | e
    · rw [e]; exact hk60
    · exact h60 q e
  · intro j hj
    rw [zk_ins_get]
    by_cases h1 : j < zk_c ks k
    · rw [if_pos h1, pk_uLn (by omega), pk_cpy_out (Or.inl (by omega)), hf2 j (by omega)]
      exact hf j (by omega)
    · rw [if_neg h1]
      by_cases h2 : j = zk_c ks k
      · rw [if_pos h2, h2, pk_uLs]
      · rw [if_neg h2, pk_uLn h2, pk_cpy_in (by omega) (by omega), show zk_c ks k + (j - (zk_c ks k + 1)) = j - 1 by omega, hf2 _ (by omega)]
        exact hf _ (by omega)
theorem zk_nx_le {o : Option Nat} (ho : ∀ z, o = some z → z < 1152921504606846976) : zk_nx o ≤ 1152921504606846976 := by
  cases o with
  | none => exact Nat.zero_le _
  | some z => exact ho z rfl
theorem zk_o_ne {z : Nat} (h : z < 1152921504606846976) : ¬ zk_o (some z) = -1 := by
  intro q
  have e := (zk_o_eq (o := none) (q := z) (by omega) (fun _ h => by cases h)).mp q
  cases e
end
section
/-! Own rows: the reference's numbers are the class' numbers -/
/-- the reference's array f holds the sorted keys ks -/
def zk_R (ks : List Nat) (f : Nat → Int64) : Prop := ks.Pairwise (· < ·) ∧ (∀ k ∈ ks, k < 1152921504606846976) ∧ ks.length ≤ 1024 ∧ ∀ j, j < ks.length → f j = lN (ks.getD j 0)
theorem zf_up {v : Int32} : (1048576 : Int32) ≤ v ↔ (1048575 : Int32) < v := by
  rw [Int32.le_iff_toInt_le, Int32.lt_iff_toInt_lt]
  have e1 : (1048576 : Int32).toInt = 1048576 := by decide
  have e2 : (1048575 : Int32).toInt = 1048575 := by decide
  omega
theorem zf_fn3 {a b d : Int32} : zf_fn 3 a b d = zf_nn a b d := by
  unfold zf_fn zf_nn
  rw [show decide ((3 : Int32) < 1) = false by decide, show decide ((3 : Int32) < 2) = false by decide, show decide ((3 : Int32) < 3) = false by decide]
  rfl
def zf_pk (a b d : Int64) : Int64 := (a * 1048576 + b) * 1048576 + d
theorem zf_pk_lN (a b d : Nat) : zf_pk (lN a) (lN b) (lN d) = lN (zk_K a b d) := by
  unfold zf_pk
  rw [show (1048576 : Int64) = lN 1048576 from rfl, lN_mul, lN_add, lN_mul, lN_add]
  exact congrArg lN (by unfold zk_K; omega)
theorem zf_pk_nI {a b d : Nat} (ha : a < 1048576) (hb : b < 1048576) (hd : d < 1048576) : zf_pk (Int32.toInt64 (nI a)) (Int32.toInt64 (nI b)) (Int32.toInt64 (nI d)) = lN (zk_K a b d) := by
  rw [nI_l (by omega), nI_l (by omega), nI_l (by omega)]
  exact zf_pk_lN a b d
def zf_ky (o : Nat) (x y z : Int32) : Int64 := match o with
  | 0 => zf_pk (Int32.toInt64 x) (Int32.toInt64 y) (Int32.toInt64 z)
  | 1 => zf_pk (Int32.toInt64 x) (Int32.toInt64 z) (Int32.toInt64 y)
  | 2 => zf_pk (Int32.toInt64 y) (Int32.toInt64 x) (Int32.toInt64 z)
  | 3 => zf_pk (Int32.toInt64 y) (Int32.toInt64 z) (Int32.toInt64 x)
  | 4 => zf_pk (Int32.toInt64 z) (Int32.toInt64 x) (Int32.toInt64 y)
  | _ => zf_pk (Int32.toInt64 z) (Int32.toInt64 y) (Int32.toInt64 x)
theorem zf_ky_nI {o x y z : Nat} (ho : o < 6) (hx : x < 1048576) (hy : y < 1048576) (hz : z < 1048576) : zf_ky o (nI x) (nI y) (nI z) = lN (zk_key o x y z) := by
  match o, ho with
  | 0, _ => exact zf_pk_nI hx hy hz
  | 1, _ => exact zf_pk_nI hx hz hy
  | 2, _ => exact zf_pk_nI hy hx hz
  | 3, _ => exact zf_pk_nI hy hz hx
  | 4, _ => exact zf_pk_nI hz hx hy
  | 5, _ => exact zf_pk_nI hz hy hx
def zf_bg (v a b d : Int32) : Int64 := zf_pk (if v ≤ 0 then 0 else Int32.toInt64 a) (if v ≤ 1 then 0 else Int32.toInt64 b) (if v ≤ 2 then 0 else Int32.toInt64 d)
theorem zf_bg_first {i : Nat} {a b d : Int32} (hi : i ≤ 3) (h : zf_fn (nI i) a b d = true) : zf_bg (nI i) a b d = zf_first (nI i) a b d := by
  unfold zf_fn at h
  simp only [Bool.and_eq_true, Bool.or_eq_true, decide_eq_true_eq] at h
  obtain ⟨h0, h1, h2⟩ := h
  match i, hi with
  | 0, _ =>
    show zf_pk 0 0 0 = zf_key 0 0 0
    decide
  | 1, _ =>
    have h0 : zf_n a = true := by rcases h0 with q | q; exact absurd q (by decide); exact q
    obtain ⟨x, hx, rfl⟩ := zf_n_of h0
    show zf_pk (Int32.toInt64 (nI x)) (Int32.toInt64 (nI 0)) (Int32.toInt64 (nI 0)) = zf_key (nI x) (nI 0) (nI 0)
    rw [zf_pk_nI hx (by omega) (by omega), zf_key_nI hx (by omega) (by omega)]
  | 2, _ =>
    have h0 : zf_n a = true := by rcases h0 with q | q; exact absurd q (by decide); exact q
    have h1 : zf_n b = true := by rcases h1 with q | q; exact absurd q (by decide); exact q
    obtain ⟨x, hx, rfl⟩ := zf_n_of h0
    obtain ⟨y, hy, rfl⟩ := zf_n_of h1
    show zf_pk (Int32.toInt64 (nI x)) (Int32.toInt64 (nI y)) (Int32.toInt64 (nI 0)) = zf_key (nI x) (nI y) (nI 0)
    rw [zf_pk_nI hx hy (by omega), zf_key_nI hx hy (by omega)]
  | 3, _ =>
    have h0 : zf_n a = true := by rcases h0 with q | q; exact absurd q (by decide); exact q
    have h1 : zf_n b = true := by rcases h1 with q | q; exact absurd q (by decide); exact q
    have h2 : zf_n d = true := by rcases h2 with q | q; exact absurd q (by decide); exact q
    obtain ⟨x, hx, rfl⟩ := zf_n_of h0
    obtain ⟨y, hy, rfl⟩ := zf_n_of h1
    obtain ⟨z, hz, rfl⟩ := zf_n_of h2
    show zf_pk (Int32.toInt64 (nI x)) (Int32.toInt64 (nI y)) (Int32.toInt64 (nI z)) = zf_key (nI x) (nI y) (nI z)
    rw [zf_pk_nI hx hy hz, zf_key_nI hx hy hz]
/-- a key with what comes behind its first i numbers taken off -/
def zk_fst (i q : Nat) : Nat := match i with | 0 => 0 | 1 => q - q % 1099511627776 | 2 => q - q % 1048576 | _ => q - q % 1
theorem zk_fst_le (i q : Nat) : zk_fst i q ≤ q := by
  unfold zk_fst
  split <;> omega
theorem zk_fst_m {i q : Nat} {a b d : Int32} (hi : i ≤ 3) (h : zf_fn (nI i) a b d = true) (hq : q < 1152921504606846976) : lN (zk_fst i q) = zf_bg (nI i) a b d ↔ zk_m i a b d q = true := by
  rw [zf_bg_first hi h]
  unfold zf_fn at h
  simp only [Bool.and_eq_true, Bool.or_eq_true, decide_eq_true_eq] at h
  obtain ⟨h0, h1, h2⟩ := h
  have hf := zk_fst_le i q
  match i, hi with
  | 0, _ =>
    constructor
    · intro _
      unfold zk_m
      simp
    · intro _
      show lN 0 = zf_key 0 0 0
      decide
  | 1, _ =>
    have h0 : zf_n a = true := by rcases h0 with q | q; exact absurd q (by decide); exact q
    obtain ⟨x, hx, rfl⟩ := zf_n_of h0
    have e : zf_first (nI 1) (nI x) b d = lN (zk_K x 0 0) := zf_key_nI (b := 0) (c := 0) hx (by omega) (by omega)
    have hl := zk_K_lt hx (show 0 < 1048576 by omega) (show 0 < 1048576 by omega)
    rw [e, pk_lEQ (by omega) (by omega)]
    unfold zk_m
    simp only [Bool.and_eq_true, Bool.or_eq_true, decide_eq_true_eq, zk_nI_at hq hx]
    unfold zk_K zk_at zk_fst
    simp only
    omega
  | 2, _ =>
    have h0 : zf_n a = true := by rcases h0 with q | q; exact absurd q (by decide); exact q
    have h1 : zf_n b = true := by rcases h1 with q | q; exact absurd q (by decide); exact q
    obtain ⟨x, hx, rfl⟩ := zf_n_of h0
    obtain ⟨y, hy, rfl⟩ := zf_n_of h1
    have e : zf_first (nI 2) (nI x) (nI y) d = lN (zk_K x y 0) := zf_key_nI (c := 0) hx hy (by omega)
    have hl := zk_K_lt hx hy (show 0 < 1048576 by omega)
    rw [e, pk_lEQ (by omega) (by omega)]
    unfold zk_m
    simp only [Bool.and_eq_true, Bool.or_eq_true, decide_eq_true_eq, zk_nI_at hq hx, zk_nI_at hq hy]
    unfold zk_K zk_at zk_fst
    simp only
    omega
  | 3, _ =>
    have h0 : zf_n a = true := by rcases h0 with q | q; exact absurd q (by decide); exact q
    have h1 : zf_n b = true := by rcases h1 with q | q; exact absurd q (by decide); exact q
    have h2 : zf_n d = true := by rcases h2 with q | q; exact absurd q (by decide); exact q
    obtain ⟨x, hx, rfl⟩ := zf_n_of h0
    obtain ⟨y, hy, rfl⟩ := zf_n_of h1
    obtain ⟨z, hz, rfl⟩ := zf_n_of h2
    have e : zf_first (nI 3) (nI x) (nI y) (nI z) = lN (zk_K x y z) := zf_key_nI hx hy hz
    have hl := zk_K_lt hx hy hz
    rw [e, pk_lEQ (by omega) (by omega)]
    unfold zk_m
    simp only [Bool.and_eq_true, Bool.or_eq_true, decide_eq_true_eq, zk_nI_at hq hx, zk_nI_at hq hy, zk_nI_at hq hz]
    unfold zk_K zk_at zk_fst
    simp only
    omega
theorem zk_fst_same {i x y : Nat} {a b d : Int32} (hi : i ≤ 2) (hx : x < 1152921504606846976) (hy : y < 1152921504606846976) (hmx : zk_m i a b d x = true) (hmy : zk_m i a b d y = true) : zk_fst (i + 1) x = zk_fst (i + 1) y ↔ zk_at x i = zk_at y i := by
  have ex := fun (p : Nat) (q : Int32) (h1 : nI (zk_at x p) = q) (h2 : nI (zk_at y p) = q) => (nI_eq (by have := zk_at_lt hx p; omega) (by have := zk_at_lt hy p; omega)).mp (h1.trans h2.symm)
  unfold zk_m at hmx hmy
  simp only [Bool.and_eq_true, Bool.or_eq_true, decide_eq_true_eq] at hmx hmy
  match i, hi with
  | 0, _ =>
    show x - x % 1099511627776 = y - y % 1099511627776 ↔ x / 1099511627776 = y / 1099511627776
    omega
  | 1, _ =>
    have e0 : x / 1099511627776 = y / 1099511627776 := ex 0 a (by simpa using hmx.1) (by simpa using hmy.1)
    show x - x % 1048576 = y - y % 1048576 ↔ x / 1048576 % 1048576 = y / 1048576 % 1048576
    omega
  | 2, _ =>
    have e0 : x / 1099511627776 = y / 1099511627776 := ex 0 a (by simpa using hmx.1) (by simpa using hmy.1)
    have e1 : x / 1048576 % 1048576 = y / 1048576 % 1048576 := ex 1 b (by simpa using hmx.2.1) (by simpa using hmy.2.1)
    show x - x % 1 = y - y % 1 ↔ x % 1048576 = y % 1048576
    omega
theorem zk_fst_mono {i x y : Nat} (h : x ≤ y) : zk_fst i x ≤ zk_fst i y := by
  unfold zk_fst
  split <;> omega
def zf_pl (o : Nat) (v : Int32) : Int32 := match o with
  | 0 => v
  | 1 => if v = 0 then 0 else 3 - v
  | 2 => if v = 2 then 2 else 1 - v
  | 3 => if v = 0 then 2 else v - 1
  | 4 => if v = 2 then 0 else v + 1
  | _ => 2 - v
theorem zf_pl_0 {o : Nat} (ho : o < 6) : zf_pl o (nI 0) = nI (zk_px o) := by
  match o, ho with
  | 0, _ => decide
  | 1, _ => decide
  | 2, _ => decide
  | 3, _ => decide
  | 4, _ => decide
  | 5, _ => decide
theorem zf_pl_1 {o : Nat} (ho : o < 6) : zf_pl o (nI 1) = nI (zk_py o) := by
  match o, ho with
  | 0, _ => decide
  | 1, _ => decide
  | 2, _ => decide
  | 3, _ => decide
  | 4, _ => decide
  | 5, _ => decide
theorem zf_pl_2 {o : Nat} (ho : o < 6) : zf_pl o (nI 2) = nI (zk_pz o) := by
  match o, ho with
  | 0, _ => decide
  | 1, _ => decide
  | 2, _ => decide
  | 3, _ => decide
  | 4, _ => decide
  | 5, _ => decide
theorem zk_px_lt (o : Nat) : zk_px o < 3 := by unfold zk_px; split <;> decide
theorem zk_py_lt (o : Nat) : zk_py o < 3 := by unfold zk_py; split <;> decide
theorem zk_pz_lt (o : Nat) : zk_pz o < 3 := by unfold zk_pz; split <;> decide
theorem zk_at_0 {z : Nat} : nI (z / 1048576 / 1048576) = nI (zk_at z 0) := by
  refine congrArg nI ?_
  show z / 1048576 / 1048576 = z / 1099511627776
  omega
theorem zk_at_1 {z : Nat} : nI (z / 1048576 % 1048576) = nI (zk_at z 1) := rfl
theorem zk_at_2 {z : Nat} : nI (z % 1048576) = nI (zk_at z 2) := rfl
theorem zf_told_out {px py pz : Int32} {cur : Int64} {v : Int32} (h : ¬ cur = -1) (hv : v < 0 ∨ ¬ v ≤ 5) : (-1 : Int32) = zf_told px py pz cur v := by
  have e : ∀ j : Int32, 0 ≤ j → j ≤ 5 → ¬ v = j := by
    intro j h0 h5 q
    subst q
    rcases hv with q | q
    · rw [Int32.lt_iff_toInt_lt] at q
      rw [Int32.le_iff_toInt_le] at h0
      omega
    · exact q h5
  have e0 := e 0 (by decide) (by decide)
  have e1 := e 1 (by decide) (by decide)
  have e2 := e 2 (by decide) (by decide)
  have e3 := e 3 (by decide) (by decide)
  have e4 := e 4 (by decide) (by decide)
  have e5 := e 5 (by decide) (by decide)
  simp [zf_told, h, e0, e1, e2, e3, e4, e5]
theorem zf_told_0 {px py pz : Int32} {cur : Int64} {v : Int32} (h : ¬ cur = -1) (e : v = nI 0) : zf_cn cur (nI 0) = zf_told px py pz cur v := by
  subst e
  rw [zf_told, if_neg h, if_pos (by decide)]
theorem zf_told_1 {px py pz : Int32} {cur : Int64} {v : Int32} (h : ¬ cur = -1) (e : v = nI 1) : zf_cn cur (nI 1) = zf_told px py pz cur v := by
  subst e
  rw [zf_told, if_neg h, if_pos (by decide)]
theorem zf_told_2 {px py pz : Int32} {cur : Int64} {v : Int32} (h : ¬ cur = -1) (e : v = nI 2) : zf_cn cur (nI 2) = zf_told px py pz cur v := by
  subst e
  rw [zf_told, if_neg h, if_pos (by decide)]
theorem zf_told_3 {px py pz : Int32} {cur : Int64} {v : Int32} (h : ¬ cur = -1) (e : v = nI 3) : zf_cn cur px = zf_told px py pz cur v := by
  subst e
  rw [zf_told, if_neg h, if_neg (by decide), if_pos (by decide)]
theorem zf_told_4 {px py pz : Int32} {cur : Int64} {v : Int32} (h : ¬ cur = -1) (e : v = nI 4) : zf_cn cur py = zf_told px py pz cur v := by
  subst e
  rw [zf_told, if_neg h, if_neg (by decide), if_neg (by decide), if_pos (by decide)]
theorem zf_told_5 {px py pz : Int32} {cur : Int64} {v : Int32} (h : ¬ cur = -1) (e : v = nI 5) : zf_cn cur pz = zf_told px py pz cur v := by
  subst e
  rw [zf_told, if_neg h, if_neg (by decide), if_neg (by decide), if_neg (by decide), if_pos (by decide)]
theorem zs_count_nI {ks : List Nat} {i : Nat} {v a b d : Int32} (hi : i ≤ 3) (ev : v = nI i) : nI (ks.countP (zk_m i a b d)) = zs_count ks v a b d := by
  rw [zs_count, if_neg, ev, nI_clamp (by omega)]
  rw [ev]
  rintro (q | q)
  · exact nI_pos (by omega) q
  · exact q (nI_le (b := 3) hi (by omega))
theorem zs_count_no {ks : List Nat} {i : Nat} {v a b d : Int32} (h60 : ∀ k ∈ ks, k < 1152921504606846976) (hi : i ≤ 3) (ev : v = nI i) (h : zf_fn v a b d = false) : (0 : Int32) = zs_count ks v a b d := by
  rw [← zs_count_nI hi ev, List.countP_eq_zero.mpr (fun k hk => by rw [zf_fn_no hi (ev ▸ h) (h60 k hk)]; decide)]
  rfl
theorem zk_drop_cons {ks : List Nat} {j : Nat} (h : j < ks.length) : ks.drop j = ks.getD j 0 :: ks.drop (j + 1) := by
  rw [List.drop_eq_getElem_cons h]
  congr 1
  rw [List.getD_eq_getElem?_getD, List.getElem?_eq_getElem h]
  rfl
theorem zs_dif_nI {ks : List Nat} {i : Nat} {v a b : Int32} (hs : ks.Pairwise (· < ·)) (h60 : ∀ k ∈ ks, k < 1152921504606846976) (hi : i ≤ 2) (ev : v = nI i) : nI (zk_ch none ((ks.filter (zk_m i a b 0)).map (zk_fst (i + 1)))) = zs_dif ks v a b := by
  rw [zs_dif, if_neg (by
    rw [ev]
    rintro (q | q)
    · exact nI_pos (by omega) q
    · exact q (nI_le (b := 2) hi (by omega))), ev, nI_clamp (by omega)]
  congr 1
  have hl60 : ∀ k ∈ ks.filter (zk_m i a b 0), k < 1152921504606846976 := fun k hk => h60 k (List.mem_filter.mp hk).1
  rw [zk_ch_none]
  · exact zk_nd_congr (fun x hx y hy => zk_fst_same hi (hl60 x hx) (hl60 y hy) (List.mem_filter.mp hx).2 (List.mem_filter.mp hy).2)
  · rw [List.pairwise_map]
    exact (hs.filter _).imp (fun {x y} h => zk_fst_mono (Nat.le_of_lt h))
theorem zs_dif_no {ks : List Nat} {i : Nat} {v a b : Int32} (hs : ks.Pairwise (· < ·)) (h60 : ∀ k ∈ ks, k < 1152921504606846976) (hi : i ≤ 2) (ev : v = nI i) (h : zf_fn v a b 0 = false) : (0 : Int32) = zs_dif ks v a b := by
  rw [← zs_dif_nI hs h60 hi ev, List.filter_eq_nil_iff.mpr (fun k hk => by rw [zf_fn_no (by omega) (ev ▸ h) (h60 k hk)]; decide)]
  rfl
theorem zk_R_del {ks : List Nat} {f : Nat → Int64} {a b : Nat} (hG : zk_R ks f) (h : a ≤ b) (hb : b ≤ ks.length) : zk_R (zk_del ks a b) (va_cpy f f b a (ks.length - b)) := by
  obtain ⟨hs, h60, hn, hf⟩ := hG
  have hl := zk_del_len h hb
  refine ⟨?_, ?_, by omega, ?_⟩
  · unfold zk_del
    rw [List.pairwise_append]
    refine ⟨hs.sublist (List.take_sublist _ _), hs.sublist (List.drop_sublist _ _), ?_⟩
    intro x hx y hy
    obtain ⟨i, hi, rfl⟩ := List.mem_iff_getElem.mp hx
    obtain ⟨j, hj, rfl⟩ := List.mem_iff_getElem.mp hy
    rw [List.getElem_take, List.getElem_drop]
    rw [List.length_take] at hi
    exact List.pairwise_iff_getElem.mp hs _ _ _ _ (by omega)
  · intro k hk
    unfold zk_del at hk
    rcases List.mem_append.mp hk with q | q
    · exact h60 k (List.mem_of_mem_take q)
    · exact h60 k (List.mem_of_mem_drop q)
  · intro j hj
    rw [zk_del_get h hb]
    rw [hl] at hj
    by_cases hja : j < a
    · rw [pk_cpy_out (Or.inl hja), if_pos hja]
      exact hf j (by omega)
    · rw [pk_cpy_in (by omega) (by omega), if_neg hja]
      exact hf _ (by omega)
theorem zk_R_ins {ks : List Nat} {f : Nat → Int64} {k : Nat} (hG : zk_R ks f) (hk : k ∉ ks) (hk60 : k < 1152921504606846976) (hn2 : ks.length + 1 ≤ 1024) : zk_R (zk_ins ks k) (vp_updL (va_cpy f f (zk_c ks k) (zk_c ks k + 1) (ks.length - zk_c ks k)) (zk_c ks k) (lN k)) := by
  obtain ⟨hs, h60, hn, hf⟩ := hG
  have hl := zk_ins_len ks k
  have hc := zk_c_le ks k
  refine ⟨zk_ins_sorted hs hk, ?_, by omega, ?_⟩
  · intro q hq
    rcases List.mem_cons.mp ((zk_ins_perm ks k).mem_iff.mp hq) with e | e
    · rw [e]; exact hk60
    · exact h60 q e
  · intro j hj
    rw [zk_ins_get]
    by_cases h1 : j < zk_c ks k
    · rw [if_pos h1, pk_uLn (by omega), pk_cpy_out (Or.inl (by omega))]
      exact hf j (by omega)
    · rw [if_neg h1]
      by_cases h2 : j = zk_c ks k
      · rw [if_pos h2, h2, pk_uLs]
      · rw [if_neg h2, pk_uLn h2, pk_cpy_in (by omega) (by omega), show zk_c ks k + (j - (zk_c ks k + 1)) = j - 1 by omega]
        exact hf _ (by omega)
/-- one step down of a row: place i gets what is at i + 1 -/
theorem zk_down {f : Nat → Int64} {C i : Nat} (h : C ≤ i) : vp_updL (va_cpy f f (C + 1) C (i - C)) i (va_cpy f f (C + 1) C (i - C) (i + 1)) = va_cpy f f (C + 1) C (i + 1 - C) := by
  funext j
  by_cases e : j = i
  · subst e
    rw [pk_uLs, pk_cpy_out (Or.inr (by omega)), pk_cpy_in (by omega) (by omega)]
    congr 1
    omega
  · rw [pk_uLn e]
    by_cases h2 : C ≤ j ∧ j < i
    · rw [pk_cpy_in (by omega) (by omega), pk_cpy_in (by omega) (by omega)]
    · rw [pk_cpy_out (by omega), pk_cpy_out (by omega)]
/-- one step up: place i gets what is at i - 1 -/
theorem zk_upw {f : Nat → Int64} {N i : Nat} (h0 : 0 < i) (h : i ≤ N) : vp_updL (va_cpy f f i (i + 1) (N - i)) i (va_cpy f f i (i + 1) (N - i) (i - 1)) = va_cpy f f (i - 1) (i - 1 + 1) (N - (i - 1)) := by
  funext j
  by_cases e : j = i
  · subst e
    rw [pk_uLs, pk_cpy_out (Or.inl (by omega)), pk_cpy_in (by omega) (by omega)]
    congr 1
    omega
  · rw [pk_uLn e]
    by_cases h2 : i + 1 ≤ j ∧ j < N + 1
    · rw [pk_cpy_in (by omega) (by omega), pk_cpy_in (by omega) (by omega)]
      congr 1
      omega
    · rw [pk_cpy_out (by omega), pk_cpy_out (by omega)]
end
section
/-! Own rows: the cells of the class' object, and what a call leaves -/
abbrev zx_w (h0 ha : Nat) (cA : ClassId) (n : Nat) (f : Nat → Int64) (px py pz : Int32) (N : Nat) (cur : Int64) : va_W := [(h0, .inr (0, [.int px, .int py, .int pz, .ref ha, .int (nI N), .long cur])), (ha, .inl (cA, n, .inr (.inl f)))]
abbrev zx_S : Type := Nat × ClassId × Nat × (Nat → Int64)
abbrev zx_wu (h0 : Nat) (px py pz : Int32) (ks : List Nat) (cur : Int64) (u : zx_S) : va_W := zx_w h0 u.1 u.2.1 u.2.2.1 u.2.2.2 px py pz ks.length cur
abbrev zx_t (u : zx_S) : List (ClassId × FieldType) := [(u.2.1, .long)]
abbrev zx_Q (dC : Nat → ClassId) (dI : Nat → Nat → Nat) (h0 : Nat) (px py pz : Int32) (v : Option Value) (ks : List Nat) (cur : Int64) (A : Nat → Prop) : Array Value → State → Outcome → State → Prop := zw_Qw (S := zx_S) (fun _ => v) (fun u => zk_G ks u.2.2.1 u.2.2.2) (dC, dI) vwCl (zx_wu h0 px py pz ks cur) zx_t A
/-- the cells of the reference's object -/
abbrev zy_w (h0 ha : Nat) (cA : ClassId) (f : Nat → Int64) (o : Nat) (N : Nat) (cur : Int64) : va_W := [(h0, .inr (1, [.ref ha, .int (nI N), .int (nI o), .long cur])), (ha, .inl (cA, 20000, .inr (.inl f)))]
abbrev zy_Q (dC : Nat → ClassId) (dI : Nat → Nat → Nat) (h0 ha : Nat) (cA : ClassId) (o : Nat) (v : Option Value) (ks : List Nat) (cur : Int64) (A : Nat → Prop) : Array Value → State → Outcome → State → Prop := zw_Qw (S := Nat → Int64) (fun _ => v) (fun u => zk_R ks u) (dC, dI) vwCl (fun u => zy_w h0 ha cA u o ks.length cur) (fun _ => [(cA, .long)]) A
end
section
set_option maxHeartbeats 4000000 in
set_option maxRecDepth 100000 in
/-- isNumber(v) -/
theorem zc_isNumber (l : Launch) (v : Int32) : Met l yX0_isNumber wsX0_isNumber ({ frames := 0, cells := 0, slots := 0, locals := 0 }) (fun w9 _ => w9 = ([.int v] : List Value).toArray) (zw_Q (some (.int (zb_I (zf_n v))))) 0 0 (fun _ => False) := by
  refine Met.ofW (cc := cX0_isNumber) (maxL := 1) (ret := (some .boolean)) (by decide) rfl ?_
  intro p e s m args below meth c s₁ B hml hv
  obtain rfl := hv
  have hx := B.exec
  have hb := B.bytes
  have hr := B.returns
  have hts := atoms_spec (ws := wsX0_isNumber) B.pre
  have hown : s.vm.findClass RX0 = some m.cls := findClass_of_methodNamed B.named
  have hl := lv_entry ([.int v]) (n := 1) (Nat.le_of_ble_eq_true rfl)
  rw [lg_entry_eq]
  generalize (lg_sl ([.int v]) ++ List.replicate (1 - (lg_sl ([.int v])).length) Slot.unset).toArray = ls at hl ⊢
  have hl : lv_has ls 1 [(0, .int v)] := hl
  refine lv_iload_n hx hb dX0_isNumber_0 rfl (lv_at hl 0 rfl) ?_
  refine lv_if_lt (tgt := 14) hx hb dX0_isNumber_1 (by decide) (fun c_1 => ?_) (fun c_1 => ?_)
  · refine lv_iconst (v := 0) hx hb dX0_isNumber_14 (by decide) ?_
    refine zw_eqi (y := zb_I (zf_n v)) (by simp [zb_I, zf_n, c_1]) ?_
    exact W.zret hx hb hr (zb_nar _) (fun t ht hW => ⟨rfl, ht⟩) (fun q h => by cases h) dX0_isNumber_15
  · refine lv_iload_n hx hb dX0_isNumber_4 rfl (lv_at hl 0 rfl) ?_
    refine lv_ldc (v := 1048575) hx hb hown (hts (.constant RX0 95 1048575) (by decide +kernel)) dX0_isNumber_5 ?_
    refine lv_icmp_gt (tgt := 14) hx hb dX0_isNumber_7 (by decide) (fun c_7 => ?_) (fun c_7 => ?_)
    · refine lv_iconst (v := 0) hx hb dX0_isNumber_14 (by decide) ?_
      refine zw_eqi (y := zb_I (zf_n v)) (by simp [zb_I, zf_n, c_1, c_7]) ?_
      exact W.zret hx hb hr (zb_nar _) (fun t ht hW => ⟨rfl, ht⟩) (fun q h => by cases h) dX0_isNumber_15
    · refine lv_iconst (v := 1) hx hb dX0_isNumber_10 (by decide) ?_
      refine lv_goto (tgt := 15) hx hb dX0_isNumber_11 (by decide) ?_
      refine zw_eqi (y := zb_I (zf_n v)) (by simp [zb_I, zf_n, c_1, c_7]) ?_
      exact W.zret hx hb hr (zb_nar _) (fun t ht hW => ⟨rfl, ht⟩) (fun q h => by cases h) dX0_isNumber_15
set_option maxHeartbeats 4000000 in
set_option maxRecDepth 100000 in
/-- areNumbers(a, b, d) -/
theorem zc_areNumbers (l : Launch) (a : Int32) (b : Int32) (d : Int32) : Met l yX0_areNumbers wsX0_areNumbers ({ frames := 1, cells := 0, slots := 0, locals := 20 }) (fun w9 _ => w9 = ([.int a, .int b, .int d] : List Value).toArray) (zw_Q (some (.int (zb_I (zf_nn a b d))))) 0 0 (fun _ => False) := by
  refine Met.ofW (cc := cX0_areNumbers) (maxL := 3) (ret := (some .boolean)) (by decide) rfl ?_
  intro p e s m args below meth c s₁ B hml hv
  obtain rfl := hv
  have hx := B.exec
  have hb := B.bytes
  have hr := B.returns
  have hts := atoms_spec (ws := wsX0_areNumbers) B.pre
  have hown : s.vm.findClass RX0 = some m.cls := findClass_of_methodNamed B.named
  have hl := lv_entry ([.int a, .int b, .int d]) (n := 3) (Nat.le_of_ble_eq_true rfl)
  rw [lg_entry_eq]
  generalize (lg_sl ([.int a, .int b, .int d]) ++ List.replicate (3 - (lg_sl ([.int a, .int b, .int d])).length) Slot.unset).toArray = ls at hl ⊢
  have hl : lv_has ls 3 [(0, .int a), (1, .int b), (2, .int d)] := hl
  refine lv_iload_n hx hb dX0_areNumbers_0 rfl (lv_at hl 0 rfl) ?_
  refine zw_ci (va_runS (As := [.int a]) (rest := []) ⟨hx, hb, hml, hown, hts⟩ (zc_isNumber l a) (va_cwS 1 hts gX0_areNumbers_X0_isNumber rfl rfl rfl (by decide +kernel) ⟨Nat.le_of_ble_eq_true rfl, Nat.le_of_ble_eq_true rfl⟩) (preEq) rfl rfl hl.1 rfl (lv_room (Nat.le_of_ble_eq_true rfl)) dX0_areNumbers_1 ⟨Nat.zero_le _, Nat.zero_le _⟩) ?_
  refine zw_ifeq (tgt := 25) hx hb dX0_areNumbers_4 (by decide) (fun c_4 => ?_) (fun c_4 => ?_)
  · refine lv_iconst (v := 0) hx hb dX0_areNumbers_25 (by decide) ?_
    refine zw_eqi (y := zb_I (zf_nn a b d)) (by simp [zb_I, zf_nn, c_4]) ?_
    exact W.zret hx hb hr (zb_nar _) (fun t ht hW => ⟨rfl, ht⟩) (fun q h => by cases h) dX0_areNumbers_26
  · refine lv_iload_n hx hb dX0_areNumbers_7 rfl (lv_at hl 1 rfl) ?_
    refine zw_ci (va_runS (As := [.int b]) (rest := []) ⟨hx, hb, hml, hown, hts⟩ (zc_isNumber l b) (va_cwS 1 hts gX0_areNumbers_X0_isNumber rfl rfl rfl (by decide +kernel) ⟨Nat.le_of_ble_eq_true rfl, Nat.le_of_ble_eq_true rfl⟩) (preEq) rfl rfl hl.1 rfl (lv_room (Nat.le_of_ble_eq_true rfl)) dX0_areNumbers_8 ⟨Nat.zero_le _, Nat.zero_le _⟩) ?_
    refine zw_ifeq (tgt := 25) hx hb dX0_areNumbers_11 (by decide) (fun c_11 => ?_) (fun c_11 => ?_)
    · refine lv_iconst (v := 0) hx hb dX0_areNumbers_25 (by decide) ?_
      refine zw_eqi (y := zb_I (zf_nn a b d)) (by simp [zb_I, zf_nn, c_4, c_11]) ?_
      exact W.zret hx hb hr (zb_nar _) (fun t ht hW => ⟨rfl, ht⟩) (fun q h => by cases h) dX0_areNumbers_26
    · refine lv_iload_n hx hb dX0_areNumbers_14 rfl (lv_at hl 2 rfl) ?_
      refine zw_ci (va_runS (As := [.int d]) (rest := []) ⟨hx, hb, hml, hown, hts⟩ (zc_isNumber l d) (va_cwS 1 hts gX0_areNumbers_X0_isNumber rfl rfl rfl (by decide +kernel) ⟨Nat.le_of_ble_eq_true rfl, Nat.le_of_ble_eq_true rfl⟩) (preEq) rfl rfl hl.1 rfl (lv_room (Nat.le_of_ble_eq_true rfl)) dX0_areNumbers_15 ⟨Nat.zero_le _, Nat.zero_le _⟩) ?_
      refine zw_ifeq (tgt := 25) hx hb dX0_areNumbers_18 (by decide) (fun c_18 => ?_) (fun c_18 => ?_)
      · refine lv_iconst (v := 0) hx hb dX0_areNumbers_25 (by decide) ?_
        refine zw_eqi (y := zb_I (zf_nn a b d)) (by simp [zb_I, zf_nn, c_4, c_11, c_18]) ?_
        exact W.zret hx hb hr (zb_nar _) (fun t ht hW => ⟨rfl, ht⟩) (fun q h => by cases h) dX0_areNumbers_26
      · refine lv_iconst (v := 1) hx hb dX0_areNumbers_21 (by decide) ?_
        refine lv_goto (tgt := 26) hx hb dX0_areNumbers_22 (by decide) ?_
        refine zw_eqi (y := zb_I (zf_nn a b d)) (by simp [zb_I, zf_nn, c_4, c_11, c_18]) ?_
        exact W.zret hx hb hr (zb_nar _) (fun t ht hW => ⟨rfl, ht⟩) (fun q h => by cases h) dX0_areNumbers_26
set_option maxHeartbeats 4000000 in
set_option maxRecDepth 100000 in
/-- areFirstNumbers(k, a, b, d) -/
theorem zc_areFirstNumbers (l : Launch) (k : Int32) (a : Int32) (b : Int32) (d : Int32) : Met l yX0_areFirstNumbers wsX0_areFirstNumbers ({ frames := 1, cells := 0, slots := 0, locals := 20 }) (fun w9 _ => w9 = ([.int k, .int a, .int b, .int d] : List Value).toArray) (zw_Q (some (.int (zb_I (zf_fn k a b d))))) 0 0 (fun _ => False) := by
  refine Met.ofW (cc := cX0_areFirstNumbers) (maxL := 4) (ret := (some .boolean)) (by decide) rfl ?_
  intro p e s m args below meth c s₁ B hml hv
  obtain rfl := hv
  have hx := B.exec
  have hb := B.bytes
  have hr := B.returns
  have hts := atoms_spec (ws := wsX0_areFirstNumbers) B.pre
  have hown : s.vm.findClass RX0 = some m.cls := findClass_of_methodNamed B.named
  have hl := lv_entry ([.int k, .int a, .int b, .int d]) (n := 4) (Nat.le_of_ble_eq_true rfl)
  rw [lg_entry_eq]
  generalize (lg_sl ([.int k, .int a, .int b, .int d]) ++ List.replicate (4 - (lg_sl ([.int k, .int a, .int b, .int d])).length) Slot.unset).toArray = ls at hl ⊢
  have hl : lv_has ls 4 [(0, .int k), (1, .int a), (2, .int b), (3, .int d)] := hl
  refine lv_iload_n hx hb dX0_areFirstNumbers_0 rfl (lv_at hl 0 rfl) ?_
  refine lv_iconst (v := 1) hx hb dX0_areFirstNumbers_1 (by decide) ?_
  refine lv_icmp_lt (tgt := 12) hx hb dX0_areFirstNumbers_2 (by decide) (fun c_2 => ?_) (fun c_2 => ?_)
  · refine lv_iload_n hx hb dX0_areFirstNumbers_12 rfl (lv_at hl 0 rfl) ?_
    refine lv_iconst (v := 2) hx hb dX0_areFirstNumbers_13 (by decide) ?_
    refine lv_icmp_lt (tgt := 24) hx hb dX0_areFirstNumbers_14 (by decide) (fun c_14 => ?_) (fun c_14 => ?_)
    · refine lv_iload_n hx hb dX0_areFirstNumbers_24 rfl (lv_at hl 0 rfl) ?_
      refine lv_iconst (v := 3) hx hb dX0_areFirstNumbers_25 (by decide) ?_
      refine lv_icmp_lt (tgt := 36) hx hb dX0_areFirstNumbers_26 (by decide) (fun c_26 => ?_) (fun c_26 => ?_)
      · refine lv_iconst (v := 1) hx hb dX0_areFirstNumbers_36 (by decide) ?_
        refine lv_goto (tgt := 41) hx hb dX0_areFirstNumbers_37 (by decide) ?_
        refine zw_eqi (y := zb_I (zf_fn k a b d)) (by simp [zb_I, zf_fn, c_2, c_14, c_26]) ?_
        exact W.zret hx hb hr (zb_nar _) (fun t ht hW => ⟨rfl, ht⟩) (fun q h => by cases h) dX0_areFirstNumbers_41
      · refine lv_iload_n hx hb dX0_areFirstNumbers_29 rfl (lv_at hl 3 rfl) ?_
        refine zw_ci (va_runS (As := [.int d]) (rest := []) ⟨hx, hb, hml, hown, hts⟩ (zc_isNumber l d) (va_cwS 1 hts gX0_areFirstNumbers_X0_isNumber rfl rfl rfl (by decide +kernel) ⟨Nat.le_of_ble_eq_true rfl, Nat.le_of_ble_eq_true rfl⟩) (preEq) rfl rfl hl.1 rfl (lv_room (Nat.le_of_ble_eq_true rfl)) dX0_areFirstNumbers_30 ⟨Nat.zero_le _, Nat.zero_le _⟩) ?_
        refine zw_ifeq (tgt := 40) hx hb dX0_areFirstNumbers_33 (by decide) (fun c_33 => ?_) (fun c_33 => ?_)
        · refine lv_iconst (v := 0) hx hb dX0_areFirstNumbers_40 (by decide) ?_
          refine zw_eqi (y := zb_I (zf_fn k a b d)) (by simp [zb_I, zf_fn, c_2, c_14, c_26, c_33]) ?_
          exact W.zret hx hb hr (zb_nar _) (fun t ht hW => ⟨rfl, ht⟩) (fun q h => by cases h) dX0_areFirstNumbers_41
        · refine lv_iconst (v := 1) hx hb dX0_areFirstNumbers_36 (by decide) ?_
          refine lv_goto (tgt := 41) hx hb dX0_areFirstNumbers_37 (by decide) ?_
          refine zw_eqi (y := zb_I (zf_fn k a b d)) (by simp [zb_I, zf_fn, c_2, c_14, c_26, c_33]) ?_
          exact W.zret hx hb hr (zb_nar _) (fun t ht hW => ⟨rfl, ht⟩) (fun q h => by cases h) dX0_areFirstNumbers_41
    · refine lv_iload_n hx hb dX0_areFirstNumbers_17 rfl (lv_at hl 2 rfl) ?_
      refine zw_ci (va_runS (As := [.int b]) (rest := []) ⟨hx, hb, hml, hown, hts⟩ (zc_isNumber l b) (va_cwS 1 hts gX0_areFirstNumbers_X0_isNumber rfl rfl rfl (by decide +kernel) ⟨Nat.le_of_ble_eq_true rfl, Nat.le_of_ble_eq_true rfl⟩) (preEq) rfl rfl hl.1 rfl (lv_room (Nat.le_of_ble_eq_true rfl)) dX0_areFirstNumbers_18 ⟨Nat.zero_le _, Nat.zero_le _⟩) ?_
      refine zw_ifeq (tgt := 40) hx hb dX0_areFirstNumbers_21 (by decide) (fun c_21 => ?_) (fun c_21 => ?_)
      · refine lv_iconst (v := 0) hx hb dX0_areFirstNumbers_40 (by decide) ?_
        refine zw_eqi (y := zb_I (zf_fn k a b d)) (by simp [zb_I, zf_fn, c_2, c_14, c_21]) ?_
        exact W.zret hx hb hr (zb_nar _) (fun t ht hW => ⟨rfl, ht⟩) (fun q h => by cases h) dX0_areFirstNumbers_41
      · refine lv_iload_n hx hb dX0_areFirstNumbers_24 rfl (lv_at hl 0 rfl) ?_
        refine lv_iconst (v := 3) hx hb dX0_areFirstNumbers_25 (by decide) ?_
        refine lv_icmp_lt (tgt := 36) hx hb dX0_areFirstNumbers_26 (by decide) (fun c_26 => ?_) (fun c_26 => ?_)
        · refine lv_iconst (v := 1) hx hb dX0_areFirstNumbers_36 (by decide) ?_
          refine lv_goto (tgt := 41) hx hb dX0_areFirstNumbers_37 (by decide) ?_
          refine zw_eqi (y := zb_I (zf_fn k a b d)) (by simp [zb_I, zf_fn, c_2, c_14, c_21, c_26]) ?_
          exact W.zret hx hb hr (zb_nar _) (fun t ht hW => ⟨rfl, ht⟩) (fun q h => by cases h) dX0_areFirstNumbers_41
        · refine lv_iload_n hx hb dX0_areFirstNumbers_29 rfl (lv_at hl 3 rfl) ?_
          refine zw_ci (va_runS (As := [.int d]) (rest := []) ⟨hx, hb, hml, hown, hts⟩ (zc_isNumber l d) (va_cwS 1 hts gX0_areFirstNumbers_X0_isNumber rfl rfl rfl (by decide +kernel) ⟨Nat.le_of_ble_eq_true rfl, Nat.le_of_ble_eq_true rfl⟩) (preEq) rfl rfl hl.1 rfl (lv_room (Nat.le_of_ble_eq_true rfl)) dX0_areFirstNumbers_30 ⟨Nat.zero_le _, Nat.zero_le _⟩) ?_
          refine zw_ifeq (tgt := 40) hx hb dX0_areFirstNumbers_33 (by decide) (fun c_33 => ?_) (fun c_33 => ?_)
          · refine lv_iconst (v := 0) hx hb dX0_areFirstNumbers_40 (by decide) ?_
            refine zw_eqi (y := zb_I (zf_fn k a b d)) (by simp [zb_I, zf_fn, c_2, c_14, c_21, c_26, c_33]) ?_
            exact W.zret hx hb hr (zb_nar _) (fun t ht hW => ⟨rfl, ht⟩) (fun q h => by cases h) dX0_areFirstNumbers_41
          · refine lv_iconst (v := 1) hx hb dX0_areFirstNumbers_36 (by decide) ?_
            refine lv_goto (tgt := 41) hx hb dX0_areFirstNumbers_37 (by decide) ?_
            refine zw_eqi (y := zb_I (zf_fn k a b d)) (by simp [zb_I, zf_fn, c_2, c_14, c_21, c_26, c_33]) ?_
            exact W.zret hx hb hr (zb_nar _) (fun t ht hW => ⟨rfl, ht⟩) (fun q h => by cases h) dX0_areFirstNumbers_41
  · refine lv_iload_n hx hb dX0_areFirstNumbers_5 rfl (lv_at hl 1 rfl) ?_
    refine zw_ci (va_runS (As := [.int a]) (rest := []) ⟨hx, hb, hml, hown, hts⟩ (zc_isNumber l a) (va_cwS 1 hts gX0_areFirstNumbers_X0_isNumber rfl rfl rfl (by decide +kernel) ⟨Nat.le_of_ble_eq_true rfl, Nat.le_of_ble_eq_true rfl⟩) (preEq) rfl rfl hl.1 rfl (lv_room (Nat.le_of_ble_eq_true rfl)) dX0_areFirstNumbers_6 ⟨Nat.zero_le _, Nat.zero_le _⟩) ?_
    refine zw_ifeq (tgt := 40) hx hb dX0_areFirstNumbers_9 (by decide) (fun c_9 => ?_) (fun c_9 => ?_)
    · refine lv_iconst (v := 0) hx hb dX0_areFirstNumbers_40 (by decide) ?_
      refine zw_eqi (y := zb_I (zf_fn k a b d)) (by simp [zb_I, zf_fn, c_2, c_9]) ?_
      exact W.zret hx hb hr (zb_nar _) (fun t ht hW => ⟨rfl, ht⟩) (fun q h => by cases h) dX0_areFirstNumbers_41
    · refine lv_iload_n hx hb dX0_areFirstNumbers_12 rfl (lv_at hl 0 rfl) ?_
      refine lv_iconst (v := 2) hx hb dX0_areFirstNumbers_13 (by decide) ?_
      refine lv_icmp_lt (tgt := 24) hx hb dX0_areFirstNumbers_14 (by decide) (fun c_14 => ?_) (fun c_14 => ?_)
      · refine lv_iload_n hx hb dX0_areFirstNumbers_24 rfl (lv_at hl 0 rfl) ?_
        refine lv_iconst (v := 3) hx hb dX0_areFirstNumbers_25 (by decide) ?_
        refine lv_icmp_lt (tgt := 36) hx hb dX0_areFirstNumbers_26 (by decide) (fun c_26 => ?_) (fun c_26 => ?_)
        · refine lv_iconst (v := 1) hx hb dX0_areFirstNumbers_36 (by decide) ?_
          refine lv_goto (tgt := 41) hx hb dX0_areFirstNumbers_37 (by decide) ?_
          refine zw_eqi (y := zb_I (zf_fn k a b d)) (by simp [zb_I, zf_fn, c_2, c_9, c_14, c_26]) ?_
          exact W.zret hx hb hr (zb_nar _) (fun t ht hW => ⟨rfl, ht⟩) (fun q h => by cases h) dX0_areFirstNumbers_41
        · refine lv_iload_n hx hb dX0_areFirstNumbers_29 rfl (lv_at hl 3 rfl) ?_
          refine zw_ci (va_runS (As := [.int d]) (rest := []) ⟨hx, hb, hml, hown, hts⟩ (zc_isNumber l d) (va_cwS 1 hts gX0_areFirstNumbers_X0_isNumber rfl rfl rfl (by decide +kernel) ⟨Nat.le_of_ble_eq_true rfl, Nat.le_of_ble_eq_true rfl⟩) (preEq) rfl rfl hl.1 rfl (lv_room (Nat.le_of_ble_eq_true rfl)) dX0_areFirstNumbers_30 ⟨Nat.zero_le _, Nat.zero_le _⟩) ?_
          refine zw_ifeq (tgt := 40) hx hb dX0_areFirstNumbers_33 (by decide) (fun c_33 => ?_) (fun c_33 => ?_)
          · refine lv_iconst (v := 0) hx hb dX0_areFirstNumbers_40 (by decide) ?_
            refine zw_eqi (y := zb_I (zf_fn k a b d)) (by simp [zb_I, zf_fn, c_2, c_9, c_14, c_26, c_33]) ?_
            exact W.zret hx hb hr (zb_nar _) (fun t ht hW => ⟨rfl, ht⟩) (fun q h => by cases h) dX0_areFirstNumbers_41
          · refine lv_iconst (v := 1) hx hb dX0_areFirstNumbers_36 (by decide) ?_
            refine lv_goto (tgt := 41) hx hb dX0_areFirstNumbers_37 (by decide) ?_
            refine zw_eqi (y := zb_I (zf_fn k a b d)) (by simp [zb_I, zf_fn, c_2, c_9, c_14, c_26, c_33]) ?_
            exact W.zret hx hb hr (zb_nar _) (fun t ht hW => ⟨rfl, ht⟩) (fun q h => by cases h) dX0_areFirstNumbers_41
      · refine lv_iload_n hx hb dX0_areFirstNumbers_17 rfl (lv_at hl 2 rfl) ?_
        refine zw_ci (va_runS (As := [.int b]) (rest := []) ⟨hx, hb, hml, hown, hts⟩ (zc_isNumber l b) (va_cwS 1 hts gX0_areFirstNumbers_X0_isNumber rfl rfl rfl (by decide +kernel) ⟨Nat.le_of_ble_eq_true rfl, Nat.le_of_ble_eq_true rfl⟩) (preEq) rfl rfl hl.1 rfl (lv_room (Nat.le_of_ble_eq_true rfl)) dX0_areFirstNumbers_18 ⟨Nat.zero_le _, Nat.zero_le _⟩) ?_
        refine zw_ifeq (tgt := 40) hx hb dX0_areFirstNumbers_21 (by decide) (fun c_21 => ?_) (fun c_21 => ?_)
        · refine lv_iconst (v := 0) hx hb dX0_areFirstNumbers_40 (by decide) ?_
          refine zw_eqi (y := zb_I (zf_fn k a b d)) (by simp [zb_I, zf_fn, c_2, c_9, c_14, c_21]) ?_
          exact W.zret hx hb hr (zb_nar _) (fun t ht hW => ⟨rfl, ht⟩) (fun q h => by cases h) dX0_areFirstNumbers_41
        · refine lv_iload_n hx hb dX0_areFirstNumbers_24 rfl (lv_at hl 0 rfl) ?_
          refine lv_iconst (v := 3) hx hb dX0_areFirstNumbers_25 (by decide) ?_
          refine lv_icmp_lt (tgt := 36) hx hb dX0_areFirstNumbers_26 (by decide) (fun c_26 => ?_) (fun c_26 => ?_)
          · refine lv_iconst (v := 1) hx hb dX0_areFirstNumbers_36 (by decide) ?_
            refine lv_goto (tgt := 41) hx hb dX0_areFirstNumbers_37 (by decide) ?_
            refine zw_eqi (y := zb_I (zf_fn k a b d)) (by simp [zb_I, zf_fn, c_2, c_9, c_14, c_21, c_26]) ?_
            exact W.zret hx hb hr (zb_nar _) (fun t ht hW => ⟨rfl, ht⟩) (fun q h => by cases h) dX0_areFirstNumbers_41
          · refine lv_iload_n hx hb dX0_areFirstNumbers_29 rfl (lv_at hl 3 rfl) ?_
            refine zw_ci (va_runS (As := [.int d]) (rest := []) ⟨hx, hb, hml, hown, hts⟩ (zc_isNumber l d) (va_cwS 1 hts gX0_areFirstNumbers_X0_isNumber rfl rfl rfl (by decide +kernel) ⟨Nat.le_of_ble_eq_true rfl, Nat.le_of_ble_eq_true rfl⟩) (preEq) rfl rfl hl.1 rfl (lv_room (Nat.le_of_ble_eq_true rfl)) dX0_areFirstNumbers_30 ⟨Nat.zero_le _, Nat.zero_le _⟩) ?_
            refine zw_ifeq (tgt := 40) hx hb dX0_areFirstNumbers_33 (by decide) (fun c_33 => ?_) (fun c_33 => ?_)
            · refine lv_iconst (v := 0) hx hb dX0_areFirstNumbers_40 (by decide) ?_
              refine zw_eqi (y := zb_I (zf_fn k a b d)) (by simp [zb_I, zf_fn, c_2, c_9, c_14, c_21, c_26, c_33]) ?_
              exact W.zret hx hb hr (zb_nar _) (fun t ht hW => ⟨rfl, ht⟩) (fun q h => by cases h) dX0_areFirstNumbers_41
            · refine lv_iconst (v := 1) hx hb dX0_areFirstNumbers_36 (by decide) ?_
              refine lv_goto (tgt := 41) hx hb dX0_areFirstNumbers_37 (by decide) ?_
              refine zw_eqi (y := zb_I (zf_fn k a b d)) (by simp [zb_I, zf_fn, c_2, c_9, c_14, c_21, c_26, c_33]) ?_
              exact W.zret hx hb hr (zb_nar _) (fun t ht hW => ⟨rfl, ht⟩) (fun q h => by cases h) dX0_areFirstNumbers_41
set_option maxHeartbeats 4000000 in
set_option maxRecDepth 100000 in
/-- shiftOf(v) -/
theorem zc_shiftOf (l : Launch) (v : Int32) : Met l yX0_shiftOf wsX0_shiftOf ({ frames := 0, cells := 0, slots := 0, locals := 0 }) (fun w9 _ => w9 = ([.int v] : List Value).toArray) (zw_Q (some (.int (zf_sh v)))) 0 0 (fun _ => False) := by
  refine Met.ofW (cc := cX0_shiftOf) (maxL := 1) (ret := (some .int)) (by decide) rfl ?_
  intro p e s m args below meth c s₁ B hml hv
  obtain rfl := hv
  have hx := B.exec
  have hb := B.bytes
  have hr := B.returns
  have hts := atoms_spec (ws := wsX0_shiftOf) B.pre
  have hown : s.vm.findClass RX0 = some m.cls := findClass_of_methodNamed B.named
  have hl := lv_entry ([.int v]) (n := 1) (Nat.le_of_ble_eq_true rfl)
  rw [lg_entry_eq]
  generalize (lg_sl ([.int v]) ++ List.replicate (1 - (lg_sl ([.int v])).length) Slot.unset).toArray = ls at hl ⊢
  have hl : lv_has ls 1 [(0, .int v)] := hl
  refine lv_bipush (v := 20) hx hb dX0_shiftOf_0 (by decide) ?_
  refine lv_iconst (v := 2) hx hb dX0_shiftOf_2 (by decide) ?_
  refine lv_iload_n hx hb dX0_shiftOf_3 rfl (lv_at hl 0 rfl) ?_
  refine lv_isub hx hb dX0_shiftOf_4 ?_
  refine lv_imul hx hb dX0_shiftOf_5 ?_
  refine zw_eqi (y := zf_sh v) (rfl) ?_
  exact W.iret hx hb hr (fun t ht hW => ⟨rfl, ht⟩) (fun q h => by cases h) dX0_shiftOf_6
set_option maxHeartbeats 4000000 in
set_option maxRecDepth 100000 in
/-- keyOf(a, b, d) -/
theorem zc_keyOf (l : Launch) (a : Int32) (b : Int32) (d : Int32) : Met l yX0_keyOf wsX0_keyOf ({ frames := 1, cells := 0, slots := 0, locals := 20 }) (fun w9 _ => w9 = ([.int a, .int b, .int d] : List Value).toArray) (zw_Q (some (.long (zf_key a b d)))) 0 0 (fun _ => False) := by
  refine Met.ofW (cc := cX0_keyOf) (maxL := 3) (ret := (some .long)) (by decide) rfl ?_
  intro p e s m args below meth c s₁ B hml hv
  obtain rfl := hv
  have hx := B.exec
  have hb := B.bytes
  have hr := B.returns
  have hts := atoms_spec (ws := wsX0_keyOf) B.pre
  have hown : s.vm.findClass RX0 = some m.cls := findClass_of_methodNamed B.named
  have hl := lv_entry ([.int a, .int b, .int d]) (n := 3) (Nat.le_of_ble_eq_true rfl)
  rw [lg_entry_eq]
  generalize (lg_sl ([.int a, .int b, .int d]) ++ List.replicate (3 - (lg_sl ([.int a, .int b, .int d])).length) Slot.unset).toArray = ls at hl ⊢
  have hl : lv_has ls 3 [(0, .int a), (1, .int b), (2, .int d)] := hl
  refine lv_iload_n hx hb dX0_keyOf_0 rfl (lv_at hl 0 rfl) ?_
  refine lv_i2l (v := Int32.toInt64 a) hx hb dX0_keyOf_1 rfl ?_
  refine lv_iconst (v := 0) hx hb dX0_keyOf_2 (by decide) ?_
  refine zw_ci (va_runS (As := [.int 0]) (rest := [.long (Int32.toInt64 a)]) ⟨hx, hb, hml, hown, hts⟩ (zc_shiftOf l 0) (va_cwS 1 hts gX0_keyOf_X0_shiftOf rfl rfl rfl (by decide +kernel) ⟨Nat.le_of_ble_eq_true rfl, Nat.le_of_ble_eq_true rfl⟩) (preEq) rfl rfl hl.1 rfl (lv_room (Nat.le_of_ble_eq_true rfl)) dX0_keyOf_3 ⟨Nat.zero_le _, Nat.zero_le _⟩) ?_
  refine lv_lshl (v := (Int32.toInt64 a) <<< (Int32.toInt64 (zf_sh 0) &&& 63)) hx hb dX0_keyOf_6 rfl ?_
  refine lv_iload_n hx hb dX0_keyOf_7 rfl (lv_at hl 1 rfl) ?_
  refine lv_i2l (v := Int32.toInt64 b) hx hb dX0_keyOf_8 rfl ?_
  refine lv_iconst (v := 1) hx hb dX0_keyOf_9 (by decide) ?_
  refine zw_ci (va_runS (As := [.int 1]) (rest := [.long (Int32.toInt64 b), .long ((Int32.toInt64 a) <<< (Int32.toInt64 (zf_sh 0) &&& 63))]) ⟨hx, hb, hml, hown, hts⟩ (zc_shiftOf l 1) (va_cwS 1 hts gX0_keyOf_X0_shiftOf rfl rfl rfl (by decide +kernel) ⟨Nat.le_of_ble_eq_true rfl, Nat.le_of_ble_eq_true rfl⟩) (preEq) rfl rfl hl.1 rfl (lv_room (Nat.le_of_ble_eq_true rfl)) dX0_keyOf_10 ⟨Nat.zero_le _, Nat.zero_le _⟩) ?_
  refine lv_lshl (v := (Int32.toInt64 b) <<< (Int32.toInt64 (zf_sh 1) &&& 63)) hx hb dX0_keyOf_13 rfl ?_
  refine lv_lor hx hb dX0_keyOf_14 ?_
  refine lv_iload_n hx hb dX0_keyOf_15 rfl (lv_at hl 2 rfl) ?_
  refine lv_i2l (v := Int32.toInt64 d) hx hb dX0_keyOf_16 rfl ?_
  refine lv_lor hx hb dX0_keyOf_17 ?_
  refine zw_eql (y := zf_key a b d) (rfl) ?_
  exact W.lret hx hb hr (fun t ht hW => ⟨rfl, ht⟩) (fun q h => by cases h) dX0_keyOf_18
set_option maxHeartbeats 4000000 in
set_option maxRecDepth 100000 in
/-- firstKey(k, a, b, d) -/
theorem zc_firstKey (l : Launch) (k : Int32) (a : Int32) (b : Int32) (d : Int32) : Met l yX0_firstKey wsX0_firstKey ({ frames := 2, cells := 0, slots := 0, locals := 42 }) (fun w9 _ => w9 = ([.int k, .int a, .int b, .int d] : List Value).toArray) (zw_Q (some (.long (zf_first k a b d)))) 0 0 (fun _ => False) := by
  refine Met.ofW (cc := cX0_firstKey) (maxL := 4) (ret := (some .long)) (by decide) rfl ?_
  intro p e s m args below meth c s₁ B hml hv
  obtain rfl := hv
  have hx := B.exec
  have hb := B.bytes
  have hr := B.returns
  have hts := atoms_spec (ws := wsX0_firstKey) B.pre
  have hown : s.vm.findClass RX0 = some m.cls := findClass_of_methodNamed B.named
  have hl := lv_entry ([.int k, .int a, .int b, .int d]) (n := 4) (Nat.le_of_ble_eq_true rfl)
  rw [lg_entry_eq]
  generalize (lg_sl ([.int k, .int a, .int b, .int d]) ++ List.replicate (4 - (lg_sl ([.int k, .int a, .int b, .int d])).length) Slot.unset).toArray = ls at hl ⊢
  have hl : lv_has ls 4 [(0, .int k), (1, .int a), (2, .int b), (3, .int d)] := hl
  refine lv_iload_n hx hb dX0_firstKey_0 rfl (lv_at hl 0 rfl) ?_
  refine lv_iconst (v := 1) hx hb dX0_firstKey_1 (by decide) ?_
  refine lv_icmp_ge (tgt := 9) hx hb dX0_firstKey_2 (by decide) (fun c_2 => ?_) (fun c_2 => ?_)
  · refine lv_iload_n hx hb dX0_firstKey_9 rfl (lv_at hl 1 rfl) ?_
    refine lv_iload_n hx hb dX0_firstKey_10 rfl (lv_at hl 0 rfl) ?_
    refine lv_iconst (v := 2) hx hb dX0_firstKey_11 (by decide) ?_
    refine lv_icmp_ge (tgt := 19) hx hb dX0_firstKey_12 (by decide) (fun c_12 => ?_) (fun c_12 => ?_)
    · refine lv_iload_n hx hb dX0_firstKey_19 rfl (lv_at hl 2 rfl) ?_
      refine lv_iload_n hx hb dX0_firstKey_20 rfl (lv_at hl 0 rfl) ?_
      refine lv_iconst (v := 3) hx hb dX0_firstKey_21 (by decide) ?_
      refine lv_icmp_ge (tgt := 29) hx hb dX0_firstKey_22 (by decide) (fun c_22 => ?_) (fun c_22 => ?_)
      · refine lv_iload_n hx hb dX0_firstKey_29 rfl (lv_at hl 3 rfl) ?_
        refine zw_cl (va_runS (As := [.int a, .int b, .int d]) (rest := []) ⟨hx, hb, hml, hown, hts⟩ (zc_keyOf l a b d) (va_cwS 3 hts gX0_firstKey_X0_keyOf rfl rfl rfl (by decide +kernel) ⟨Nat.le_of_ble_eq_true rfl, Nat.le_of_ble_eq_true rfl⟩) (preEq) rfl rfl hl.1 rfl (lv_room (Nat.le_of_ble_eq_true rfl)) dX0_firstKey_30 ⟨Nat.zero_le _, Nat.zero_le _⟩) ?_
        refine zw_eql (y := zf_first k a b d) (by simp [zf_first, c_2, c_12, c_22]) ?_
        exact W.lret hx hb hr (fun t ht hW => ⟨rfl, ht⟩) (fun q h => by cases h) dX0_firstKey_33
      · refine lv_iconst (v := 0) hx hb dX0_firstKey_25 (by decide) ?_
        refine lv_goto (tgt := 30) hx hb dX0_firstKey_26 (by decide) ?_
        refine zw_cl (va_runS (As := [.int a, .int b, .int 0]) (rest := []) ⟨hx, hb, hml, hown, hts⟩ (zc_keyOf l a b 0) (va_cwS 3 hts gX0_firstKey_X0_keyOf rfl rfl rfl (by decide +kernel) ⟨Nat.le_of_ble_eq_true rfl, Nat.le_of_ble_eq_true rfl⟩) (preEq) rfl rfl hl.1 rfl (lv_room (Nat.le_of_ble_eq_true rfl)) dX0_firstKey_30 ⟨Nat.zero_le _, Nat.zero_le _⟩) ?_
        refine zw_eql (y := zf_first k a b d) (by simp [zf_first, c_2, c_12, c_22]) ?_
        exact W.lret hx hb hr (fun t ht hW => ⟨rfl, ht⟩) (fun q h => by cases h) dX0_firstKey_33
    · refine lv_iconst (v := 0) hx hb dX0_firstKey_15 (by decide) ?_
      refine lv_goto (tgt := 20) hx hb dX0_firstKey_16 (by decide) ?_
      refine lv_iload_n hx hb dX0_firstKey_20 rfl (lv_at hl 0 rfl) ?_
      refine lv_iconst (v := 3) hx hb dX0_firstKey_21 (by decide) ?_
      refine lv_icmp_ge (tgt := 29) hx hb dX0_firstKey_22 (by decide) (fun c_22 => ?_) (fun c_22 => ?_)
      · refine lv_iload_n hx hb dX0_firstKey_29 rfl (lv_at hl 3 rfl) ?_
        refine zw_cl (va_runS (As := [.int a, .int 0, .int d]) (rest := []) ⟨hx, hb, hml, hown, hts⟩ (zc_keyOf l a 0 d) (va_cwS 3 hts gX0_firstKey_X0_keyOf rfl rfl rfl (by decide +kernel) ⟨Nat.le_of_ble_eq_true rfl, Nat.le_of_ble_eq_true rfl⟩) (preEq) rfl rfl hl.1 rfl (lv_room (Nat.le_of_ble_eq_true rfl)) dX0_firstKey_30 ⟨Nat.zero_le _, Nat.zero_le _⟩) ?_
        refine zw_eql (y := zf_first k a b d) (by simp [zf_first, c_2, c_12, c_22]) ?_
        exact W.lret hx hb hr (fun t ht hW => ⟨rfl, ht⟩) (fun q h => by cases h) dX0_firstKey_33
      · refine lv_iconst (v := 0) hx hb dX0_firstKey_25 (by decide) ?_
        refine lv_goto (tgt := 30) hx hb dX0_firstKey_26 (by decide) ?_
        refine zw_cl (va_runS (As := [.int a, .int 0, .int 0]) (rest := []) ⟨hx, hb, hml, hown, hts⟩ (zc_keyOf l a 0 0) (va_cwS 3 hts gX0_firstKey_X0_keyOf rfl rfl rfl (by decide +kernel) ⟨Nat.le_of_ble_eq_true rfl, Nat.le_of_ble_eq_true rfl⟩) (preEq) rfl rfl hl.1 rfl (lv_room (Nat.le_of_ble_eq_true rfl)) dX0_firstKey_30 ⟨Nat.zero_le _, Nat.zero_le _⟩) ?_
        refine zw_eql (y := zf_first k a b d) (by simp [zf_first, c_2, c_12, c_22]) ?_
        exact W.lret hx hb hr (fun t ht hW => ⟨rfl, ht⟩) (fun q h => by cases h) dX0_firstKey_33
  · refine lv_iconst (v := 0) hx hb dX0_firstKey_5 (by decide) ?_
    refine lv_goto (tgt := 10) hx hb dX0_firstKey_6 (by decide) ?_
    refine lv_iload_n hx hb dX0_firstKey_10 rfl (lv_at hl 0 rfl) ?_
    refine lv_iconst (v := 2) hx hb dX0_firstKey_11 (by decide) ?_
    refine lv_icmp_ge (tgt := 19) hx hb dX0_firstKey_12 (by decide) (fun c_12 => ?_) (fun c_12 => ?_)
    · refine lv_iload_n hx hb dX0_firstKey_19 rfl (lv_at hl 2 rfl) ?_
      refine lv_iload_n hx hb dX0_firstKey_20 rfl (lv_at hl 0 rfl) ?_
      refine lv_iconst (v := 3) hx hb dX0_firstKey_21 (by decide) ?_
      refine lv_icmp_ge (tgt := 29) hx hb dX0_firstKey_22 (by decide) (fun c_22 => ?_) (fun c_22 => ?_)
      · refine lv_iload_n hx hb dX0_firstKey_29 rfl (lv_at hl 3 rfl) ?_
        refine zw_cl (va_runS (As := [.int 0, .int b, .int d]) (rest := []) ⟨hx, hb, hml, hown, hts⟩ (zc_keyOf l 0 b d) (va_cwS 3 hts gX0_firstKey_X0_keyOf rfl rfl rfl (by decide +kernel) ⟨Nat.le_of_ble_eq_true rfl, Nat.le_of_ble_eq_true rfl⟩) (preEq) rfl rfl hl.1 rfl (lv_room (Nat.le_of_ble_eq_true rfl)) dX0_firstKey_30 ⟨Nat.zero_le _, Nat.zero_le _⟩) ?_
        refine zw_eql (y := zf_first k a b d) (by simp [zf_first, c_2, c_12, c_22]) ?_
        exact W.lret hx hb hr (fun t ht hW => ⟨rfl, ht⟩) (fun q h => by cases h) dX0_firstKey_33
      · refine lv_iconst (v := 0) hx hb dX0_firstKey_25 (by decide) ?_
        refine lv_goto (tgt := 30) hx hb dX0_firstKey_26 (by decide) ?_
        refine zw_cl (va_runS (As := [.int 0, .int b, .int 0]) (rest := []) ⟨hx, hb, hml, hown, hts⟩ (zc_keyOf l 0 b 0) (va_cwS 3 hts gX0_firstKey_X0_keyOf rfl rfl rfl (by decide +kernel) ⟨Nat.le_of_ble_eq_true rfl, Nat.le_of_ble_eq_true rfl⟩) (preEq) rfl rfl hl.1 rfl (lv_room (Nat.le_of_ble_eq_true rfl)) dX0_firstKey_30 ⟨Nat.zero_le _, Nat.zero_le _⟩) ?_
        refine zw_eql (y := zf_first k a b d) (by simp [zf_first, c_2, c_12, c_22]) ?_
        exact W.lret hx hb hr (fun t ht hW => ⟨rfl, ht⟩) (fun q h => by cases h) dX0_firstKey_33
    · refine lv_iconst (v := 0) hx hb dX0_firstKey_15 (by decide) ?_
      refine lv_goto (tgt := 20) hx hb dX0_firstKey_16 (by decide) ?_
      refine lv_iload_n hx hb dX0_firstKey_20 rfl (lv_at hl 0 rfl) ?_
      refine lv_iconst (v := 3) hx hb dX0_firstKey_21 (by decide) ?_
      refine lv_icmp_ge (tgt := 29) hx hb dX0_firstKey_22 (by decide) (fun c_22 => ?_) (fun c_22 => ?_)
      · refine lv_iload_n hx hb dX0_firstKey_29 rfl (lv_at hl 3 rfl) ?_
        refine zw_cl (va_runS (As := [.int 0, .int 0, .int d]) (rest := []) ⟨hx, hb, hml, hown, hts⟩ (zc_keyOf l 0 0 d) (va_cwS 3 hts gX0_firstKey_X0_keyOf rfl rfl rfl (by decide +kernel) ⟨Nat.le_of_ble_eq_true rfl, Nat.le_of_ble_eq_true rfl⟩) (preEq) rfl rfl hl.1 rfl (lv_room (Nat.le_of_ble_eq_true rfl)) dX0_firstKey_30 ⟨Nat.zero_le _, Nat.zero_le _⟩) ?_
        refine zw_eql (y := zf_first k a b d) (by simp [zf_first, c_2, c_12, c_22]) ?_
        exact W.lret hx hb hr (fun t ht hW => ⟨rfl, ht⟩) (fun q h => by cases h) dX0_firstKey_33
      · refine lv_iconst (v := 0) hx hb dX0_firstKey_25 (by decide) ?_
        refine lv_goto (tgt := 30) hx hb dX0_firstKey_26 (by decide) ?_
        refine zw_cl (va_runS (As := [.int 0, .int 0, .int 0]) (rest := []) ⟨hx, hb, hml, hown, hts⟩ (zc_keyOf l 0 0 0) (va_cwS 3 hts gX0_firstKey_X0_keyOf rfl rfl rfl (by decide +kernel) ⟨Nat.le_of_ble_eq_true rfl, Nat.le_of_ble_eq_true rfl⟩) (preEq) rfl rfl hl.1 rfl (lv_room (Nat.le_of_ble_eq_true rfl)) dX0_firstKey_30 ⟨Nat.zero_le _, Nat.zero_le _⟩) ?_
        refine zw_eql (y := zf_first k a b d) (by simp [zf_first, c_2, c_12, c_22]) ?_
        exact W.lret hx hb hr (fun t ht hW => ⟨rfl, ht⟩) (fun q h => by cases h) dX0_firstKey_33
set_option maxHeartbeats 4000000 in
set_option maxRecDepth 100000 in
/-- keysInAll(k) -/
theorem zc_keysInAll (l : Launch) (k : Int32) : Met l yX0_keysInAll wsX0_keysInAll ({ frames := 0, cells := 0, slots := 0, locals := 0 }) (fun w9 _ => w9 = ([.int k] : List Value).toArray) (zw_Q (some (.long (zf_all k)))) 0 0 (fun _ => False) := by
  refine Met.ofW (cc := cX0_keysInAll) (maxL := 1) (ret := (some .long)) (by decide) rfl ?_
  intro p e s m args below meth c s₁ B hml hv
  obtain rfl := hv
  have hx := B.exec
  have hb := B.bytes
  have hr := B.returns
  have hts := atoms_spec (ws := wsX0_keysInAll) B.pre
  have hown : s.vm.findClass RX0 = some m.cls := findClass_of_methodNamed B.named
  have hl := lv_entry ([.int k]) (n := 1) (Nat.le_of_ble_eq_true rfl)
  rw [lg_entry_eq]
  generalize (lg_sl ([.int k]) ++ List.replicate (1 - (lg_sl ([.int k])).length) Slot.unset).toArray = ls at hl ⊢
  have hl : lv_has ls 1 [(0, .int k)] := hl
  refine lv_lconst (v := 1) hx hb dX0_keysInAll_0 (by decide) ?_
  refine lv_bipush (v := 20) hx hb dX0_keysInAll_1 (by decide) ?_
  refine lv_iconst (v := 3) hx hb dX0_keysInAll_3 (by decide) ?_
  refine lv_iload_n hx hb dX0_keysInAll_4 rfl (lv_at hl 0 rfl) ?_
  refine lv_isub hx hb dX0_keysInAll_5 ?_
  refine lv_imul hx hb dX0_keysInAll_6 ?_
  refine lv_lshl (v := 1 <<< (Int32.toInt64 (20 * (3 - k)) &&& 63)) hx hb dX0_keysInAll_7 rfl ?_
  refine zw_eql (y := zf_all k) (rfl) ?_
  exact W.lret hx hb hr (fun t ht hW => ⟨rfl, ht⟩) (fun q h => by cases h) dX0_keysInAll_8
set_option maxHeartbeats 4000000 in
set_option maxRecDepth 100000 in
/-- keyOfTriple(x, y, z) -/
theorem zc_keyOfTriple (l : Launch) (dC : Nat → ClassId) (dI : Nat → Nat → Nat) (h0 ha : Nat) (cA : ClassId) (n : Nat) (f : Nat → Int64) (px py pz : Int32) (ks : List Nat) (cur : Int64) (x : Int32) (y : Int32) (z : Int32) : Met l yX0_keyOfTriple wsX0_keyOfTriple ({ frames := 1, cells := 0, slots := 0, locals := 20 }) (zw_P [.ref h0, .int x, .int y, .int z] (dC, dI) vwCl (zx_w h0 ha cA n f px py pz ks.length cur) [(cA, .long)]) (zw_Q (some (.long (zf_kt px py pz x y z)))) 0 0 (fun _ => False) := by
  refine Met.ofW (cc := cX0_keyOfTriple) (maxL := 4) (ret := (some .long)) (by decide) rfl ?_
  intro p e s m args below meth c s₁ B hml hv
  obtain ⟨rfl, hP, hK⟩ := hv
  have hx := B.exec
  have hb := B.bytes
  have hr := B.returns
  have hts := atoms_spec (ws := wsX0_keyOfTriple) B.pre
  have hown : s.vm.findClass RX0 = some m.cls := findClass_of_methodNamed B.named
  have hl := lv_entry ([.ref h0, .int x, .int y, .int z]) (n := 4) (Nat.le_of_ble_eq_true rfl)
  rw [lg_entry_eq]
  generalize (lg_sl ([.ref h0, .int x, .int y, .int z]) ++ List.replicate (4 - (lg_sl ([.ref h0, .int x, .int y, .int z])).length) Slot.unset).toArray = ls at hl ⊢
  have hl : lv_has ls 4 [(0, .ref h0), (1, .int x), (2, .int y), (3, .int z)] := hl
  have hP : va_P (dC, dI) vwCl (zx_w h0 ha cA n f px py pz ks.length cur) s.heap := hP
  refine lv_iload_n hx hb dX0_keyOfTriple_0 rfl (lv_at hl 1 rfl) ?_
  refine lv_i2l (v := Int32.toInt64 x) hx hb dX0_keyOfTriple_1 rfl ?_
  refine lv_aload_n hx hb dX0_keyOfTriple_2 rfl (lv_at hl 0 rfl) ?_
  refine va_get (D := (dC, dI)) (ci := 0) (v := .int px) (C := RX0) (T := TX0) (N := 6) hx hb hts (by decide +kernel) hown hK hP 0 rfl rfl 0 (by decide) (hts (.fieldLink RX0 19 "PageIndex" "placeOfX" "I") (by decide +kernel)) (fun _ h9 => h9) rfl dX0_keyOfTriple_3 ?_
  refine zw_ci (va_runS (As := [.int px]) (rest := [.long (Int32.toInt64 x)]) ⟨hx, hb, hml, hown, hts⟩ (zc_shiftOf l px) (va_cwS 1 hts gX0_keyOfTriple_X0_shiftOf rfl rfl rfl (by decide +kernel) ⟨Nat.le_of_ble_eq_true rfl, Nat.le_of_ble_eq_true rfl⟩) (preEq) rfl rfl hl.1 rfl (lv_room (Nat.le_of_ble_eq_true rfl)) dX0_keyOfTriple_6 ⟨Nat.zero_le _, Nat.zero_le _⟩) ?_
  refine lv_lshl (v := (Int32.toInt64 x) <<< (Int32.toInt64 (zf_sh px) &&& 63)) hx hb dX0_keyOfTriple_9 rfl ?_
  refine lv_iload_n hx hb dX0_keyOfTriple_10 rfl (lv_at hl 2 rfl) ?_
  refine lv_i2l (v := Int32.toInt64 y) hx hb dX0_keyOfTriple_11 rfl ?_
  refine lv_aload_n hx hb dX0_keyOfTriple_12 rfl (lv_at hl 0 rfl) ?_
  refine va_get (D := (dC, dI)) (ci := 0) (v := .int py) (C := RX0) (T := TX0) (N := 6) hx hb hts (by decide +kernel) hown hK hP 0 rfl rfl 1 (by decide) (hts (.fieldLink RX0 23 "PageIndex" "placeOfY" "I") (by decide +kernel)) (fun _ h9 => h9) rfl dX0_keyOfTriple_13 ?_
  refine zw_ci (va_runS (As := [.int py]) (rest := [.long (Int32.toInt64 y), .long ((Int32.toInt64 x) <<< (Int32.toInt64 (zf_sh px) &&& 63))]) ⟨hx, hb, hml, hown, hts⟩ (zc_shiftOf l py) (va_cwS 1 hts gX0_keyOfTriple_X0_shiftOf rfl rfl rfl (by decide +kernel) ⟨Nat.le_of_ble_eq_true rfl, Nat.le_of_ble_eq_true rfl⟩) (preEq) rfl rfl hl.1 rfl (lv_room (Nat.le_of_ble_eq_true rfl)) dX0_keyOfTriple_16 ⟨Nat.zero_le _, Nat.zero_le _⟩) ?_
  refine lv_lshl (v := (Int32.toInt64 y) <<< (Int32.toInt64 (zf_sh py) &&& 63)) hx hb dX0_keyOfTriple_19 rfl ?_
  refine lv_lor hx hb dX0_keyOfTriple_20 ?_
  refine lv_iload_n hx hb dX0_keyOfTriple_21 rfl (lv_at hl 3 rfl) ?_
  refine lv_i2l (v := Int32.toInt64 z) hx hb dX0_keyOfTriple_22 rfl ?_
  refine lv_aload_n hx hb dX0_keyOfTriple_23 rfl (lv_at hl 0 rfl) ?_
  refine va_get (D := (dC, dI)) (ci := 0) (v := .int pz) (C := RX0) (T := TX0) (N := 6) hx hb hts (by decide +kernel) hown hK hP 0 rfl rfl 2 (by decide) (hts (.fieldLink RX0 26 "PageIndex" "placeOfZ" "I") (by decide +kernel)) (fun _ h9 => h9) rfl dX0_keyOfTriple_24 ?_
  refine zw_ci (va_runS (As := [.int pz]) (rest := [.long (Int32.toInt64 z), .long (((Int32.toInt64 x) <<< (Int32.toInt64 (zf_sh px) &&& 63)) ||| ((Int32.toInt64 y) <<< (Int32.toInt64 (zf_sh py) &&& 63)))]) ⟨hx, hb, hml, hown, hts⟩ (zc_shiftOf l pz) (va_cwS 1 hts gX0_keyOfTriple_X0_shiftOf rfl rfl rfl (by decide +kernel) ⟨Nat.le_of_ble_eq_true rfl, Nat.le_of_ble_eq_true rfl⟩) (preEq) rfl rfl hl.1 rfl (lv_room (Nat.le_of_ble_eq_true rfl)) dX0_keyOfTriple_27 ⟨Nat.zero_le _, Nat.zero_le _⟩) ?_
  refine lv_lshl (v := (Int32.toInt64 z) <<< (Int32.toInt64 (zf_sh pz) &&& 63)) hx hb dX0_keyOfTriple_30 rfl ?_
  refine lv_lor hx hb dX0_keyOfTriple_31 ?_
  refine zw_eql (y := zf_kt px py pz x y z) (rfl) ?_
  exact W.lret hx hb hr (fun t ht hW => ⟨rfl, ht⟩) (fun q h => by cases h) dX0_keyOfTriple_32
set_option maxHeartbeats 4000000 in
set_option maxRecDepth 100000 in
/-- cursorNumber(v) -/
theorem zc_cursorNumber (l : Launch) (dC : Nat → ClassId) (dI : Nat → Nat → Nat) (h0 ha : Nat) (cA : ClassId) (n : Nat) (f : Nat → Int64) (px py pz : Int32) (ks : List Nat) (cur : Int64) (v : Int32) : Met l yX0_cursorNumber wsX0_cursorNumber ({ frames := 1, cells := 0, slots := 0, locals := 20 }) (zw_P [.ref h0, .int v] (dC, dI) vwCl (zx_w h0 ha cA n f px py pz ks.length cur) [(cA, .long)]) (zw_Q (some (.int (zf_cn cur v)))) 0 0 (fun _ => False) := by
  refine Met.ofW (cc := cX0_cursorNumber) (maxL := 2) (ret := (some .int)) (by decide) rfl ?_
  intro p e s m args below meth c s₁ B hml hv
  obtain ⟨rfl, hP, hK⟩ := hv
  have hx := B.exec
  have hb := B.bytes
  have hr := B.returns
  have hts := atoms_spec (ws := wsX0_cursorNumber) B.pre
  have hown : s.vm.findClass RX0 = some m.cls := findClass_of_methodNamed B.named
  have hl := lv_entry ([.ref h0, .int v]) (n := 2) (Nat.le_of_ble_eq_true rfl)
  rw [lg_entry_eq]
  generalize (lg_sl ([.ref h0, .int v]) ++ List.replicate (2 - (lg_sl ([.ref h0, .int v])).length) Slot.unset).toArray = ls at hl ⊢
  have hl : lv_has ls 2 [(0, .ref h0), (1, .int v)] := hl
  have hP : va_P (dC, dI) vwCl (zx_w h0 ha cA n f px py pz ks.length cur) s.heap := hP
  refine lv_aload_n hx hb dX0_cursorNumber_0 rfl (lv_at hl 0 rfl) ?_
  refine va_get (D := (dC, dI)) (ci := 0) (v := .long cur) (C := RX0) (T := TX0) (N := 6) hx hb hts (by decide +kernel) hown hK hP 0 rfl rfl 5 (by decide) (hts (.fieldLink RX0 38 "PageIndex" "cursor" "J") (by decide +kernel)) (fun _ h9 => h9) rfl dX0_cursorNumber_1 ?_
  refine lv_iload_n hx hb dX0_cursorNumber_4 rfl (lv_at hl 1 rfl) ?_
  refine zw_ci (va_runS (As := [.int v]) (rest := [.long cur]) ⟨hx, hb, hml, hown, hts⟩ (zc_shiftOf l v) (va_cwS 1 hts gX0_cursorNumber_X0_shiftOf rfl rfl rfl (by decide +kernel) ⟨Nat.le_of_ble_eq_true rfl, Nat.le_of_ble_eq_true rfl⟩) (preEq) rfl rfl hl.1 rfl (lv_room (Nat.le_of_ble_eq_true rfl)) dX0_cursorNumber_5 ⟨Nat.zero_le _, Nat.zero_le _⟩) ?_
  refine lv_lshr (v := cur >>> (Int32.toInt64 (zf_sh v) &&& 63)) hx hb dX0_cursorNumber_8 rfl ?_
  refine lv_l2i (v := Int64.toInt32 (cur >>> (Int32.toInt64 (zf_sh v) &&& 63))) hx hb dX0_cursorNumber_9 rfl ?_
  refine lv_ldc (v := 1048575) hx hb hown (hts (.constant RX0 95 1048575) (by decide +kernel)) dX0_cursorNumber_10 ?_
  refine lv_iand hx hb dX0_cursorNumber_12 ?_
  refine zw_eqi (y := zf_cn cur v) (rfl) ?_
  exact W.iret hx hb hr (fun t ht hW => ⟨rfl, ht⟩) (fun q h => by cases h) dX0_cursorNumber_13
set_option maxHeartbeats 4000000 in
set_option maxRecDepth 100000 in
/-- size() -/
theorem zc_size (l : Launch) (dC : Nat → ClassId) (dI : Nat → Nat → Nat) (h0 ha : Nat) (cA : ClassId) (n : Nat) (f : Nat → Int64) (px py pz : Int32) (ks : List Nat) (cur : Int64) : Met l yX0_size wsX0_size ({ frames := 0, cells := 0, slots := 0, locals := 0 }) (zw_P [.ref h0] (dC, dI) vwCl (zx_w h0 ha cA n f px py pz ks.length cur) [(cA, .long)]) (zw_Q (some (.int (nI ks.length)))) 0 0 (fun _ => False) := by
  refine Met.ofW (cc := cX0_size) (maxL := 1) (ret := (some .int)) (by decide) rfl ?_
  intro p e s m args below meth c s₁ B hml hv
  obtain ⟨rfl, hP, hK⟩ := hv
  have hx := B.exec
  have hb := B.bytes
  have hr := B.returns
  have hts := atoms_spec (ws := wsX0_size) B.pre
  have hown : s.vm.findClass RX0 = some m.cls := findClass_of_methodNamed B.named
  have hl := lv_entry ([.ref h0]) (n := 1) (Nat.le_of_ble_eq_true rfl)
  rw [lg_entry_eq]
  generalize (lg_sl ([.ref h0]) ++ List.replicate (1 - (lg_sl ([.ref h0])).length) Slot.unset).toArray = ls at hl ⊢
  have hl : lv_has ls 1 [(0, .ref h0)] := hl
  have hP : va_P (dC, dI) vwCl (zx_w h0 ha cA n f px py pz ks.length cur) s.heap := hP
  refine lv_aload_n hx hb dX0_size_0 rfl (lv_at hl 0 rfl) ?_
  refine va_get (D := (dC, dI)) (ci := 0) (v := .int (nI ks.length)) (C := RX0) (T := TX0) (N := 6) hx hb hts (by decide +kernel) hown hK hP 0 rfl rfl 4 (by decide) (hts (.fieldLink RX0 33 "PageIndex" "held" "I") (by decide +kernel)) (fun _ h9 => h9) rfl dX0_size_1 ?_
  exact W.iret hx hb hr (fun t ht hW => ⟨rfl, ht⟩) (fun q h => by cases h) dX0_size_4
end
section
set_option maxHeartbeats 4000000 in
set_option maxRecDepth 100000 in
/-- keysBefore(k): how many keys lie before k -/
theorem zc_keysBefore (l : Launch) (dC : Nat → ClassId) (dI : Nat → Nat → Nat) (h0 ha : Nat) (cA : ClassId) (n : Nat) (f : Nat → Int64) (px py pz : Int32) (ks : List Nat) (cur : Int64) (k : Nat) (h60k : k ≤ 1152921504606846976) (hG : zk_G ks n f) : Met l yX0_keysBefore wsX0_keysBefore ({ frames := 0, cells := 0, slots := 0, locals := 0 }) (zw_P [.ref h0, .long (lN k)] (dC, dI) vwCl (zx_w h0 ha cA n f px py pz ks.length cur) [(cA, .long)]) (zw_Q (some (.int (nI (zk_c ks k))))) 0 0 (fun _ => False) := by
  refine Met.ofW (cc := cX0_keysBefore) (maxL := 6) (ret := (some .int)) (by decide) rfl ?_
  intro p e s m args below meth c s₁ B hml hv
  obtain ⟨rfl, hP, hK⟩ := hv
  have hx := B.exec
  have hb := B.bytes
  have hr := B.returns
  have hts := atoms_spec (ws := wsX0_keysBefore) B.pre
  have hown : s.vm.findClass RX0 = some m.cls := findClass_of_methodNamed B.named
  have hl := lv_entry ([.ref h0, .long (lN k)]) (n := 6) (Nat.le_of_ble_eq_true rfl)
  rw [lg_entry_eq]
  generalize (lg_sl ([.ref h0, .long (lN k)]) ++ List.replicate (6 - (lg_sl ([.ref h0, .long (lN k)])).length) Slot.unset).toArray = ls at hl ⊢
  have hl : lv_has ls 6 [(0, .ref h0), (1, .long (lN k))] := hl
  have hP : va_P (dC, dI) vwCl (zx_w h0 ha cA n f px py pz ks.length cur) s.heap := hP
  obtain ⟨hs, h60, hn, hn2, hf⟩ := hG
  have hCl := zk_c_le ks k
  have LOOP : ∀ (i b : Nat), i ≤ 15 → b ≤ zk_c ks k → zk_c ks k < b + 2 ^ i → ∀ ls : Array Slot, lv_has ls 6 [(4, .int (nI (2 ^ i / 2))), (3, .int (nI b)), (0, .ref h0), (1, .long (lN k))] → W p l e (headSpec wsX0_keysBefore ({ frames := 0, cells := 0, slots := 0, locals := 0 })).room s m [.ref h0, .long (lN k)].toArray below meth c s.heap [] 0 0 (MQ below (zw_Q (some (.int (nI (zk_c ks k))))) [.ref h0, .long (lN k)].toArray s 0 0 (fun _ => False)) (F0 m 7 ls []) := by
    intro i
    induction i with
    | zero =>
      intro b hi h1 h2 ls hl
      have eb : b = zk_c ks k := by omega
      subst eb
      refine lv_iload hx hb dX0_keysBefore_7 (lv_at hl 0 rfl) ?_
      refine lv_if_le (tgt := 53) hx hb dX0_keysBefore_9 (by decide) (fun c_9 => ?_) (fun c_9 => absurd (by decide) c_9)
      refine lv_iload_n hx hb dX0_keysBefore_53 rfl (lv_at hl 1 rfl) ?_
      exact W.iret hx hb hr (fun t ht hW => ⟨rfl, ht⟩) (fun q h => by cases h) dX0_keysBefore_54
    | succ i ih =>
      intro b hi h1 h2 ls hl
      have hp1 : 0 < 2 ^ i := Nat.two_pow_pos i
      have hp2 : 2 ^ (i + 1) = 2 * 2 ^ i := by rw [Nat.pow_succ]; omega
      have hp3 : 2 ^ i ≤ 2 ^ 14 := Nat.pow_le_pow_right (by decide) (by omega)
      have hp4 : (2 : Nat) ^ 14 = 16384 := by decide
      rw [hp2] at h2
      refine lv_iload hx hb dX0_keysBefore_7 (lv_at hl 0 rfl) ?_
      refine lv_if_le (tgt := 53) hx hb dX0_keysBefore_9 (by decide) (fun c_9 => absurd c_9 (nI_nle (by omega) (by omega))) (fun c_9 => ?_)
      refine lv_iload_n hx hb dX0_keysBefore_12 rfl (lv_at hl 1 rfl) ?_
      refine lv_iload hx hb dX0_keysBefore_13 (lv_at hl 0 rfl) ?_
      refine lv_iadd hx hb dX0_keysBefore_15 ?_
      refine zw_eqi (y := nI (b + 2 ^ i)) (by rw [show 2 ^ (i + 1) / 2 = 2 ^ i by omega]; exact nI_add _ _) ?_
      refine lv_istore (lv' := [(5, .int (nI (b + 2 ^ i))), (4, .int (nI (2 ^ (i + 1) / 2))), (3, .int (nI b)), (0, .ref h0), (1, .long (lN k))]) hx hb dX0_keysBefore_16 hl (by decide) rfl (fun ls hl => ?_)
      refine lv_iload hx hb dX0_keysBefore_18 (lv_at hl 0 rfl) ?_
      refine lv_aload_n hx hb dX0_keysBefore_20 rfl (lv_at hl 3 rfl) ?_
      refine va_get (D := (dC, dI)) (ci := 0) (v := .int (nI ks.length)) (C := RX0) (T := TX0) (N := 6) hx hb hts (by decide +kernel) hown hK hP 0 rfl rfl 4 (by decide) (hts (.fieldLink RX0 33 "PageIndex" "held" "I") (by decide +kernel)) (fun _ h9 => h9) rfl dX0_keysBefore_21 ?_
      refine lv_icmp_gt (tgt := 44) hx hb dX0_keysBefore_24 (by decide) (fun c_24 => ?_) (fun c_24 => ?_)
      · have h24 : ks.length < b + 2 ^ i := (nI_ltI (by omega) (by omega)).mp c_24
        refine lv_iload hx hb dX0_keysBefore_44 (lv_at hl 1 rfl) ?_
        refine lv_iconst (v := 2) hx hb dX0_keysBefore_46 (by decide) ?_
        refine lv_idiv hx hb dX0_keysBefore_47 (by decide) ?_
        refine zw_eqi (y := nI (2 ^ i / 2)) (by rw [show 2 ^ (i + 1) / 2 = 2 ^ i by omega]; exact pk_div (d := 2) (by omega) (by decide) (by decide)) ?_
        refine lv_istore (lv' := [(4, .int (nI (2 ^ i / 2))), (5, .int (nI (b + 2 ^ i))), (3, .int (nI b)), (0, .ref h0), (1, .long (lN k))]) hx hb dX0_keysBefore_48 hl (by decide) rfl (fun ls hl => ?_)
        refine lv_goto (tgt := 7) hx hb dX0_keysBefore_50 (by decide) ?_
        exact ih b (by omega) (by omega) (by omega) ls (lv_sub hl [0, 2, 3, 4] rfl)
      · have h24 : b + 2 ^ i ≤ ks.length := Nat.le_of_not_lt (fun z => c_24 (nI_lt z (by omega)))
        refine lv_aload_n hx hb dX0_keysBefore_27 rfl (lv_at hl 3 rfl) ?_
        refine va_get (D := (dC, dI)) (ci := 0) (v := .ref ha) (C := RX0) (T := TX0) (N := 6) hx hb hts (by decide +kernel) hown hK hP 0 rfl rfl 3 (by decide) (hts (.fieldLink RX0 29 "PageIndex" "keys" "[J") (by decide +kernel)) (fun _ h9 => h9) rfl dX0_keysBefore_28 ?_
        refine lv_iload hx hb dX0_keysBefore_31 (lv_at hl 0 rfl) ?_
        refine lv_iconst (v := 1) hx hb dX0_keysBefore_33 (by decide) ?_
        refine lv_isub hx hb dX0_keysBefore_34 ?_
        refine zw_eqi (y := nI (b + 2 ^ i - 1)) (pk_sub (a := b + 2 ^ i) (b := 1) (by omega)) ?_
        refine va_lald hx hb hK hP 1 0 rfl rfl (pk_in (b + 2 ^ i - 1) n (by omega) rfl (by omega)) dX0_keysBefore_35 ?_
        refine zw_eql (y := lN (ks.getD (b + 2 ^ i - 1) 0)) (by rw [nI_clamp (by omega)]; exact hf _ (by omega)) ?_
        refine lv_lload_n hx hb dX0_keysBefore_36 rfl (lv_at hl 4 rfl) ?_
        refine W.lcmp hx hb dX0_keysBefore_37 ?_
        have hkey := zk_lt ks k hs (b + 2 ^ i - 1) (by omega)
        have hkb := h60 _ (zk_mem_getD (ks := ks) (j := b + 2 ^ i - 1) (by omega))
        refine lv_if_ge (tgt := 44) hx hb dX0_keysBefore_38 (by decide) (fun c_38 => ?_) (fun c_38 => ?_)
        · have h38 : k ≤ ks.getD (b + 2 ^ i - 1) 0 := (pk_lLE (by omega) (by omega)).mp ((lg_cmp_ge _ _).mp c_38)
          refine lv_iload hx hb dX0_keysBefore_44 (lv_at hl 1 rfl) ?_
          refine lv_iconst (v := 2) hx hb dX0_keysBefore_46 (by decide) ?_
          refine lv_idiv hx hb dX0_keysBefore_47 (by decide) ?_
          refine zw_eqi (y := nI (2 ^ i / 2)) (by rw [show 2 ^ (i + 1) / 2 = 2 ^ i by omega]; exact pk_div (d := 2) (by omega) (by decide) (by decide)) ?_
          refine lv_istore (lv' := [(4, .int (nI (2 ^ i / 2))), (5, .int (nI (b + 2 ^ i))), (3, .int (nI b)), (0, .ref h0), (1, .long (lN k))]) hx hb dX0_keysBefore_48 hl (by decide) rfl (fun ls hl => ?_)
          refine lv_goto (tgt := 7) hx hb dX0_keysBefore_50 (by decide) ?_
          exact ih b (by omega) (by omega) (by omega) ls (lv_sub hl [0, 2, 3, 4] rfl)
        · have h38 : ks.getD (b + 2 ^ i - 1) 0 < k := Nat.lt_of_not_le (fun z => c_38 ((lg_cmp_ge _ _).mpr ((pk_lLE (by omega) (by omega)).mpr z)))
          refine lv_iload hx hb dX0_keysBefore_41 (lv_at hl 0 rfl) ?_
          refine lv_istore_n (lv' := [(3, .int (nI (b + 2 ^ i))), (5, .int (nI (b + 2 ^ i))), (4, .int (nI (2 ^ (i + 1) / 2))), (0, .ref h0), (1, .long (lN k))]) hx hb dX0_keysBefore_43 rfl hl (by decide) rfl (fun ls hl => ?_)
          refine lv_iload hx hb dX0_keysBefore_44 (lv_at hl 2 rfl) ?_
          refine lv_iconst (v := 2) hx hb dX0_keysBefore_46 (by decide) ?_
          refine lv_idiv hx hb dX0_keysBefore_47 (by decide) ?_
          refine zw_eqi (y := nI (2 ^ i / 2)) (by rw [show 2 ^ (i + 1) / 2 = 2 ^ i by omega]; exact pk_div (d := 2) (by omega) (by decide) (by decide)) ?_
          refine lv_istore (lv' := [(4, .int (nI (2 ^ i / 2))), (3, .int (nI (b + 2 ^ i))), (5, .int (nI (b + 2 ^ i))), (0, .ref h0), (1, .long (lN k))]) hx hb dX0_keysBefore_48 hl (by decide) rfl (fun ls hl => ?_)
          refine lv_goto (tgt := 7) hx hb dX0_keysBefore_50 (by decide) ?_
          exact ih ((b + 2 ^ i)) (by omega) (by omega) (by omega) ls (lv_sub hl [0, 1, 3, 4] rfl)
  have hp : (2 : Nat) ^ 15 = 32768 := by decide
  refine lv_iconst (v := 0) hx hb dX0_keysBefore_0 (by decide) ?_
  refine zw_eqi (y := nI 0) (nI_0.symm) ?_
  refine lv_istore_n (lv' := [(3, .int (nI 0)), (0, .ref h0), (1, .long (lN k))]) hx hb dX0_keysBefore_1 rfl hl (by decide) rfl (fun ls hl => ?_)
  refine lv_sipush (v := 16384) hx hb dX0_keysBefore_2 (by decide) ?_
  refine zw_eqi (y := nI (2 ^ 15 / 2)) (by decide) ?_
  refine lv_istore (lv' := [(4, .int (nI (2 ^ 15 / 2))), (3, .int (nI 0)), (0, .ref h0), (1, .long (lN k))]) hx hb dX0_keysBefore_5 hl (by decide) rfl (fun ls hl => ?_)
  exact LOOP 15 0 (by omega) (by omega) (by omega) ls hl
set_option maxHeartbeats 4000000 in
set_option maxRecDepth 100000 in
/-- isKeyAt(C, k) -/
theorem zc_isKeyAt (l : Launch) (dC : Nat → ClassId) (dI : Nat → Nat → Nat) (h0 ha : Nat) (cA : ClassId) (n : Nat) (f : Nat → Int64) (px py pz : Int32) (ks : List Nat) (cur : Int64) (C k : Nat) (hC : C ≤ ks.length) (hk60 : k ≤ 1152921504606846976) (hG : zk_G ks n f) : Met l yX0_isKeyAt wsX0_isKeyAt ({ frames := 0, cells := 0, slots := 0, locals := 0 }) (zw_P [.ref h0, .int (nI C), .long (lN k)] (dC, dI) vwCl (zx_w h0 ha cA n f px py pz ks.length cur) [(cA, .long)]) (zw_Q (some (.int (zb_I (decide (C < ks.length) && decide (ks.getD C 0 = k)))))) 0 0 (fun _ => False) := by
  refine Met.ofW (cc := cX0_isKeyAt) (maxL := 4) (ret := (some .boolean)) (by decide) rfl ?_
  intro p e s m args below meth c s₁ B hml hv
  obtain ⟨rfl, hP, hK⟩ := hv
  have hx := B.exec
  have hb := B.bytes
  have hr := B.returns
  have hts := atoms_spec (ws := wsX0_isKeyAt) B.pre
  have hown : s.vm.findClass RX0 = some m.cls := findClass_of_methodNamed B.named
  have hl := lv_entry ([.ref h0, .int (nI C), .long (lN k)]) (n := 4) (Nat.le_of_ble_eq_true rfl)
  rw [lg_entry_eq]
  generalize (lg_sl ([.ref h0, .int (nI C), .long (lN k)]) ++ List.replicate (4 - (lg_sl ([.ref h0, .int (nI C), .long (lN k)])).length) Slot.unset).toArray = ls at hl ⊢
  have hl : lv_has ls 4 [(0, .ref h0), (1, .int (nI C)), (2, .long (lN k))] := hl
  have hP : va_P (dC, dI) vwCl (zx_w h0 ha cA n f px py pz ks.length cur) s.heap := hP
  obtain ⟨hs, h60, hn, hn2, hf⟩ := hG
  refine lv_iload_n hx hb dX0_isKeyAt_0 rfl (lv_at hl 1 rfl) ?_
  refine lv_if_lt (tgt := 27) hx hb dX0_isKeyAt_1 (by decide) (fun c_1 => absurd c_1 (nI_pos (by omega))) (fun c_1 => ?_)
  refine lv_iload_n hx hb dX0_isKeyAt_4 rfl (lv_at hl 1 rfl) ?_
  refine lv_aload_n hx hb dX0_isKeyAt_5 rfl (lv_at hl 0 rfl) ?_
  refine va_get (D := (dC, dI)) (ci := 0) (v := .int (nI ks.length)) (C := RX0) (T := TX0) (N := 6) hx hb hts (by decide +kernel) hown hK hP 0 rfl rfl 4 (by decide) (hts (.fieldLink RX0 33 "PageIndex" "held" "I") (by decide +kernel)) (fun _ h9 => h9) rfl dX0_isKeyAt_6 ?_
  refine lv_icmp_ge (tgt := 27) hx hb dX0_isKeyAt_9 (by decide) (fun c_9 => ?_) (fun c_9 => ?_)
  · have h9 : ¬ C < ks.length := by have q := (nI_leI (by omega) (by omega)).mp c_9; omega
    refine lv_iconst (v := 0) hx hb dX0_isKeyAt_27 (by decide) ?_
    refine zw_eqi (y := zb_I (decide (C < ks.length) && decide (ks.getD C 0 = k))) (by simp only [h9, decide_true, decide_false, Bool.true_and, Bool.false_and, eq_self]; rfl) ?_
    exact W.zret hx hb hr (zb_nar _) (fun t ht hW => ⟨rfl, ht⟩) (fun q h => by cases h) dX0_isKeyAt_28
  · have h9 : C < ks.length := Nat.lt_of_not_le (fun z => c_9 (nI_le z (by omega)))
    have hkb := h60 _ (zk_mem_getD (ks := ks) (j := C) h9)
    refine lv_aload_n hx hb dX0_isKeyAt_12 rfl (lv_at hl 0 rfl) ?_
    refine va_get (D := (dC, dI)) (ci := 0) (v := .ref ha) (C := RX0) (T := TX0) (N := 6) hx hb hts (by decide +kernel) hown hK hP 0 rfl rfl 3 (by decide) (hts (.fieldLink RX0 29 "PageIndex" "keys" "[J") (by decide +kernel)) (fun _ h9 => h9) rfl dX0_isKeyAt_13 ?_
    refine lv_iload_n hx hb dX0_isKeyAt_16 rfl (lv_at hl 1 rfl) ?_
    refine va_lald hx hb hK hP 1 0 rfl rfl (pk_in C n (by omega) rfl (by omega)) dX0_isKeyAt_17 ?_
    refine zw_eql (y := lN (ks.getD C 0)) (by rw [nI_clamp (by omega)]; exact hf _ h9) ?_
    refine lv_lload_n hx hb dX0_isKeyAt_18 rfl (lv_at hl 2 rfl) ?_
    refine W.lcmp hx hb dX0_isKeyAt_19 ?_
    refine lv_if_ne (tgt := 27) hx hb dX0_isKeyAt_20 (by decide) (fun c_20 => ?_) (fun c_20 => ?_)
    · have h20 : ¬ ks.getD C 0 = k := fun z => c_20 ((lg_cmp_eq _ _).mpr (by rw [z]))
      refine lv_iconst (v := 0) hx hb dX0_isKeyAt_27 (by decide) ?_
      refine zw_eqi (y := zb_I (decide (C < ks.length) && decide (ks.getD C 0 = k))) (by simp only [h9, h20, decide_true, decide_false, Bool.true_and, Bool.false_and, eq_self]; rfl) ?_
      exact W.zret hx hb hr (zb_nar _) (fun t ht hW => ⟨rfl, ht⟩) (fun q h => by cases h) dX0_isKeyAt_28
    · have h20 : ks.getD C 0 = k := (pk_lEQ (by omega) (by omega)).mp ((lg_cmp_eq _ _).mp c_20)
      refine lv_iconst (v := 1) hx hb dX0_isKeyAt_23 (by decide) ?_
      refine lv_goto (tgt := 28) hx hb dX0_isKeyAt_24 (by decide) ?_
      refine zw_eqi (y := zb_I (decide (C < ks.length) && decide (ks.getD C 0 = k))) (by simp only [h9, h20, decide_true, decide_false, Bool.true_and, Bool.false_and, eq_self]; rfl) ?_
      exact W.zret hx hb hr (zb_nar _) (fun t ht hW => ⟨rfl, ht⟩) (fun q h => by cases h) dX0_isKeyAt_28
set_option maxHeartbeats 4000000 in
set_option maxRecDepth 100000 in
/-- isHeld(k) -/
theorem zc_isHeld (l : Launch) (dC : Nat → ClassId) (dI : Nat → Nat → Nat) (h0 ha : Nat) (cA : ClassId) (n : Nat) (f : Nat → Int64) (px py pz : Int32) (ks : List Nat) (cur : Int64) (k : Nat) (hk60 : k ≤ 1152921504606846976) (hG : zk_G ks n f) : Met l yX0_isHeld wsX0_isHeld ({ frames := 1, cells := 0, slots := 0, locals := 25 }) (zw_P [.ref h0, .long (lN k)] (dC, dI) vwCl (zx_w h0 ha cA n f px py pz ks.length cur) [(cA, .long)]) (zw_Q (some (.int (zb_I (decide (k ∈ ks)))))) 0 0 (fun _ => False) := by
  refine Met.ofW (cc := cX0_isHeld) (maxL := 3) (ret := (some .boolean)) (by decide) rfl ?_
  intro p e s m args below meth c s₁ B hml hv
  obtain ⟨rfl, hP, hK⟩ := hv
  have hx := B.exec
  have hb := B.bytes
  have hr := B.returns
  have hts := atoms_spec (ws := wsX0_isHeld) B.pre
  have hown : s.vm.findClass RX0 = some m.cls := findClass_of_methodNamed B.named
  have hl := lv_entry ([.ref h0, .long (lN k)]) (n := 3) (Nat.le_of_ble_eq_true rfl)
  rw [lg_entry_eq]
  generalize (lg_sl ([.ref h0, .long (lN k)]) ++ List.replicate (3 - (lg_sl ([.ref h0, .long (lN k)])).length) Slot.unset).toArray = ls at hl ⊢
  have hl : lv_has ls 3 [(0, .ref h0), (1, .long (lN k))] := hl
  have hP : va_P (dC, dI) vwCl (zx_w h0 ha cA n f px py pz ks.length cur) s.heap := hP
  refine lv_aload_n hx hb dX0_isHeld_0 rfl (lv_at hl 0 rfl) ?_
  refine lv_aload_n hx hb dX0_isHeld_1 rfl (lv_at hl 0 rfl) ?_
  refine lv_lload_n hx hb dX0_isHeld_2 rfl (lv_at hl 1 rfl) ?_
  refine zw_ci (va_runV (As := [.long (lN k)]) (rest := [.ref h0]) ⟨hx, hb, hml, hown, hts⟩ (zc_keysBefore l dC dI h0 ha cA n f px py pz ks cur k (hk60) hG) (cwV 1 hts gX0_isHeld_X0_keysBefore rfl rfl rfl (by decide +kernel) ⟨Nat.le_of_ble_eq_true rfl, Nat.le_of_ble_eq_true rfl⟩) (zw_preV (ci := 0) (q0 := 0) hP hK rfl rfl) rfl rfl hl.1 rfl (lv_room (Nat.le_of_ble_eq_true rfl)) dX0_isHeld_3 ⟨Nat.zero_le _, Nat.zero_le _⟩) ?_
  refine lv_lload_n hx hb dX0_isHeld_6 rfl (lv_at hl 1 rfl) ?_
  refine zw_ci (va_runV (As := [.int (nI (zk_c ks k)), .long (lN k)]) (rest := []) ⟨hx, hb, hml, hown, hts⟩ (zc_isKeyAt l dC dI h0 ha cA n f px py pz ks cur (zk_c ks k) k (zk_c_le ks k) hk60 hG) (cwV 2 hts gX0_isHeld_X0_isKeyAt rfl rfl rfl (by decide +kernel) ⟨Nat.le_of_ble_eq_true rfl, Nat.le_of_ble_eq_true rfl⟩) (zw_preV (ci := 0) (q0 := 0) hP hK rfl rfl) rfl rfl hl.1 rfl (lv_room (Nat.le_of_ble_eq_true rfl)) dX0_isHeld_7 ⟨Nat.zero_le _, Nat.zero_le _⟩) ?_
  refine zw_eqi (y := zb_I (decide (k ∈ ks))) (by rw [zk_mem_b hG.1]) ?_
  exact W.zret hx hb hr (zb_nar _) (fun t ht hW => ⟨rfl, ht⟩) (fun q h => by cases h) dX0_isHeld_10
set_option maxHeartbeats 4000000 in
set_option maxRecDepth 100000 in
/-- beginnings(a, b, sh) -/
theorem zc_beginnings (l : Launch) (dC : Nat → ClassId) (dI : Nat → Nat → Nat) (h0 ha : Nat) (cA : ClassId) (n : Nat) (f : Nat → Int64) (px py pz : Int32) (ks : List Nat) (cur : Int64) (a b : Nat) (sh : Int32) (hab : a ≤ b) (hbn : b ≤ n) (hn2 : n ≤ 1024) : Met l yX0_beginnings wsX0_beginnings ({ frames := 0, cells := 0, slots := 0, locals := 0 }) (zw_P [.ref h0, .int (nI a), .int (nI b), .int sh] (dC, dI) vwCl (zx_w h0 ha cA n f px py pz ks.length cur) [(cA, .long)]) (zw_Q (some (.int (nI (zk_lp f sh (b - a) a (-1)))))) 0 0 (fun _ => False) := by
  refine Met.ofW (cc := cX0_beginnings) (maxL := 10) (ret := (some .int)) (by decide) rfl ?_
  intro p e s m args below meth c s₁ B hml hv
  obtain ⟨rfl, hP, hK⟩ := hv
  have hx := B.exec
  have hb := B.bytes
  have hr := B.returns
  have hts := atoms_spec (ws := wsX0_beginnings) B.pre
  have hown : s.vm.findClass RX0 = some m.cls := findClass_of_methodNamed B.named
  have hl := lv_entry ([.ref h0, .int (nI a), .int (nI b), .int sh]) (n := 10) (Nat.le_of_ble_eq_true rfl)
  rw [lg_entry_eq]
  generalize (lg_sl ([.ref h0, .int (nI a), .int (nI b), .int sh]) ++ List.replicate (10 - (lg_sl ([.ref h0, .int (nI a), .int (nI b), .int sh])).length) Slot.unset).toArray = ls at hl ⊢
  have hl : lv_has ls 10 [(0, .ref h0), (1, .int (nI a)), (2, .int (nI b)), (3, .int sh)] := hl
  have hP : va_P (dC, dI) vwCl (zx_w h0 ha cA n f px py pz ks.length cur) s.heap := hP
  have LOOP : ∀ (r i fd : Nat) (last : Int64), i + r = b → fd + zk_lp f sh r i last = zk_lp f sh (b - a) a (-1) → ∀ ls : Array Slot, lv_has ls 10 [(7, .int (nI i)), (5, .long last), (4, .int (nI fd)), (0, .ref h0), (2, .int (nI b)), (3, .int sh)] → W p l e (headSpec wsX0_beginnings ({ frames := 0, cells := 0, slots := 0, locals := 0 })).room s m [.ref h0, .int (nI a), .int (nI b), .int sh].toArray below meth c s.heap [] 0 0 (MQ below (zw_Q (some (.int (nI (zk_lp f sh (b - a) a (-1)))))) [.ref h0, .int (nI a), .int (nI b), .int sh].toArray s 0 0 (fun _ => False)) (F0 m 11 ls []) := by
    intro r
    induction r with
    | zero =>
      intro i fd last h1 h2 ls hl
      rw [zk_lp] at h2
      refine lv_iload hx hb dX0_beginnings_11 (lv_at hl 0 rfl) ?_
      refine lv_iload_n hx hb dX0_beginnings_13 rfl (lv_at hl 4 rfl) ?_
      refine lv_icmp_ge (tgt := 49) hx hb dX0_beginnings_14 (by decide) (fun c_14 => ?_) (fun c_14 => absurd (nI_le (by omega) (by omega)) c_14)
      refine lv_iload hx hb dX0_beginnings_49 (lv_at hl 2 rfl) ?_
      refine zw_eqi (y := nI (zk_lp f sh (b - a) a (-1))) (by rw [← h2, Nat.add_zero]) ?_
      exact W.iret hx hb hr (fun t ht hW => ⟨rfl, ht⟩) (fun q h => by cases h) dX0_beginnings_51
    | succ r ih =>
      intro i fd last h1 h2 ls hl
      rw [zk_lp] at h2
      refine lv_iload hx hb dX0_beginnings_11 (lv_at hl 0 rfl) ?_
      refine lv_iload_n hx hb dX0_beginnings_13 rfl (lv_at hl 4 rfl) ?_
      refine lv_icmp_ge (tgt := 49) hx hb dX0_beginnings_14 (by decide) (fun c_14 => absurd c_14 (nI_ge (by omega) (by omega))) (fun c_14 => ?_)
      refine lv_aload_n hx hb dX0_beginnings_17 rfl (lv_at hl 3 rfl) ?_
      refine va_get (D := (dC, dI)) (ci := 0) (v := .ref ha) (C := RX0) (T := TX0) (N := 6) hx hb hts (by decide +kernel) hown hK hP 0 rfl rfl 3 (by decide) (hts (.fieldLink RX0 29 "PageIndex" "keys" "[J") (by decide +kernel)) (fun _ h9 => h9) rfl dX0_beginnings_18 ?_
      refine lv_iload hx hb dX0_beginnings_21 (lv_at hl 0 rfl) ?_
      refine va_lald hx hb hK hP 1 0 rfl rfl (pk_in i n (by omega) rfl (by omega)) dX0_beginnings_23 ?_
      refine zw_eql (y := f i) (by rw [nI_clamp (by omega)]) ?_
      refine lv_iload_n hx hb dX0_beginnings_24 rfl (lv_at hl 5 rfl) ?_
      refine lv_lshr (v := (f i) >>> (Int32.toInt64 sh &&& 63)) hx hb dX0_beginnings_25 rfl ?_
      refine lv_lstore (lv' := [(8, .long ((f i) >>> (Int32.toInt64 sh &&& 63))), (7, .int (nI i)), (5, .long last), (4, .int (nI fd)), (0, .ref h0), (2, .int (nI b)), (3, .int sh)]) hx hb dX0_beginnings_26 hl (by decide) rfl (fun ls hl => ?_)
      refine lv_lload hx hb dX0_beginnings_28 (lv_at hl 0 rfl) ?_
      refine lv_lload hx hb dX0_beginnings_30 (lv_at hl 2 rfl) ?_
      refine W.lcmp hx hb dX0_beginnings_32 ?_
      refine lv_if_eq (tgt := 43) hx hb dX0_beginnings_33 (by decide) (fun c_33 => ?_) (fun c_33 => ?_)
      · have e33 := (lg_cmp_eq _ _).mp c_33
        rw [if_pos e33, e33] at h2
        refine lv_iinc (v := nI (i + 1)) (lv' := [(7, .int (nI (i + 1))), (8, .long ((f i) >>> (Int32.toInt64 sh &&& 63))), (5, .long last), (4, .int (nI fd)), (0, .ref h0), (2, .int (nI b)), (3, .int sh)]) hx hb dX0_beginnings_43 hl (k := 1) rfl (nI_1 _) (by decide) rfl (fun ls hl => ?_)
        refine lv_goto (tgt := 11) hx hb dX0_beginnings_46 (by decide) ?_
        exact ih (i + 1) fd last (by omega) (by omega) ls (lv_sub hl [0, 2, 3, 4, 5, 6] rfl)
      · rw [if_neg (fun z => c_33 ((lg_cmp_eq _ _).mpr z))] at h2
        refine lv_iinc (v := nI (fd + 1)) (lv' := [(4, .int (nI (fd + 1))), (8, .long ((f i) >>> (Int32.toInt64 sh &&& 63))), (7, .int (nI i)), (5, .long last), (0, .ref h0), (2, .int (nI b)), (3, .int sh)]) hx hb dX0_beginnings_36 hl (k := 3) rfl (nI_1 _) (by decide) rfl (fun ls hl => ?_)
        refine lv_lload hx hb dX0_beginnings_39 (lv_at hl 1 rfl) ?_
        refine lv_lstore (lv' := [(5, .long ((f i) >>> (Int32.toInt64 sh &&& 63))), (4, .int (nI (fd + 1))), (8, .long ((f i) >>> (Int32.toInt64 sh &&& 63))), (7, .int (nI i)), (0, .ref h0), (2, .int (nI b)), (3, .int sh)]) hx hb dX0_beginnings_41 hl (by decide) rfl (fun ls hl => ?_)
        refine lv_iinc (v := nI (i + 1)) (lv' := [(7, .int (nI (i + 1))), (5, .long ((f i) >>> (Int32.toInt64 sh &&& 63))), (4, .int (nI (fd + 1))), (8, .long ((f i) >>> (Int32.toInt64 sh &&& 63))), (0, .ref h0), (2, .int (nI b)), (3, .int sh)]) hx hb dX0_beginnings_43 hl (k := 3) rfl (nI_1 _) (by decide) rfl (fun ls hl => ?_)
        refine lv_goto (tgt := 11) hx hb dX0_beginnings_46 (by decide) ?_
        exact ih (i + 1) ((fd + 1)) ((f i) >>> (Int32.toInt64 sh &&& 63)) (by omega) (by omega) ls (lv_sub hl [0, 1, 2, 4, 5, 6] rfl)
  refine lv_iconst (v := 0) hx hb dX0_beginnings_0 (by decide) ?_
  refine zw_eqi (y := nI 0) (nI_0.symm) ?_
  refine lv_istore (lv' := [(4, .int (nI 0)), (0, .ref h0), (1, .int (nI a)), (2, .int (nI b)), (3, .int sh)]) hx hb dX0_beginnings_1 hl (by decide) rfl (fun ls hl => ?_)
  refine lv_ldc2 (v := (-1)) hx hb hown (hts (.constantLong RX0 36 (-1)) (by decide +kernel)) dX0_beginnings_3 ?_
  refine lv_lstore (lv' := [(5, .long (-1)), (4, .int (nI 0)), (0, .ref h0), (1, .int (nI a)), (2, .int (nI b)), (3, .int sh)]) hx hb dX0_beginnings_6 hl (by decide) rfl (fun ls hl => ?_)
  refine lv_iload_n hx hb dX0_beginnings_8 rfl (lv_at hl 3 rfl) ?_
  refine lv_istore (lv' := [(7, .int (nI a)), (5, .long (-1)), (4, .int (nI 0)), (0, .ref h0), (1, .int (nI a)), (2, .int (nI b)), (3, .int sh)]) hx hb dX0_beginnings_9 hl (by decide) rfl (fun ls hl => ?_)
  exact LOOP (b - a) a 0 (-1) (by omega) (by omega) ls (lv_sub hl [0, 1, 2, 3, 5, 6] rfl)
end
section
set_option maxHeartbeats 4000000 in
set_option maxRecDepth 100000 in
/-- startOf -/
theorem zc_startOf (l : Launch) (dC : Nat → ClassId) (dI : Nat → Nat → Nat) (h0 ha : Nat) (cA : ClassId) (n : Nat) (f : Nat → Int64) (px py pz : Int32) (ks : List Nat) (cur : Int64) (v : Int32) (a : Int32) (b : Int32) (d : Int32) (i : Nat) (hi : i ≤ 3) (ev : v = nI i) (hG : zk_G ks n f) : Met l yX0_startOf wsX0_startOf ({ frames := 3, cells := 0, slots := 0, locals := 65 }) (zw_P [.ref h0, .int v, .int a, .int b, .int d] (dC, dI) vwCl (zx_w h0 ha cA n f px py pz ks.length cur) [(cA, .long)]) (zw_Q (some (.int (nI (zk_st ks v a b d))))) 0 0 (fun _ => False) := by
  refine Met.ofW (cc := cX0_startOf) (maxL := 5) (ret := (some .int)) (by decide) rfl ?_
  intro p e s m args below meth c s₁ B hml hv
  obtain ⟨rfl, hP, hK⟩ := hv
  have hx := B.exec
  have hb := B.bytes
  have hr := B.returns
  have hts := atoms_spec (ws := wsX0_startOf) B.pre
  have hown : s.vm.findClass RX0 = some m.cls := findClass_of_methodNamed B.named
  have hl := lv_entry ([.ref h0, .int v, .int a, .int b, .int d]) (n := 5) (Nat.le_of_ble_eq_true rfl)
  rw [lg_entry_eq]
  generalize (lg_sl ([.ref h0, .int v, .int a, .int b, .int d]) ++ List.replicate (5 - (lg_sl ([.ref h0, .int v, .int a, .int b, .int d])).length) Slot.unset).toArray = ls at hl ⊢
  have hl : lv_has ls 5 [(0, .ref h0), (1, .int v), (2, .int a), (3, .int b), (4, .int d)] := hl
  have hP : va_P (dC, dI) vwCl (zx_w h0 ha cA n f px py pz ks.length cur) s.heap := hP
  refine lv_iload_n hx hb dX0_startOf_0 rfl (lv_at hl 1 rfl) ?_
  refine lv_iload_n hx hb dX0_startOf_1 rfl (lv_at hl 2 rfl) ?_
  refine lv_iload_n hx hb dX0_startOf_2 rfl (lv_at hl 3 rfl) ?_
  refine lv_iload hx hb dX0_startOf_3 (lv_at hl 4 rfl) ?_
  refine zw_ci (va_runS (As := [.int v, .int a, .int b, .int d]) (rest := []) ⟨hx, hb, hml, hown, hts⟩ (zc_areFirstNumbers l v a b d) (va_cwS 4 hts gX0_startOf_X0_areFirstNumbers rfl rfl rfl (by decide +kernel) ⟨Nat.le_of_ble_eq_true rfl, Nat.le_of_ble_eq_true rfl⟩) (preEq) rfl rfl hl.1 rfl (lv_room (Nat.le_of_ble_eq_true rfl)) dX0_startOf_5 ⟨Nat.zero_le _, Nat.zero_le _⟩) ?_
  refine zw_ifeq (tgt := 26) hx hb dX0_startOf_8 (by decide) (fun c_8 => ?_) (fun c_8 => ?_)
  · refine lv_iconst (v := 0) hx hb dX0_startOf_26 (by decide) ?_
    refine zw_eqi (y := nI (zk_st ks v a b d)) (by simp [zk_st, c_8, nI_0]) ?_
    exact W.iret hx hb hr (fun t ht hW => ⟨rfl, ht⟩) (fun q h => by cases h) dX0_startOf_27
  · refine lv_aload_n hx hb dX0_startOf_11 rfl (lv_at hl 0 rfl) ?_
    refine lv_iload_n hx hb dX0_startOf_12 rfl (lv_at hl 1 rfl) ?_
    refine lv_iload_n hx hb dX0_startOf_13 rfl (lv_at hl 2 rfl) ?_
    refine lv_iload_n hx hb dX0_startOf_14 rfl (lv_at hl 3 rfl) ?_
    refine lv_iload hx hb dX0_startOf_15 (lv_at hl 4 rfl) ?_
    refine zw_cl (va_runS (As := [.int v, .int a, .int b, .int d]) (rest := [.ref h0]) ⟨hx, hb, hml, hown, hts⟩ (zc_firstKey l v a b d) (va_cwS 4 hts gX0_startOf_X0_firstKey rfl rfl rfl (by decide +kernel) ⟨Nat.le_of_ble_eq_true rfl, Nat.le_of_ble_eq_true rfl⟩) (preEq) rfl rfl hl.1 rfl (lv_room (Nat.le_of_ble_eq_true rfl)) dX0_startOf_17 ⟨Nat.zero_le _, Nat.zero_le _⟩) ?_
    have hN := zk_first_N hi ev c_8
    refine zw_eql (y := lN (Int.toNat (Int64.toInt (zf_first v a b d)))) hN.1 ?_
    refine zw_ci (va_runV (As := [.long (lN (Int.toNat (Int64.toInt (zf_first v a b d))))]) (rest := []) ⟨hx, hb, hml, hown, hts⟩ (zc_keysBefore l dC dI h0 ha cA n f px py pz ks cur (Int.toNat (Int64.toInt (zf_first v a b d))) (hN.2) hG) (cwV 1 hts gX0_startOf_X0_keysBefore rfl rfl rfl (by decide +kernel) ⟨Nat.le_of_ble_eq_true rfl, Nat.le_of_ble_eq_true rfl⟩) (zw_preV (ci := 0) (q0 := 0) hP hK rfl rfl) rfl rfl hl.1 rfl (lv_room (Nat.le_of_ble_eq_true rfl)) dX0_startOf_20 ⟨Nat.zero_le _, Nat.zero_le _⟩) ?_
    refine lv_goto (tgt := 27) hx hb dX0_startOf_23 (by decide) ?_
    refine zw_eqi (y := nI (zk_st ks v a b d)) (by simp [zk_st, c_8]) ?_
    exact W.iret hx hb hr (fun t ht hW => ⟨rfl, ht⟩) (fun q h => by cases h) dX0_startOf_27
set_option maxHeartbeats 4000000 in
set_option maxRecDepth 100000 in
/-- endOf -/
theorem zc_endOf (l : Launch) (dC : Nat → ClassId) (dI : Nat → Nat → Nat) (h0 ha : Nat) (cA : ClassId) (n : Nat) (f : Nat → Int64) (px py pz : Int32) (ks : List Nat) (cur : Int64) (v : Int32) (a : Int32) (b : Int32) (d : Int32) (i : Nat) (hi : i ≤ 3) (ev : v = nI i) (hG : zk_G ks n f) : Met l yX0_endOf wsX0_endOf ({ frames := 3, cells := 0, slots := 0, locals := 65 }) (zw_P [.ref h0, .int v, .int a, .int b, .int d] (dC, dI) vwCl (zx_w h0 ha cA n f px py pz ks.length cur) [(cA, .long)]) (zw_Q (some (.int (nI (zk_en ks v a b d))))) 0 0 (fun _ => False) := by
  refine Met.ofW (cc := cX0_endOf) (maxL := 5) (ret := (some .int)) (by decide) rfl ?_
  intro p e s m args below meth c s₁ B hml hv
  obtain ⟨rfl, hP, hK⟩ := hv
  have hx := B.exec
  have hb := B.bytes
  have hr := B.returns
  have hts := atoms_spec (ws := wsX0_endOf) B.pre
  have hown : s.vm.findClass RX0 = some m.cls := findClass_of_methodNamed B.named
  have hl := lv_entry ([.ref h0, .int v, .int a, .int b, .int d]) (n := 5) (Nat.le_of_ble_eq_true rfl)
  rw [lg_entry_eq]
  generalize (lg_sl ([.ref h0, .int v, .int a, .int b, .int d]) ++ List.replicate (5 - (lg_sl ([.ref h0, .int v, .int a, .int b, .int d])).length) Slot.unset).toArray = ls at hl ⊢
  have hl : lv_has ls 5 [(0, .ref h0), (1, .int v), (2, .int a), (3, .int b), (4, .int d)] := hl
  have hP : va_P (dC, dI) vwCl (zx_w h0 ha cA n f px py pz ks.length cur) s.heap := hP
  refine lv_iload_n hx hb dX0_endOf_0 rfl (lv_at hl 1 rfl) ?_
  refine lv_iload_n hx hb dX0_endOf_1 rfl (lv_at hl 2 rfl) ?_
  refine lv_iload_n hx hb dX0_endOf_2 rfl (lv_at hl 3 rfl) ?_
  refine lv_iload hx hb dX0_endOf_3 (lv_at hl 4 rfl) ?_
  refine zw_ci (va_runS (As := [.int v, .int a, .int b, .int d]) (rest := []) ⟨hx, hb, hml, hown, hts⟩ (zc_areFirstNumbers l v a b d) (va_cwS 4 hts gX0_endOf_X0_areFirstNumbers rfl rfl rfl (by decide +kernel) ⟨Nat.le_of_ble_eq_true rfl, Nat.le_of_ble_eq_true rfl⟩) (preEq) rfl rfl hl.1 rfl (lv_room (Nat.le_of_ble_eq_true rfl)) dX0_endOf_5 ⟨Nat.zero_le _, Nat.zero_le _⟩) ?_
  refine zw_ifeq (tgt := 31) hx hb dX0_endOf_8 (by decide) (fun c_8 => ?_) (fun c_8 => ?_)
  · refine lv_iconst (v := 0) hx hb dX0_endOf_31 (by decide) ?_
    refine zw_eqi (y := nI (zk_en ks v a b d)) (by simp [zk_en, c_8, nI_0]) ?_
    exact W.iret hx hb hr (fun t ht hW => ⟨rfl, ht⟩) (fun q h => by cases h) dX0_endOf_32
  · refine lv_aload_n hx hb dX0_endOf_11 rfl (lv_at hl 0 rfl) ?_
    refine lv_iload_n hx hb dX0_endOf_12 rfl (lv_at hl 1 rfl) ?_
    refine lv_iload_n hx hb dX0_endOf_13 rfl (lv_at hl 2 rfl) ?_
    refine lv_iload_n hx hb dX0_endOf_14 rfl (lv_at hl 3 rfl) ?_
    refine lv_iload hx hb dX0_endOf_15 (lv_at hl 4 rfl) ?_
    refine zw_cl (va_runS (As := [.int v, .int a, .int b, .int d]) (rest := [.ref h0]) ⟨hx, hb, hml, hown, hts⟩ (zc_firstKey l v a b d) (va_cwS 4 hts gX0_endOf_X0_firstKey rfl rfl rfl (by decide +kernel) ⟨Nat.le_of_ble_eq_true rfl, Nat.le_of_ble_eq_true rfl⟩) (preEq) rfl rfl hl.1 rfl (lv_room (Nat.le_of_ble_eq_true rfl)) dX0_endOf_17 ⟨Nat.zero_le _, Nat.zero_le _⟩) ?_
    refine lv_iload_n hx hb dX0_endOf_20 rfl (lv_at hl 1 rfl) ?_
    refine zw_cl (va_runS (As := [.int v]) (rest := [.long (zf_first v a b d), .ref h0]) ⟨hx, hb, hml, hown, hts⟩ (zc_keysInAll l v) (va_cwS 1 hts gX0_endOf_X0_keysInAll rfl rfl rfl (by decide +kernel) ⟨Nat.le_of_ble_eq_true rfl, Nat.le_of_ble_eq_true rfl⟩) (preEq) rfl rfl hl.1 rfl (lv_room (Nat.le_of_ble_eq_true rfl)) dX0_endOf_21 ⟨Nat.zero_le _, Nat.zero_le _⟩) ?_
    refine lv_ladd hx hb dX0_endOf_24 ?_
    have hN := zk_past_N hi ev c_8
    refine zw_eql (y := lN (Int.toNat (Int64.toInt (zf_first v a b d + zf_all v)))) hN.1 ?_
    refine zw_ci (va_runV (As := [.long (lN (Int.toNat (Int64.toInt (zf_first v a b d + zf_all v))))]) (rest := []) ⟨hx, hb, hml, hown, hts⟩ (zc_keysBefore l dC dI h0 ha cA n f px py pz ks cur (Int.toNat (Int64.toInt (zf_first v a b d + zf_all v))) (hN.2) hG) (cwV 1 hts gX0_endOf_X0_keysBefore rfl rfl rfl (by decide +kernel) ⟨Nat.le_of_ble_eq_true rfl, Nat.le_of_ble_eq_true rfl⟩) (zw_preV (ci := 0) (q0 := 0) hP hK rfl rfl) rfl rfl hl.1 rfl (lv_room (Nat.le_of_ble_eq_true rfl)) dX0_endOf_25 ⟨Nat.zero_le _, Nat.zero_le _⟩) ?_
    refine lv_goto (tgt := 32) hx hb dX0_endOf_28 (by decide) ?_
    refine zw_eqi (y := nI (zk_en ks v a b d)) (by simp [zk_en, c_8]) ?_
    exact W.iret hx hb hr (fun t ht hW => ⟨rfl, ht⟩) (fun q h => by cases h) dX0_endOf_32
set_option maxHeartbeats 4000000 in
set_option maxRecDepth 100000 in
/-- has(x, y, z) -/
theorem zc_has (l : Launch) (dC : Nat → ClassId) (dI : Nat → Nat → Nat) (h0 ha : Nat) (cA : ClassId) (n : Nat) (f : Nat → Int64) (px py pz : Int32) (ks : List Nat) (cur : Int64) (x : Int32) (y : Int32) (z : Int32) (k : Nat) (hk : zf_nn x y z = true → zf_kt px py pz x y z = lN k ∧ k < 1152921504606846976) (hG : zk_G ks n f) : Met l yX0_has wsX0_has ({ frames := 2, cells := 0, slots := 0, locals := 47 }) (zw_P [.ref h0, .int x, .int y, .int z] (dC, dI) vwCl (zx_w h0 ha cA n f px py pz ks.length cur) [(cA, .long)]) (zw_Q (some (.int (if zf_nn x y z then zb_I (decide (k ∈ ks)) else -1)))) 0 0 (fun _ => False) := by
  refine Met.ofW (cc := cX0_has) (maxL := 4) (ret := (some .int)) (by decide) rfl ?_
  intro p e s m args below meth c s₁ B hml hv
  obtain ⟨rfl, hP, hK⟩ := hv
  have hx := B.exec
  have hb := B.bytes
  have hr := B.returns
  have hts := atoms_spec (ws := wsX0_has) B.pre
  have hown : s.vm.findClass RX0 = some m.cls := findClass_of_methodNamed B.named
  have hl := lv_entry ([.ref h0, .int x, .int y, .int z]) (n := 4) (Nat.le_of_ble_eq_true rfl)
  rw [lg_entry_eq]
  generalize (lg_sl ([.ref h0, .int x, .int y, .int z]) ++ List.replicate (4 - (lg_sl ([.ref h0, .int x, .int y, .int z])).length) Slot.unset).toArray = ls at hl ⊢
  have hl : lv_has ls 4 [(0, .ref h0), (1, .int x), (2, .int y), (3, .int z)] := hl
  have hP : va_P (dC, dI) vwCl (zx_w h0 ha cA n f px py pz ks.length cur) s.heap := hP
  refine lv_iload_n hx hb dX0_has_0 rfl (lv_at hl 1 rfl) ?_
  refine lv_iload_n hx hb dX0_has_1 rfl (lv_at hl 2 rfl) ?_
  refine lv_iload_n hx hb dX0_has_2 rfl (lv_at hl 3 rfl) ?_
  refine zw_ci (va_runS (As := [.int x, .int y, .int z]) (rest := []) ⟨hx, hb, hml, hown, hts⟩ (zc_areNumbers l x y z) (va_cwS 3 hts gX0_has_X0_areNumbers rfl rfl rfl (by decide +kernel) ⟨Nat.le_of_ble_eq_true rfl, Nat.le_of_ble_eq_true rfl⟩) (preEq) rfl rfl hl.1 rfl (lv_room (Nat.le_of_ble_eq_true rfl)) dX0_has_3 ⟨Nat.zero_le _, Nat.zero_le _⟩) ?_
  refine zw_ifne (tgt := 11) hx hb dX0_has_6 (by decide) (fun c_6 => ?_) (fun c_6 => ?_)
  · refine lv_aload_n hx hb dX0_has_11 rfl (lv_at hl 0 rfl) ?_
    refine lv_aload_n hx hb dX0_has_12 rfl (lv_at hl 0 rfl) ?_
    refine lv_iload_n hx hb dX0_has_13 rfl (lv_at hl 1 rfl) ?_
    refine lv_iload_n hx hb dX0_has_14 rfl (lv_at hl 2 rfl) ?_
    refine lv_iload_n hx hb dX0_has_15 rfl (lv_at hl 3 rfl) ?_
    refine zw_cl (va_runV (As := [.int x, .int y, .int z]) (rest := [.ref h0]) ⟨hx, hb, hml, hown, hts⟩ (zc_keyOfTriple l dC dI h0 ha cA n f px py pz ks cur x y z) (cwV 3 hts gX0_has_X0_keyOfTriple rfl rfl rfl (by decide +kernel) ⟨Nat.le_of_ble_eq_true rfl, Nat.le_of_ble_eq_true rfl⟩) (zw_preV (ci := 0) (q0 := 0) hP hK rfl rfl) rfl rfl hl.1 rfl (lv_room (Nat.le_of_ble_eq_true rfl)) dX0_has_16 ⟨Nat.zero_le _, Nat.zero_le _⟩) ?_
    refine zw_eql (y := lN k) (hk c_6).1 ?_
    refine zw_ci (va_runV (As := [.long (lN k)]) (rest := []) ⟨hx, hb, hml, hown, hts⟩ (zc_isHeld l dC dI h0 ha cA n f px py pz ks cur k (Nat.le_of_lt (hk c_6).2) hG) (cwV 1 hts gX0_has_X0_isHeld rfl rfl rfl (by decide +kernel) ⟨Nat.le_of_ble_eq_true rfl, Nat.le_of_ble_eq_true rfl⟩) (zw_preV (ci := 0) (q0 := 0) hP hK rfl rfl) rfl rfl hl.1 rfl (lv_room (Nat.le_of_ble_eq_true rfl)) dX0_has_19 ⟨Nat.zero_le _, Nat.zero_le _⟩) ?_
    refine zw_ifeq (tgt := 29) hx hb dX0_has_22 (by decide) (fun c_22 => ?_) (fun c_22 => ?_)
    · refine lv_iconst (v := 0) hx hb dX0_has_29 (by decide) ?_
      refine zw_eqi (y := if zf_nn x y z then zb_I (decide (k ∈ ks)) else -1) (by simp [zb_I, c_6, c_22]) ?_
      exact W.iret hx hb hr (fun t ht hW => ⟨rfl, ht⟩) (fun q h => by cases h) dX0_has_30
    · refine lv_iconst (v := 1) hx hb dX0_has_25 (by decide) ?_
      refine lv_goto (tgt := 30) hx hb dX0_has_26 (by decide) ?_
      refine zw_eqi (y := if zf_nn x y z then zb_I (decide (k ∈ ks)) else -1) (by simp [zb_I, c_6, c_22]) ?_
      exact W.iret hx hb hr (fun t ht hW => ⟨rfl, ht⟩) (fun q h => by cases h) dX0_has_30
  · refine lv_iconst (v := (-1)) hx hb dX0_has_9 (by decide) ?_
    refine zw_eqi (y := if zf_nn x y z then zb_I (decide (k ∈ ks)) else -1) (by simp [zb_I, c_6]) ?_
    exact W.iret hx hb hr (fun t ht hW => ⟨rfl, ht⟩) (fun q h => by cases h) dX0_has_10
set_option maxHeartbeats 4000000 in
set_option maxRecDepth 100000 in
/-- rank(a, b, d) -/
theorem zc_rank (l : Launch) (dC : Nat → ClassId) (dI : Nat → Nat → Nat) (h0 ha : Nat) (cA : ClassId) (n : Nat) (f : Nat → Int64) (px py pz : Int32) (ks : List Nat) (cur : Int64) (a : Int32) (b : Int32) (d : Int32) (k : Nat) (hk : zf_nn a b d = true → zf_key a b d = lN k ∧ k < 1152921504606846976) (hG : zk_G ks n f) : Met l yX0_rank wsX0_rank ({ frames := 2, cells := 0, slots := 0, locals := 42 }) (zw_P [.ref h0, .int a, .int b, .int d] (dC, dI) vwCl (zx_w h0 ha cA n f px py pz ks.length cur) [(cA, .long)]) (zw_Q (some (.int (if zf_nn a b d then nI (zk_c ks k) else -1)))) 0 0 (fun _ => False) := by
  refine Met.ofW (cc := cX0_rank) (maxL := 4) (ret := (some .int)) (by decide) rfl ?_
  intro p e s m args below meth c s₁ B hml hv
  obtain ⟨rfl, hP, hK⟩ := hv
  have hx := B.exec
  have hb := B.bytes
  have hr := B.returns
  have hts := atoms_spec (ws := wsX0_rank) B.pre
  have hown : s.vm.findClass RX0 = some m.cls := findClass_of_methodNamed B.named
  have hl := lv_entry ([.ref h0, .int a, .int b, .int d]) (n := 4) (Nat.le_of_ble_eq_true rfl)
  rw [lg_entry_eq]
  generalize (lg_sl ([.ref h0, .int a, .int b, .int d]) ++ List.replicate (4 - (lg_sl ([.ref h0, .int a, .int b, .int d])).length) Slot.unset).toArray = ls at hl ⊢
  have hl : lv_has ls 4 [(0, .ref h0), (1, .int a), (2, .int b), (3, .int d)] := hl
  have hP : va_P (dC, dI) vwCl (zx_w h0 ha cA n f px py pz ks.length cur) s.heap := hP
  refine lv_iload_n hx hb dX0_rank_0 rfl (lv_at hl 1 rfl) ?_
  refine lv_iload_n hx hb dX0_rank_1 rfl (lv_at hl 2 rfl) ?_
  refine lv_iload_n hx hb dX0_rank_2 rfl (lv_at hl 3 rfl) ?_
  refine zw_ci (va_runS (As := [.int a, .int b, .int d]) (rest := []) ⟨hx, hb, hml, hown, hts⟩ (zc_areNumbers l a b d) (va_cwS 3 hts gX0_rank_X0_areNumbers rfl rfl rfl (by decide +kernel) ⟨Nat.le_of_ble_eq_true rfl, Nat.le_of_ble_eq_true rfl⟩) (preEq) rfl rfl hl.1 rfl (lv_room (Nat.le_of_ble_eq_true rfl)) dX0_rank_3 ⟨Nat.zero_le _, Nat.zero_le _⟩) ?_
  refine zw_ifne (tgt := 11) hx hb dX0_rank_6 (by decide) (fun c_6 => ?_) (fun c_6 => ?_)
  · refine lv_aload_n hx hb dX0_rank_11 rfl (lv_at hl 0 rfl) ?_
    refine lv_iload_n hx hb dX0_rank_12 rfl (lv_at hl 1 rfl) ?_
    refine lv_iload_n hx hb dX0_rank_13 rfl (lv_at hl 2 rfl) ?_
    refine lv_iload_n hx hb dX0_rank_14 rfl (lv_at hl 3 rfl) ?_
    refine zw_cl (va_runS (As := [.int a, .int b, .int d]) (rest := [.ref h0]) ⟨hx, hb, hml, hown, hts⟩ (zc_keyOf l a b d) (va_cwS 3 hts gX0_rank_X0_keyOf rfl rfl rfl (by decide +kernel) ⟨Nat.le_of_ble_eq_true rfl, Nat.le_of_ble_eq_true rfl⟩) (preEq) rfl rfl hl.1 rfl (lv_room (Nat.le_of_ble_eq_true rfl)) dX0_rank_15 ⟨Nat.zero_le _, Nat.zero_le _⟩) ?_
    refine zw_eql (y := lN k) (hk c_6).1 ?_
    refine zw_ci (va_runV (As := [.long (lN k)]) (rest := []) ⟨hx, hb, hml, hown, hts⟩ (zc_keysBefore l dC dI h0 ha cA n f px py pz ks cur k (Nat.le_of_lt (hk c_6).2) hG) (cwV 1 hts gX0_rank_X0_keysBefore rfl rfl rfl (by decide +kernel) ⟨Nat.le_of_ble_eq_true rfl, Nat.le_of_ble_eq_true rfl⟩) (zw_preV (ci := 0) (q0 := 0) hP hK rfl rfl) rfl rfl hl.1 rfl (lv_room (Nat.le_of_ble_eq_true rfl)) dX0_rank_18 ⟨Nat.zero_le _, Nat.zero_le _⟩) ?_
    refine zw_eqi (y := if zf_nn a b d then nI (zk_c ks k) else -1) (by simp [c_6]) ?_
    exact W.iret hx hb hr (fun t ht hW => ⟨rfl, ht⟩) (fun q h => by cases h) dX0_rank_21
  · refine lv_iconst (v := (-1)) hx hb dX0_rank_9 (by decide) ?_
    refine zw_eqi (y := if zf_nn a b d then nI (zk_c ks k) else -1) (by simp [c_6]) ?_
    exact W.iret hx hb hr (fun t ht hW => ⟨rfl, ht⟩) (fun q h => by cases h) dX0_rank_10
set_option maxHeartbeats 4000000 in
set_option maxRecDepth 100000 in
/-- count(v, a, b, d) -/
theorem zc_count (l : Launch) (dC : Nat → ClassId) (dI : Nat → Nat → Nat) (h0 ha : Nat) (cA : ClassId) (n : Nat) (f : Nat → Int64) (px py pz : Int32) (ks : List Nat) (cur : Int64) (v : Int32) (a : Int32) (b : Int32) (d : Int32) (hG : zk_G ks n f) : Met l yX0_count wsX0_count ({ frames := 4, cells := 0, slots := 0, locals := 89 }) (zw_P [.ref h0, .int v, .int a, .int b, .int d] (dC, dI) vwCl (zx_w h0 ha cA n f px py pz ks.length cur) [(cA, .long)]) (zw_Q (some (.int (zs_count ks v a b d)))) 0 0 (fun _ => False) := by
  refine Met.ofW (cc := cX0_count) (maxL := 5) (ret := (some .int)) (by decide) rfl ?_
  intro p e s m args below meth c s₁ B hml hv
  obtain ⟨rfl, hP, hK⟩ := hv
  have hx := B.exec
  have hb := B.bytes
  have hr := B.returns
  have hts := atoms_spec (ws := wsX0_count) B.pre
  have hown : s.vm.findClass RX0 = some m.cls := findClass_of_methodNamed B.named
  have hl := lv_entry ([.ref h0, .int v, .int a, .int b, .int d]) (n := 5) (Nat.le_of_ble_eq_true rfl)
  rw [lg_entry_eq]
  generalize (lg_sl ([.ref h0, .int v, .int a, .int b, .int d]) ++ List.replicate (5 - (lg_sl ([.ref h0, .int v, .int a, .int b, .int d])).length) Slot.unset).toArray = ls at hl ⊢
  have hl : lv_has ls 5 [(0, .ref h0), (1, .int v), (2, .int a), (3, .int b), (4, .int d)] := hl
  have hP : va_P (dC, dI) vwCl (zx_w h0 ha cA n f px py pz ks.length cur) s.heap := hP
  refine lv_iload_n hx hb dX0_count_0 rfl (lv_at hl 1 rfl) ?_
  refine lv_if_lt (tgt := 9) hx hb dX0_count_1 (by decide) (fun c_1 => ?_) (fun c_1 => ?_)
  · refine lv_iconst (v := (-1)) hx hb dX0_count_9 (by decide) ?_
    refine zw_eqi (y := zs_count ks v a b d) (zs_count_bad (Or.inl c_1)) ?_
    exact W.iret hx hb hr (fun t ht hW => ⟨rfl, ht⟩) (fun q h => by cases h) dX0_count_10
  · refine lv_iload_n hx hb dX0_count_4 rfl (lv_at hl 1 rfl) ?_
    refine lv_iconst (v := 3) hx hb dX0_count_5 (by decide) ?_
    refine lv_icmp_le (tgt := 11) hx hb dX0_count_6 (by decide) (fun c_6 => ?_) (fun c_6 => ?_)
    · obtain ⟨i, hi, ev⟩ := nI_of2 (x := v) (M := 3) (n := 3) (by decide) c_1 c_6
      refine lv_aload_n hx hb dX0_count_11 rfl (lv_at hl 0 rfl) ?_
      refine lv_iload_n hx hb dX0_count_12 rfl (lv_at hl 1 rfl) ?_
      refine lv_iload_n hx hb dX0_count_13 rfl (lv_at hl 2 rfl) ?_
      refine lv_iload_n hx hb dX0_count_14 rfl (lv_at hl 3 rfl) ?_
      refine lv_iload hx hb dX0_count_15 (lv_at hl 4 rfl) ?_
      refine zw_ci (va_runV (As := [.int v, .int a, .int b, .int d]) (rest := []) ⟨hx, hb, hml, hown, hts⟩ (zc_endOf l dC dI h0 ha cA n f px py pz ks cur v a b d i hi ev hG) (cwV 4 hts gX0_count_X0_endOf rfl rfl rfl (by decide +kernel) ⟨Nat.le_of_ble_eq_true rfl, Nat.le_of_ble_eq_true rfl⟩) (zw_preV (ci := 0) (q0 := 0) hP hK rfl rfl) rfl rfl hl.1 rfl (lv_room (Nat.le_of_ble_eq_true rfl)) dX0_count_17 ⟨Nat.zero_le _, Nat.zero_le _⟩) ?_
      refine lv_aload_n hx hb dX0_count_20 rfl (lv_at hl 0 rfl) ?_
      refine lv_iload_n hx hb dX0_count_21 rfl (lv_at hl 1 rfl) ?_
      refine lv_iload_n hx hb dX0_count_22 rfl (lv_at hl 2 rfl) ?_
      refine lv_iload_n hx hb dX0_count_23 rfl (lv_at hl 3 rfl) ?_
      refine lv_iload hx hb dX0_count_24 (lv_at hl 4 rfl) ?_
      refine zw_ci (va_runV (As := [.int v, .int a, .int b, .int d]) (rest := [.int (nI (zk_en ks v a b d))]) ⟨hx, hb, hml, hown, hts⟩ (zc_startOf l dC dI h0 ha cA n f px py pz ks cur v a b d i hi ev hG) (cwV 4 hts gX0_count_X0_startOf rfl rfl rfl (by decide +kernel) ⟨Nat.le_of_ble_eq_true rfl, Nat.le_of_ble_eq_true rfl⟩) (zw_preV (ci := 0) (q0 := 0) hP hK rfl rfl) rfl rfl hl.1 rfl (lv_room (Nat.le_of_ble_eq_true rfl)) dX0_count_26 ⟨Nat.zero_le _, Nat.zero_le _⟩) ?_
      refine lv_isub hx hb dX0_count_29 ?_
      refine zw_eqi (y := zs_count ks v a b d) (zs_count_ok hG.1 hG.2.1 hi ev) ?_
      exact W.iret hx hb hr (fun t ht hW => ⟨rfl, ht⟩) (fun q h => by cases h) dX0_count_30
    · refine lv_iconst (v := (-1)) hx hb dX0_count_9 (by decide) ?_
      refine zw_eqi (y := zs_count ks v a b d) (zs_count_bad (Or.inr c_6)) ?_
      exact W.iret hx hb hr (fun t ht hW => ⟨rfl, ht⟩) (fun q h => by cases h) dX0_count_10
set_option maxHeartbeats 4000000 in
set_option maxRecDepth 100000 in
/-- different(v, a, b) -/
theorem zc_different (l : Launch) (dC : Nat → ClassId) (dI : Nat → Nat → Nat) (h0 ha : Nat) (cA : ClassId) (n : Nat) (f : Nat → Int64) (px py pz : Int32) (ks : List Nat) (cur : Int64) (v : Int32) (a : Int32) (b : Int32) (hG : zk_G ks n f) : Met l yX0_different wsX0_different ({ frames := 4, cells := 0, slots := 0, locals := 89 }) (zw_P [.ref h0, .int v, .int a, .int b] (dC, dI) vwCl (zx_w h0 ha cA n f px py pz ks.length cur) [(cA, .long)]) (zw_Q (some (.int (zs_dif ks v a b)))) 0 0 (fun _ => False) := by
  refine Met.ofW (cc := cX0_different) (maxL := 4) (ret := (some .int)) (by decide) rfl ?_
  intro p e s m args below meth c s₁ B hml hv
  obtain ⟨rfl, hP, hK⟩ := hv
  have hx := B.exec
  have hb := B.bytes
  have hr := B.returns
  have hts := atoms_spec (ws := wsX0_different) B.pre
  have hown : s.vm.findClass RX0 = some m.cls := findClass_of_methodNamed B.named
  have hl := lv_entry ([.ref h0, .int v, .int a, .int b]) (n := 4) (Nat.le_of_ble_eq_true rfl)
  rw [lg_entry_eq]
  generalize (lg_sl ([.ref h0, .int v, .int a, .int b]) ++ List.replicate (4 - (lg_sl ([.ref h0, .int v, .int a, .int b])).length) Slot.unset).toArray = ls at hl ⊢
  have hl : lv_has ls 4 [(0, .ref h0), (1, .int v), (2, .int a), (3, .int b)] := hl
  have hP : va_P (dC, dI) vwCl (zx_w h0 ha cA n f px py pz ks.length cur) s.heap := hP
  refine lv_iload_n hx hb dX0_different_0 rfl (lv_at hl 1 rfl) ?_
  refine lv_if_lt (tgt := 9) hx hb dX0_different_1 (by decide) (fun c_1 => ?_) (fun c_1 => ?_)
  · refine lv_iconst (v := (-1)) hx hb dX0_different_9 (by decide) ?_
    refine zw_eqi (y := zs_dif ks v a b) (zs_dif_bad (Or.inl c_1)) ?_
    exact W.iret hx hb hr (fun t ht hW => ⟨rfl, ht⟩) (fun q h => by cases h) dX0_different_10
  · refine lv_iload_n hx hb dX0_different_4 rfl (lv_at hl 1 rfl) ?_
    refine lv_iconst (v := 2) hx hb dX0_different_5 (by decide) ?_
    refine lv_icmp_le (tgt := 11) hx hb dX0_different_6 (by decide) (fun c_6 => ?_) (fun c_6 => ?_)
    · obtain ⟨i, hi, ev⟩ := nI_of2 (x := v) (M := 2) (n := 2) (by decide) c_1 c_6
      have hse := zk_se hG.1 hG.2.1 (i := i) (v := v) (a := a) (b := b) (d := 0) (by omega) ev
      refine lv_aload_n hx hb dX0_different_11 rfl (lv_at hl 0 rfl) ?_
      refine lv_aload_n hx hb dX0_different_12 rfl (lv_at hl 0 rfl) ?_
      refine lv_iload_n hx hb dX0_different_13 rfl (lv_at hl 1 rfl) ?_
      refine lv_iload_n hx hb dX0_different_14 rfl (lv_at hl 2 rfl) ?_
      refine lv_iload_n hx hb dX0_different_15 rfl (lv_at hl 3 rfl) ?_
      refine lv_iconst (v := 0) hx hb dX0_different_16 (by decide) ?_
      refine zw_ci (va_runV (As := [.int v, .int a, .int b, .int 0]) (rest := [.ref h0]) ⟨hx, hb, hml, hown, hts⟩ (zc_startOf l dC dI h0 ha cA n f px py pz ks cur v a b 0 i (by omega) ev hG) (cwV 4 hts gX0_different_X0_startOf rfl rfl rfl (by decide +kernel) ⟨Nat.le_of_ble_eq_true rfl, Nat.le_of_ble_eq_true rfl⟩) (zw_preV (ci := 0) (q0 := 0) hP hK rfl rfl) rfl rfl hl.1 rfl (lv_room (Nat.le_of_ble_eq_true rfl)) dX0_different_17 ⟨Nat.zero_le _, Nat.zero_le _⟩) ?_
      refine lv_aload_n hx hb dX0_different_20 rfl (lv_at hl 0 rfl) ?_
      refine lv_iload_n hx hb dX0_different_21 rfl (lv_at hl 1 rfl) ?_
      refine lv_iload_n hx hb dX0_different_22 rfl (lv_at hl 2 rfl) ?_
      refine lv_iload_n hx hb dX0_different_23 rfl (lv_at hl 3 rfl) ?_
      refine lv_iconst (v := 0) hx hb dX0_different_24 (by decide) ?_
      refine zw_ci (va_runV (As := [.int v, .int a, .int b, .int 0]) (rest := [.int (nI (zk_st ks v a b 0)), .ref h0]) ⟨hx, hb, hml, hown, hts⟩ (zc_endOf l dC dI h0 ha cA n f px py pz ks cur v a b 0 i (by omega) ev hG) (cwV 4 hts gX0_different_X0_endOf rfl rfl rfl (by decide +kernel) ⟨Nat.le_of_ble_eq_true rfl, Nat.le_of_ble_eq_true rfl⟩) (zw_preV (ci := 0) (q0 := 0) hP hK rfl rfl) rfl rfl hl.1 rfl (lv_room (Nat.le_of_ble_eq_true rfl)) dX0_different_25 ⟨Nat.zero_le _, Nat.zero_le _⟩) ?_
      refine lv_iload_n hx hb dX0_different_28 rfl (lv_at hl 1 rfl) ?_
      refine zw_ci (va_runS (As := [.int v]) (rest := [.int (nI (zk_en ks v a b 0)), .int (nI (zk_st ks v a b 0)), .ref h0]) ⟨hx, hb, hml, hown, hts⟩ (zc_shiftOf l v) (va_cwS 1 hts gX0_different_X0_shiftOf rfl rfl rfl (by decide +kernel) ⟨Nat.le_of_ble_eq_true rfl, Nat.le_of_ble_eq_true rfl⟩) (preEq) rfl rfl hl.1 rfl (lv_room (Nat.le_of_ble_eq_true rfl)) dX0_different_29 ⟨Nat.zero_le _, Nat.zero_le _⟩) ?_
      refine zw_ci (va_runV (As := [.int (nI (zk_st ks v a b 0)), .int (nI (zk_en ks v a b 0)), .int (zf_sh v)]) (rest := []) ⟨hx, hb, hml, hown, hts⟩ (zc_beginnings l dC dI h0 ha cA n f px py pz ks cur (zk_st ks v a b 0) (zk_en ks v a b 0) (zf_sh v) hse.1 (Nat.le_trans hse.2.1 hG.2.2.1) hG.2.2.2.1.2) (cwV 3 hts gX0_different_X0_beginnings rfl rfl rfl (by decide +kernel) ⟨Nat.le_of_ble_eq_true rfl, Nat.le_of_ble_eq_true rfl⟩) (zw_preV (ci := 0) (q0 := 0) hP hK rfl rfl) rfl rfl hl.1 rfl (lv_room (Nat.le_of_ble_eq_true rfl)) dX0_different_32 ⟨Nat.zero_le _, Nat.zero_le _⟩) ?_
      refine zw_eqi (y := zs_dif ks v a b) (zs_dif_ok hG hi ev) ?_
      exact W.iret hx hb hr (fun t ht hW => ⟨rfl, ht⟩) (fun q h => by cases h) dX0_different_35
    · refine lv_iconst (v := (-1)) hx hb dX0_different_9 (by decide) ?_
      refine zw_eqi (y := zs_dif ks v a b) (zs_dif_bad (Or.inr c_6)) ?_
      exact W.iret hx hb hr (fun t ht hW => ⟨rfl, ht⟩) (fun q h => by cases h) dX0_different_10
set_option maxHeartbeats 4000000 in
set_option maxRecDepth 100000 in
/-- stands() -/
theorem zc_stands (l : Launch) (dC : Nat → ClassId) (dI : Nat → Nat → Nat) (h0 ha : Nat) (cA : ClassId) (n : Nat) (f : Nat → Int64) (px py pz : Int32) (ks : List Nat) (cur : Int64) (k : Nat) (hk : ¬ cur = -1 → cur = lN k ∧ k < 1152921504606846976) (hG : zk_G ks n f) : Met l yX0_stands wsX0_stands ({ frames := 2, cells := 0, slots := 0, locals := 47 }) (zw_P [.ref h0] (dC, dI) vwCl (zx_w h0 ha cA n f px py pz ks.length cur) [(cA, .long)]) (zw_Q (some (.int (if cur = -1 then 0 else zb_I (decide (k ∈ ks)))))) 0 0 (fun _ => False) := by
  refine Met.ofW (cc := cX0_stands) (maxL := 1) (ret := (some .int)) (by decide) rfl ?_
  intro p e s m args below meth c s₁ B hml hv
  obtain ⟨rfl, hP, hK⟩ := hv
  have hx := B.exec
  have hb := B.bytes
  have hr := B.returns
  have hts := atoms_spec (ws := wsX0_stands) B.pre
  have hown : s.vm.findClass RX0 = some m.cls := findClass_of_methodNamed B.named
  have hl := lv_entry ([.ref h0]) (n := 1) (Nat.le_of_ble_eq_true rfl)
  rw [lg_entry_eq]
  generalize (lg_sl ([.ref h0]) ++ List.replicate (1 - (lg_sl ([.ref h0])).length) Slot.unset).toArray = ls at hl ⊢
  have hl : lv_has ls 1 [(0, .ref h0)] := hl
  have hP : va_P (dC, dI) vwCl (zx_w h0 ha cA n f px py pz ks.length cur) s.heap := hP
  refine lv_aload_n hx hb dX0_stands_0 rfl (lv_at hl 0 rfl) ?_
  refine va_get (D := (dC, dI)) (ci := 0) (v := .long cur) (C := RX0) (T := TX0) (N := 6) hx hb hts (by decide +kernel) hown hK hP 0 rfl rfl 5 (by decide) (hts (.fieldLink RX0 38 "PageIndex" "cursor" "J") (by decide +kernel)) (fun _ h9 => h9) rfl dX0_stands_1 ?_
  refine lv_ldc2 (v := (-1)) hx hb hown (hts (.constantLong RX0 36 (-1)) (by decide +kernel)) dX0_stands_4 ?_
  refine W.lcmp hx hb dX0_stands_7 ?_
  refine lv_if_eq (tgt := 26) hx hb dX0_stands_8 (by decide) (fun c_8 => ?_) (fun c_8 => ?_)
  · have h8 := (lg_cmp_eq _ _).mp c_8
    refine lv_iconst (v := 0) hx hb dX0_stands_26 (by decide) ?_
    refine zw_eqi (y := if cur = -1 then 0 else zb_I (decide (k ∈ ks))) (by simp [zb_I, h8]) ?_
    exact W.iret hx hb hr (fun t ht hW => ⟨rfl, ht⟩) (fun q h => by cases h) dX0_stands_27
  · have h8 : ¬ cur = -1 := fun z => c_8 ((lg_cmp_eq _ _).mpr z)
    refine lv_aload_n hx hb dX0_stands_11 rfl (lv_at hl 0 rfl) ?_
    refine lv_aload_n hx hb dX0_stands_12 rfl (lv_at hl 0 rfl) ?_
    refine va_get (D := (dC, dI)) (ci := 0) (v := .long cur) (C := RX0) (T := TX0) (N := 6) hx hb hts (by decide +kernel) hown hK hP 0 rfl rfl 5 (by decide) (hts (.fieldLink RX0 38 "PageIndex" "cursor" "J") (by decide +kernel)) (fun _ h9 => h9) rfl dX0_stands_13 ?_
    refine zw_eql (y := lN k) (hk h8).1 ?_
    refine zw_ci (va_runV (As := [.long (lN k)]) (rest := []) ⟨hx, hb, hml, hown, hts⟩ (zc_isHeld l dC dI h0 ha cA n f px py pz ks cur k (Nat.le_of_lt (hk h8).2) hG) (cwV 1 hts gX0_stands_X0_isHeld rfl rfl rfl (by decide +kernel) ⟨Nat.le_of_ble_eq_true rfl, Nat.le_of_ble_eq_true rfl⟩) (zw_preV (ci := 0) (q0 := 0) hP hK rfl rfl) rfl rfl hl.1 rfl (lv_room (Nat.le_of_ble_eq_true rfl)) dX0_stands_16 ⟨Nat.zero_le _, Nat.zero_le _⟩) ?_
    refine zw_ifeq (tgt := 26) hx hb dX0_stands_19 (by decide) (fun c_19 => ?_) (fun c_19 => ?_)
    · refine lv_iconst (v := 0) hx hb dX0_stands_26 (by decide) ?_
      refine zw_eqi (y := if cur = -1 then 0 else zb_I (decide (k ∈ ks))) (by simp [zb_I, h8, c_19]) ?_
      exact W.iret hx hb hr (fun t ht hW => ⟨rfl, ht⟩) (fun q h => by cases h) dX0_stands_27
    · refine lv_iconst (v := 1) hx hb dX0_stands_22 (by decide) ?_
      refine lv_goto (tgt := 27) hx hb dX0_stands_23 (by decide) ?_
      refine zw_eqi (y := if cur = -1 then 0 else zb_I (decide (k ∈ ks))) (by simp [zb_I, h8, c_19]) ?_
      exact W.iret hx hb hr (fun t ht hW => ⟨rfl, ht⟩) (fun q h => by cases h) dX0_stands_27
set_option maxHeartbeats 4000000 in
set_option maxRecDepth 100000 in
/-- told(v) -/
theorem zc_told (l : Launch) (dC : Nat → ClassId) (dI : Nat → Nat → Nat) (h0 ha : Nat) (cA : ClassId) (n : Nat) (f : Nat → Int64) (px py pz : Int32) (ks : List Nat) (cur : Int64) (v : Int32) : Met l yX0_told wsX0_told ({ frames := 2, cells := 0, slots := 0, locals := 41 }) (zw_P [.ref h0, .int v] (dC, dI) vwCl (zx_w h0 ha cA n f px py pz ks.length cur) [(cA, .long)]) (zw_Q (some (.int (zf_told px py pz cur v)))) 0 0 (fun _ => False) := by
  refine Met.ofW (cc := cX0_told) (maxL := 2) (ret := (some .int)) (by decide) rfl ?_
  intro p e s m args below meth c s₁ B hml hv
  obtain ⟨rfl, hP, hK⟩ := hv
  have hx := B.exec
  have hb := B.bytes
  have hr := B.returns
  have hts := atoms_spec (ws := wsX0_told) B.pre
  have hown : s.vm.findClass RX0 = some m.cls := findClass_of_methodNamed B.named
  have hl := lv_entry ([.ref h0, .int v]) (n := 2) (Nat.le_of_ble_eq_true rfl)
  rw [lg_entry_eq]
  generalize (lg_sl ([.ref h0, .int v]) ++ List.replicate (2 - (lg_sl ([.ref h0, .int v])).length) Slot.unset).toArray = ls at hl ⊢
  have hl : lv_has ls 2 [(0, .ref h0), (1, .int v)] := hl
  have hP : va_P (dC, dI) vwCl (zx_w h0 ha cA n f px py pz ks.length cur) s.heap := hP
  refine lv_aload_n hx hb dX0_told_0 rfl (lv_at hl 0 rfl) ?_
  refine va_get (D := (dC, dI)) (ci := 0) (v := .long cur) (C := RX0) (T := TX0) (N := 6) hx hb hts (by decide +kernel) hown hK hP 0 rfl rfl 5 (by decide) (hts (.fieldLink RX0 38 "PageIndex" "cursor" "J") (by decide +kernel)) (fun _ h9 => h9) rfl dX0_told_1 ?_
  refine lv_ldc2 (v := (-1)) hx hb hown (hts (.constantLong RX0 36 (-1)) (by decide +kernel)) dX0_told_4 ?_
  refine W.lcmp hx hb dX0_told_7 ?_
  refine lv_if_ne (tgt := 13) hx hb dX0_told_8 (by decide) (fun c_8 => ?_) (fun c_8 => ?_)
  · have h8 : ¬ cur = -1 := fun z => c_8 ((lg_cmp_eq _ _).mpr z)
    refine lv_iload_n hx hb dX0_told_13 rfl (lv_at hl 1 rfl) ?_
    by_cases e_0 : v = 0
    · refine lv_tableIn (tgt := 52) hx hb dX0_told_14 (by rw [e_0]; decide) (by rw [e_0]; decide) (by rw [e_0]; rfl) (by decide) ?_
      refine lv_aload_n hx hb dX0_told_52 rfl (lv_at hl 0 rfl) ?_
      refine lv_iload_n hx hb dX0_told_53 rfl (lv_at hl 1 rfl) ?_
      refine zw_ci (va_runV (As := [.int v]) (rest := []) ⟨hx, hb, hml, hown, hts⟩ (zc_cursorNumber l dC dI h0 ha cA n f px py pz ks cur v) (cwV 1 hts gX0_told_X0_cursorNumber rfl rfl rfl (by decide +kernel) ⟨Nat.le_of_ble_eq_true rfl, Nat.le_of_ble_eq_true rfl⟩) (zw_preV (ci := 0) (q0 := 0) hP hK rfl rfl) rfl rfl hl.1 rfl (lv_room (Nat.le_of_ble_eq_true rfl)) dX0_told_54 ⟨Nat.zero_le _, Nat.zero_le _⟩) ?_
      refine zw_eqi (y := zf_told px py pz cur v) (by simp [zf_told, h8, e_0]) ?_
      exact W.iret hx hb hr (fun t ht hW => ⟨rfl, ht⟩) (fun q h => by cases h) dX0_told_57
    by_cases e_1 : v = 1
    · refine lv_tableIn (tgt := 52) hx hb dX0_told_14 (by rw [e_1]; decide) (by rw [e_1]; decide) (by rw [e_1]; rfl) (by decide) ?_
      refine lv_aload_n hx hb dX0_told_52 rfl (lv_at hl 0 rfl) ?_
      refine lv_iload_n hx hb dX0_told_53 rfl (lv_at hl 1 rfl) ?_
      refine zw_ci (va_runV (As := [.int v]) (rest := []) ⟨hx, hb, hml, hown, hts⟩ (zc_cursorNumber l dC dI h0 ha cA n f px py pz ks cur v) (cwV 1 hts gX0_told_X0_cursorNumber rfl rfl rfl (by decide +kernel) ⟨Nat.le_of_ble_eq_true rfl, Nat.le_of_ble_eq_true rfl⟩) (zw_preV (ci := 0) (q0 := 0) hP hK rfl rfl) rfl rfl hl.1 rfl (lv_room (Nat.le_of_ble_eq_true rfl)) dX0_told_54 ⟨Nat.zero_le _, Nat.zero_le _⟩) ?_
      refine zw_eqi (y := zf_told px py pz cur v) (by simp [zf_told, h8, e_0, e_1]) ?_
      exact W.iret hx hb hr (fun t ht hW => ⟨rfl, ht⟩) (fun q h => by cases h) dX0_told_57
    by_cases e_2 : v = 2
    · refine lv_tableIn (tgt := 52) hx hb dX0_told_14 (by rw [e_2]; decide) (by rw [e_2]; decide) (by rw [e_2]; rfl) (by decide) ?_
      refine lv_aload_n hx hb dX0_told_52 rfl (lv_at hl 0 rfl) ?_
      refine lv_iload_n hx hb dX0_told_53 rfl (lv_at hl 1 rfl) ?_
      refine zw_ci (va_runV (As := [.int v]) (rest := []) ⟨hx, hb, hml, hown, hts⟩ (zc_cursorNumber l dC dI h0 ha cA n f px py pz ks cur v) (cwV 1 hts gX0_told_X0_cursorNumber rfl rfl rfl (by decide +kernel) ⟨Nat.le_of_ble_eq_true rfl, Nat.le_of_ble_eq_true rfl⟩) (zw_preV (ci := 0) (q0 := 0) hP hK rfl rfl) rfl rfl hl.1 rfl (lv_room (Nat.le_of_ble_eq_true rfl)) dX0_told_54 ⟨Nat.zero_le _, Nat.zero_le _⟩) ?_
      refine zw_eqi (y := zf_told px py pz cur v) (by simp [zf_told, h8, e_0, e_1, e_2]) ?_
      exact W.iret hx hb hr (fun t ht hW => ⟨rfl, ht⟩) (fun q h => by cases h) dX0_told_57
    by_cases e_3 : v = 3
    · refine lv_tableIn (tgt := 58) hx hb dX0_told_14 (by rw [e_3]; decide) (by rw [e_3]; decide) (by rw [e_3]; rfl) (by decide) ?_
      refine lv_aload_n hx hb dX0_told_58 rfl (lv_at hl 0 rfl) ?_
      refine lv_aload_n hx hb dX0_told_59 rfl (lv_at hl 0 rfl) ?_
      refine va_get (D := (dC, dI)) (ci := 0) (v := .int px) (C := RX0) (T := TX0) (N := 6) hx hb hts (by decide +kernel) hown hK hP 0 rfl rfl 0 (by decide) (hts (.fieldLink RX0 19 "PageIndex" "placeOfX" "I") (by decide +kernel)) (fun _ h9 => h9) rfl dX0_told_60 ?_
      refine zw_ci (va_runV (As := [.int px]) (rest := []) ⟨hx, hb, hml, hown, hts⟩ (zc_cursorNumber l dC dI h0 ha cA n f px py pz ks cur px) (cwV 1 hts gX0_told_X0_cursorNumber rfl rfl rfl (by decide +kernel) ⟨Nat.le_of_ble_eq_true rfl, Nat.le_of_ble_eq_true rfl⟩) (zw_preV (ci := 0) (q0 := 0) hP hK rfl rfl) rfl rfl hl.1 rfl (lv_room (Nat.le_of_ble_eq_true rfl)) dX0_told_63 ⟨Nat.zero_le _, Nat.zero_le _⟩) ?_
      refine zw_eqi (y := zf_told px py pz cur v) (by simp [zf_told, h8, e_0, e_1, e_2, e_3]) ?_
      exact W.iret hx hb hr (fun t ht hW => ⟨rfl, ht⟩) (fun q h => by cases h) dX0_told_66
    by_cases e_4 : v = 4
    · refine lv_tableIn (tgt := 67) hx hb dX0_told_14 (by rw [e_4]; decide) (by rw [e_4]; decide) (by rw [e_4]; rfl) (by decide) ?_
      refine lv_aload_n hx hb dX0_told_67 rfl (lv_at hl 0 rfl) ?_
      refine lv_aload_n hx hb dX0_told_68 rfl (lv_at hl 0 rfl) ?_
      refine va_get (D := (dC, dI)) (ci := 0) (v := .int py) (C := RX0) (T := TX0) (N := 6) hx hb hts (by decide +kernel) hown hK hP 0 rfl rfl 1 (by decide) (hts (.fieldLink RX0 23 "PageIndex" "placeOfY" "I") (by decide +kernel)) (fun _ h9 => h9) rfl dX0_told_69 ?_
      refine zw_ci (va_runV (As := [.int py]) (rest := []) ⟨hx, hb, hml, hown, hts⟩ (zc_cursorNumber l dC dI h0 ha cA n f px py pz ks cur py) (cwV 1 hts gX0_told_X0_cursorNumber rfl rfl rfl (by decide +kernel) ⟨Nat.le_of_ble_eq_true rfl, Nat.le_of_ble_eq_true rfl⟩) (zw_preV (ci := 0) (q0 := 0) hP hK rfl rfl) rfl rfl hl.1 rfl (lv_room (Nat.le_of_ble_eq_true rfl)) dX0_told_72 ⟨Nat.zero_le _, Nat.zero_le _⟩) ?_
      refine zw_eqi (y := zf_told px py pz cur v) (by simp [zf_told, h8, e_0, e_1, e_2, e_3, e_4]) ?_
      exact W.iret hx hb hr (fun t ht hW => ⟨rfl, ht⟩) (fun q h => by cases h) dX0_told_75
    by_cases e_5 : v = 5
    · refine lv_tableIn (tgt := 76) hx hb dX0_told_14 (by rw [e_5]; decide) (by rw [e_5]; decide) (by rw [e_5]; rfl) (by decide) ?_
      refine lv_aload_n hx hb dX0_told_76 rfl (lv_at hl 0 rfl) ?_
      refine lv_aload_n hx hb dX0_told_77 rfl (lv_at hl 0 rfl) ?_
      refine va_get (D := (dC, dI)) (ci := 0) (v := .int pz) (C := RX0) (T := TX0) (N := 6) hx hb hts (by decide +kernel) hown hK hP 0 rfl rfl 2 (by decide) (hts (.fieldLink RX0 26 "PageIndex" "placeOfZ" "I") (by decide +kernel)) (fun _ h9 => h9) rfl dX0_told_78 ?_
      refine zw_ci (va_runV (As := [.int pz]) (rest := []) ⟨hx, hb, hml, hown, hts⟩ (zc_cursorNumber l dC dI h0 ha cA n f px py pz ks cur pz) (cwV 1 hts gX0_told_X0_cursorNumber rfl rfl rfl (by decide +kernel) ⟨Nat.le_of_ble_eq_true rfl, Nat.le_of_ble_eq_true rfl⟩) (zw_preV (ci := 0) (q0 := 0) hP hK rfl rfl) rfl rfl hl.1 rfl (lv_room (Nat.le_of_ble_eq_true rfl)) dX0_told_81 ⟨Nat.zero_le _, Nat.zero_le _⟩) ?_
      refine zw_eqi (y := zf_told px py pz cur v) (by simp [zf_told, h8, e_0, e_1, e_2, e_3, e_4, e_5]) ?_
      exact W.iret hx hb hr (fun t ht hW => ⟨rfl, ht⟩) (fun q h => by cases h) dX0_told_84
    have q_0 : ¬ v.toInt = 0 := fun q => e_0 (Int32.toInt_inj.mp (q.trans (by decide)))
    have q_1 : ¬ v.toInt = 1 := fun q => e_1 (Int32.toInt_inj.mp (q.trans (by decide)))
    have q_2 : ¬ v.toInt = 2 := fun q => e_2 (Int32.toInt_inj.mp (q.trans (by decide)))
    have q_3 : ¬ v.toInt = 3 := fun q => e_3 (Int32.toInt_inj.mp (q.trans (by decide)))
    have q_4 : ¬ v.toInt = 4 := fun q => e_4 (Int32.toInt_inj.mp (q.trans (by decide)))
    have q_5 : ¬ v.toInt = 5 := fun q => e_5 (Int32.toInt_inj.mp (q.trans (by decide)))
    refine lv_tableOut (tgt := 85) hx hb dX0_told_14 (by omega) (by decide) ?_
    refine lv_iconst (v := (-1)) hx hb dX0_told_85 (by decide) ?_
    refine zw_eqi (y := zf_told px py pz cur v) (by simp [zf_told, h8, e_0, e_1, e_2, e_3, e_4, e_5]) ?_
    exact W.iret hx hb hr (fun t ht hW => ⟨rfl, ht⟩) (fun q h => by cases h) dX0_told_86
  · have h8 := (lg_cmp_eq _ _).mp c_8
    refine lv_iconst (v := (-1)) hx hb dX0_told_11 (by decide) ?_
    refine zw_eqi (y := zf_told px py pz cur v) (by simp [zf_told, h8]) ?_
    exact W.iret hx hb hr (fun t ht hW => ⟨rfl, ht⟩) (fun q h => by cases h) dX0_told_12
end
section
set_option maxHeartbeats 4000000 in
set_option maxRecDepth 100000 in
/-- standAt(v) -/
theorem zc_standAt (l : Launch) (dC : Nat → ClassId) (dI : Nat → Nat → Nat) (h0 ha : Nat) (cA : ClassId) (n : Nat) (f : Nat → Int64) (px py pz : Int32) (ks : List Nat) (cur : Int64) (sz : Nat) (v : Int32) (hG : zk_G ks n f) : Met l yX0_standAt wsX0_standAt ({ frames := 0, cells := 0, slots := 0, locals := 0 }) (zw_Pw [.ref h0, .int v] (dC, dI) vwCl (zx_w h0 ha cA n f px py pz ks.length cur) [(cA, .long)] sz) (zx_Q dC dI h0 px py pz (some (.int (zb_I (zs_at ks v).isSome))) (ks) (zk_o (zs_at ks v)) (va_A (zx_w h0 ha cA n f px py pz ks.length cur) sz)) 0 0 (va_A (zx_w h0 ha cA n f px py pz ks.length cur) sz) := by
  refine Met.ofW (cc := cX0_standAt) (maxL := 3) (ret := (some .boolean)) (by decide) rfl ?_
  intro p e s m args below meth c s₁ B hml hv
  obtain ⟨rfl, hsz, hP, hK, hD0⟩ := hv
  have hx := B.exec
  have hb := B.bytes
  have hr := B.returns
  have hts := atoms_spec (ws := wsX0_standAt) B.pre
  have hown : s.vm.findClass RX0 = some m.cls := findClass_of_methodNamed B.named
  subst hsz
  have hD := hD0.self (sz := s.heap.size)
  generalize hAe : va_A (zx_w h0 ha cA n f px py pz ks.length cur) s.heap.size = A at hD ⊢
  have hA : ∀ q : Nat, s.heap.size ≤ q → A q := fun q h => by rw [← hAe]; exact Or.inr h
  have hS : va_S A s.heap s.heap [] := va_S.rf
  have hP : va_P (dC, dI) vwCl (zx_w h0 ha cA n f px py pz ks.length cur) s.heap := hP
  have hl := lv_entry ([.ref h0, .int v]) (n := 3) (Nat.le_of_ble_eq_true rfl)
  rw [lg_entry_eq]
  generalize (lg_sl ([.ref h0, .int v]) ++ List.replicate (3 - (lg_sl ([.ref h0, .int v])).length) Slot.unset).toArray = ls at hl ⊢
  have hl : lv_has ls 3 [(0, .ref h0), (1, .int v)] := hl
  refine lv_iload_n hx hb dX0_standAt_0 rfl (lv_at hl 1 rfl) ?_
  refine lv_if_lt (tgt := 16) hx hb dX0_standAt_1 (by decide) (fun c_1 => ?_) (fun c_1 => ?_)
  · refine lv_iconst (v := 0) hx hb dX0_standAt_16 (by decide) ?_
    refine lv_istore_n (lv' := [(2, .int 0), (0, .ref h0), (1, .int v)]) hx hb dX0_standAt_17 rfl hl (by decide) rfl (fun ls hl => ?_)
    refine lv_aload_n hx hb dX0_standAt_18 rfl (lv_at hl 1 rfl) ?_
    refine lv_iload_n hx hb dX0_standAt_19 rfl (lv_at hl 0 rfl) ?_
    refine lv_if_eq (tgt := 32) hx hb dX0_standAt_20 (by decide) (fun c_20 => ?_) (fun c_20 => absurd (rfl) c_20)
    refine lv_ldc2 (v := (-1)) hx hb hown (hts (.constantLong RX0 36 (-1)) (by decide +kernel)) dX0_standAt_32 ?_
    have hat : none = zs_at ks v := zs_at_neg c_1
    refine zw_eql (y := zk_o (zs_at ks v)) (by rw [← hat]; rfl) ?_
    refine va_put (D := (dC, dI)) (ci := 0) (v := .long (zk_o (zs_at ks v))) (ty := .long) (C := RX0) (T := TX0) (N := 6) hx hb hts (by decide +kernel) tyX0 tyX0_ok nmX0 hown hK hP hD hS 0 rfl rfl 5 (by decide) (hts (.fieldLink RX0 38 "PageIndex" "cursor" "J") (by decide +kernel)) (fun _ h9 => h9) rfl (by decide +kernel) rfl rfl (Nat.le_of_ble_eq_true rfl) dX0_standAt_35 (fun H locs hP hD hS => ?_)
    have hP : va_P (dC, dI) vwCl (zx_w h0 ha cA n f px py pz ks.length (zk_o (zs_at ks v))) H := hP
    have hD : va_D A (zx_w h0 ha cA n f px py pz ks.length (zk_o (zs_at ks v))) := hD
    refine lv_iload_n hx hb dX0_standAt_38 rfl (lv_at hl 0 rfl) ?_
    refine zw_eqi (y := zb_I (zs_at ks v).isSome) (by rw [← hat]; rfl) ?_
    exact W.zret hx hb hr (zb_nar _) (fun t ht hW => ⟨⟨(ha, cA, n, f), rfl, hG, by rw [ht]; exact hP, va_K.moved hW.alike hK, hD⟩, hS.F ht⟩) hS.2.2 dX0_standAt_39
  · refine lv_iload_n hx hb dX0_standAt_4 rfl (lv_at hl 1 rfl) ?_
    refine lv_aload_n hx hb dX0_standAt_5 rfl (lv_at hl 0 rfl) ?_
    refine va_get (D := (dC, dI)) (ci := 0) (v := .int (nI ks.length)) (C := RX0) (T := TX0) (N := 6) hx hb hts (by decide +kernel) hown hK hP 0 rfl rfl 4 (by decide) (hts (.fieldLink RX0 33 "PageIndex" "held" "I") (by decide +kernel)) (fun _ h9 => h9) rfl dX0_standAt_6 ?_
    refine lv_icmp_ge (tgt := 16) hx hb dX0_standAt_9 (by decide) (fun c_9 => ?_) (fun c_9 => ?_)
    · refine lv_iconst (v := 0) hx hb dX0_standAt_16 (by decide) ?_
      refine lv_istore_n (lv' := [(2, .int 0), (0, .ref h0), (1, .int v)]) hx hb dX0_standAt_17 rfl hl (by decide) rfl (fun ls hl => ?_)
      refine lv_aload_n hx hb dX0_standAt_18 rfl (lv_at hl 1 rfl) ?_
      refine lv_iload_n hx hb dX0_standAt_19 rfl (lv_at hl 0 rfl) ?_
      refine lv_if_eq (tgt := 32) hx hb dX0_standAt_20 (by decide) (fun c_20 => ?_) (fun c_20 => absurd (rfl) c_20)
      refine lv_ldc2 (v := (-1)) hx hb hown (hts (.constantLong RX0 36 (-1)) (by decide +kernel)) dX0_standAt_32 ?_
      have hat : none = zs_at ks v := zs_at_out c_1 c_9 (by have q := hG.2.2; omega)
      refine zw_eql (y := zk_o (zs_at ks v)) (by rw [← hat]; rfl) ?_
      refine va_put (D := (dC, dI)) (ci := 0) (v := .long (zk_o (zs_at ks v))) (ty := .long) (C := RX0) (T := TX0) (N := 6) hx hb hts (by decide +kernel) tyX0 tyX0_ok nmX0 hown hK hP hD hS 0 rfl rfl 5 (by decide) (hts (.fieldLink RX0 38 "PageIndex" "cursor" "J") (by decide +kernel)) (fun _ h9 => h9) rfl (by decide +kernel) rfl rfl (Nat.le_of_ble_eq_true rfl) dX0_standAt_35 (fun H locs hP hD hS => ?_)
      have hP : va_P (dC, dI) vwCl (zx_w h0 ha cA n f px py pz ks.length (zk_o (zs_at ks v))) H := hP
      have hD : va_D A (zx_w h0 ha cA n f px py pz ks.length (zk_o (zs_at ks v))) := hD
      refine lv_iload_n hx hb dX0_standAt_38 rfl (lv_at hl 0 rfl) ?_
      refine zw_eqi (y := zb_I (zs_at ks v).isSome) (by rw [← hat]; rfl) ?_
      exact W.zret hx hb hr (zb_nar _) (fun t ht hW => ⟨⟨(ha, cA, n, f), rfl, hG, by rw [ht]; exact hP, va_K.moved hW.alike hK, hD⟩, hS.F ht⟩) hS.2.2 dX0_standAt_39
    · obtain ⟨j, hj, ej, -⟩ := pk_mu c_1 c_9 (by have q := hG.2.2; omega)
      refine lv_iconst (v := 1) hx hb dX0_standAt_12 (by decide) ?_
      refine lv_goto (tgt := 17) hx hb dX0_standAt_13 (by decide) ?_
      refine lv_istore_n (lv' := [(2, .int 1), (0, .ref h0), (1, .int v)]) hx hb dX0_standAt_17 rfl hl (by decide) rfl (fun ls hl => ?_)
      refine lv_aload_n hx hb dX0_standAt_18 rfl (lv_at hl 1 rfl) ?_
      refine lv_iload_n hx hb dX0_standAt_19 rfl (lv_at hl 0 rfl) ?_
      refine lv_if_eq (tgt := 32) hx hb dX0_standAt_20 (by decide) (fun c_20 => absurd c_20 (by decide)) (fun c_20 => ?_)
      refine lv_aload_n hx hb dX0_standAt_23 rfl (lv_at hl 1 rfl) ?_
      refine va_get (D := (dC, dI)) (ci := 0) (v := .ref ha) (C := RX0) (T := TX0) (N := 6) hx hb hts (by decide +kernel) hown hK hP 0 rfl rfl 3 (by decide) (hts (.fieldLink RX0 29 "PageIndex" "keys" "[J") (by decide +kernel)) (fun _ h9 => h9) rfl dX0_standAt_24 ?_
      refine lv_iload_n hx hb dX0_standAt_27 rfl (lv_at hl 2 rfl) ?_
      refine va_lald hx hb hK hP 1 0 rfl rfl (pk_in j n (by have q := hG.2.2; omega) ej (by have q := hG.2.2; omega)) dX0_standAt_28 ?_
      refine zw_eql (y := lN (ks.getD j 0)) (by rw [ej, nI_clamp (by have q := hG.2.2; omega)]; exact hG.2.2.2.2 _ hj) ?_
      refine lv_goto (tgt := 35) hx hb dX0_standAt_29 (by decide) ?_
      have hat : some (ks.getD j 0) = zs_at ks v := zs_at_in ej hj (by have q := hG.2.2; omega)
      refine zw_eql (y := zk_o (zs_at ks v)) (by rw [← hat]; rfl) ?_
      refine va_put (D := (dC, dI)) (ci := 0) (v := .long (zk_o (zs_at ks v))) (ty := .long) (C := RX0) (T := TX0) (N := 6) hx hb hts (by decide +kernel) tyX0 tyX0_ok nmX0 hown hK hP hD hS 0 rfl rfl 5 (by decide) (hts (.fieldLink RX0 38 "PageIndex" "cursor" "J") (by decide +kernel)) (fun _ h9 => h9) rfl (by decide +kernel) rfl rfl (Nat.le_of_ble_eq_true rfl) dX0_standAt_35 (fun H locs hP hD hS => ?_)
      have hP : va_P (dC, dI) vwCl (zx_w h0 ha cA n f px py pz ks.length (zk_o (zs_at ks v))) H := hP
      have hD : va_D A (zx_w h0 ha cA n f px py pz ks.length (zk_o (zs_at ks v))) := hD
      refine lv_iload_n hx hb dX0_standAt_38 rfl (lv_at hl 0 rfl) ?_
      refine zw_eqi (y := zb_I (zs_at ks v).isSome) (by rw [← hat]; rfl) ?_
      exact W.zret hx hb hr (zb_nar _) (fun t ht hW => ⟨⟨(ha, cA, n, f), rfl, hG, by rw [ht]; exact hP, va_K.moved hW.alike hK, hD⟩, hS.F ht⟩) hS.2.2 dX0_standAt_39
set_option maxHeartbeats 4000000 in
set_option maxRecDepth 100000 in
/-- choose(v) -/
theorem zc_choose (l : Launch) (dC : Nat → ClassId) (dI : Nat → Nat → Nat) (h0 ha : Nat) (cA : ClassId) (n : Nat) (f : Nat → Int64) (px py pz : Int32) (ks : List Nat) (cur : Int64) (sz : Nat) (v : Int32) (hG : zk_G ks n f) : Met l yX0_choose wsX0_choose ({ frames := 1, cells := 0, slots := 0, locals := 22 }) (zw_Pw [.ref h0, .int v] (dC, dI) vwCl (zx_w h0 ha cA n f px py pz ks.length cur) [(cA, .long)] sz) (zx_Q dC dI h0 px py pz (some (.int (zb_I (zs_at ks v).isSome))) (ks) (zk_o (zs_at ks v)) (va_A (zx_w h0 ha cA n f px py pz ks.length cur) sz)) 0 0 (va_A (zx_w h0 ha cA n f px py pz ks.length cur) sz) := by
  refine Met.ofW (cc := cX0_choose) (maxL := 2) (ret := (some .boolean)) (by decide) rfl ?_
  intro p e s m args below meth c s₁ B hml hv
  obtain ⟨rfl, hsz, hP, hK, hD0⟩ := hv
  have hx := B.exec
  have hb := B.bytes
  have hr := B.returns
  have hts := atoms_spec (ws := wsX0_choose) B.pre
  have hown : s.vm.findClass RX0 = some m.cls := findClass_of_methodNamed B.named
  subst hsz
  have hD := hD0.self (sz := s.heap.size)
  generalize hAe : va_A (zx_w h0 ha cA n f px py pz ks.length cur) s.heap.size = A at hD ⊢
  have hA : ∀ q : Nat, s.heap.size ≤ q → A q := fun q h => by rw [← hAe]; exact Or.inr h
  have hS : va_S A s.heap s.heap [] := va_S.rf
  have hP : va_P (dC, dI) vwCl (zx_w h0 ha cA n f px py pz ks.length cur) s.heap := hP
  have hl := lv_entry ([.ref h0, .int v]) (n := 2) (Nat.le_of_ble_eq_true rfl)
  rw [lg_entry_eq]
  generalize (lg_sl ([.ref h0, .int v]) ++ List.replicate (2 - (lg_sl ([.ref h0, .int v])).length) Slot.unset).toArray = ls at hl ⊢
  have hl : lv_has ls 2 [(0, .ref h0), (1, .int v)] := hl
  refine lv_aload_n hx hb dX0_choose_0 rfl (lv_at hl 0 rfl) ?_
  refine lv_iload_n hx hb dX0_choose_1 rfl (lv_at hl 1 rfl) ?_
  refine zw_callw (ws := zx_w h0 ha cA n f px py pz ks.length cur) (wc := zx_w h0 ha cA n f px py pz ks.length cur) (wr := []) (va_runV (As := [.int v]) (rest := []) ⟨hx, hb, hml, hown, hts⟩ (zc_standAt l dC dI h0 ha cA n f px py pz ks cur s.heap.size v hG) (cwV 1 hts gX0_choose_X0_standAt rfl rfl rfl (by decide +kernel) ⟨Nat.le_of_ble_eq_true rfl, Nat.le_of_ble_eq_true rfl⟩) (zw_preWV (ci := 0) (q0 := 0) hP hK hD rfl rfl) rfl rfl hl.1 rfl (lv_room (Nat.le_of_ble_eq_true rfl)) dX0_choose_2 ⟨Nat.le_of_ble_eq_true rfl, Nat.le_of_ble_eq_true rfl⟩) hP hD hS hA [0, 1] [] rfl rfl (by decide) (by decide) (fun u H locs hu hP hD hK hS => ?_)
  have hP : va_P (dC, dI) vwCl (zx_w h0 u.1 u.2.1 u.2.2.1 u.2.2.2 px py pz ks.length (zk_o (zs_at ks v))) H := hP
  have hD : va_D A (zx_w h0 u.1 u.2.1 u.2.2.1 u.2.2.2 px py pz ks.length (zk_o (zs_at ks v))) := hD
  refine W.eq (g2 := F0 m 5 ls (.int (zb_I (zs_at ks v).isSome) :: [])) rfl ?_
  exact W.zret hx hb hr (zb_nar _) (fun t ht hW => ⟨⟨u, rfl, hu, by rw [ht]; exact hP, va_K.moved hW.alike hK, hD⟩, hS.F ht⟩) hS.2.2 dX0_choose_5
set_option maxHeartbeats 4000000 in
set_option maxRecDepth 100000 in
/-- seek(a, b, d) -/
theorem zc_seek (l : Launch) (dC : Nat → ClassId) (dI : Nat → Nat → Nat) (h0 ha : Nat) (cA : ClassId) (n : Nat) (f : Nat → Int64) (px py pz : Int32) (ks : List Nat) (cur : Int64) (sz : Nat) (a : Int32) (b : Int32) (d : Int32) (k : Nat) (hk : zf_nn a b d = true → zf_key a b d = lN k ∧ k < 1152921504606846976) (hG : zk_G ks n f) : Met l yX0_seek wsX0_seek ({ frames := 2, cells := 0, slots := 0, locals := 42 }) (zw_Pw [.ref h0, .int a, .int b, .int d] (dC, dI) vwCl (zx_w h0 ha cA n f px py pz ks.length cur) [(cA, .long)] sz) (zx_Q dC dI h0 px py pz (some (.int (cond (zf_nn a b d) (zb_I (zs_at ks (nI (zk_c ks k))).isSome) 0))) (ks) (cond (zf_nn a b d) (zk_o (zs_at ks (nI (zk_c ks k)))) cur) (va_A (zx_w h0 ha cA n f px py pz ks.length cur) sz)) 0 0 (va_A (zx_w h0 ha cA n f px py pz ks.length cur) sz) := by
  refine Met.ofW (cc := cX0_seek) (maxL := 4) (ret := (some .boolean)) (by decide) rfl ?_
  intro p e s m args below meth c s₁ B hml hv
  obtain ⟨rfl, hsz, hP, hK, hD0⟩ := hv
  have hx := B.exec
  have hb := B.bytes
  have hr := B.returns
  have hts := atoms_spec (ws := wsX0_seek) B.pre
  have hown : s.vm.findClass RX0 = some m.cls := findClass_of_methodNamed B.named
  subst hsz
  have hD := hD0.self (sz := s.heap.size)
  generalize hAe : va_A (zx_w h0 ha cA n f px py pz ks.length cur) s.heap.size = A at hD ⊢
  have hA : ∀ q : Nat, s.heap.size ≤ q → A q := fun q h => by rw [← hAe]; exact Or.inr h
  have hS : va_S A s.heap s.heap [] := va_S.rf
  have hP : va_P (dC, dI) vwCl (zx_w h0 ha cA n f px py pz ks.length cur) s.heap := hP
  have hl := lv_entry ([.ref h0, .int a, .int b, .int d]) (n := 4) (Nat.le_of_ble_eq_true rfl)
  rw [lg_entry_eq]
  generalize (lg_sl ([.ref h0, .int a, .int b, .int d]) ++ List.replicate (4 - (lg_sl ([.ref h0, .int a, .int b, .int d])).length) Slot.unset).toArray = ls at hl ⊢
  have hl : lv_has ls 4 [(0, .ref h0), (1, .int a), (2, .int b), (3, .int d)] := hl
  cases hz : zf_nn a b d with
  | false =>
    refine lv_iload_n hx hb dX0_seek_0 rfl (lv_at hl 1 rfl) ?_
    refine lv_iload_n hx hb dX0_seek_1 rfl (lv_at hl 2 rfl) ?_
    refine lv_iload_n hx hb dX0_seek_2 rfl (lv_at hl 3 rfl) ?_
    refine zw_ci (va_runS (As := [.int a, .int b, .int d]) (rest := []) ⟨hx, hb, hml, hown, hts⟩ (zc_areNumbers l a b d) (va_cwS 3 hts gX0_seek_X0_areNumbers rfl rfl rfl (by decide +kernel) ⟨Nat.le_of_ble_eq_true rfl, Nat.le_of_ble_eq_true rfl⟩) (preEq) rfl rfl hl.1 rfl (lv_room (Nat.le_of_ble_eq_true rfl)) dX0_seek_3 ⟨Nat.zero_le _, Nat.zero_le _⟩) ?_
    refine zw_ifne (tgt := 11) hx hb dX0_seek_6 (by decide) (fun c_6 => absurd ((hz).symm.trans c_6) (by decide)) (fun c_6 => ?_)
    refine lv_iconst (v := 0) hx hb dX0_seek_9 (by decide) ?_
    refine zw_eqi (y := zb_I false) rfl ?_
    exact W.zret hx hb hr (zb_nar _) (fun t ht hW => ⟨⟨(ha, cA, n, f), rfl, hG, by rw [ht]; exact hP, va_K.moved hW.alike hK, hD⟩, hS.F ht⟩) hS.2.2 dX0_seek_10
  | true =>
    refine lv_iload_n hx hb dX0_seek_0 rfl (lv_at hl 1 rfl) ?_
    refine lv_iload_n hx hb dX0_seek_1 rfl (lv_at hl 2 rfl) ?_
    refine lv_iload_n hx hb dX0_seek_2 rfl (lv_at hl 3 rfl) ?_
    refine zw_ci (va_runS (As := [.int a, .int b, .int d]) (rest := []) ⟨hx, hb, hml, hown, hts⟩ (zc_areNumbers l a b d) (va_cwS 3 hts gX0_seek_X0_areNumbers rfl rfl rfl (by decide +kernel) ⟨Nat.le_of_ble_eq_true rfl, Nat.le_of_ble_eq_true rfl⟩) (preEq) rfl rfl hl.1 rfl (lv_room (Nat.le_of_ble_eq_true rfl)) dX0_seek_3 ⟨Nat.zero_le _, Nat.zero_le _⟩) ?_
    refine zw_ifne (tgt := 11) hx hb dX0_seek_6 (by decide) (fun c_6 => ?_) (fun c_6 => absurd ((hz).symm.trans c_6) (by decide))
    refine lv_aload_n hx hb dX0_seek_11 rfl (lv_at hl 0 rfl) ?_
    refine lv_aload_n hx hb dX0_seek_12 rfl (lv_at hl 0 rfl) ?_
    refine lv_iload_n hx hb dX0_seek_13 rfl (lv_at hl 1 rfl) ?_
    refine lv_iload_n hx hb dX0_seek_14 rfl (lv_at hl 2 rfl) ?_
    refine lv_iload_n hx hb dX0_seek_15 rfl (lv_at hl 3 rfl) ?_
    refine zw_cl (va_runS (As := [.int a, .int b, .int d]) (rest := [.ref h0, .ref h0]) ⟨hx, hb, hml, hown, hts⟩ (zc_keyOf l a b d) (va_cwS 3 hts gX0_seek_X0_keyOf rfl rfl rfl (by decide +kernel) ⟨Nat.le_of_ble_eq_true rfl, Nat.le_of_ble_eq_true rfl⟩) (preEq) rfl rfl hl.1 rfl (lv_room (Nat.le_of_ble_eq_true rfl)) dX0_seek_16 ⟨Nat.zero_le _, Nat.zero_le _⟩) ?_
    refine zw_eql (y := lN k) ((hk hz).1) ?_
    refine zw_ci (va_runV (As := [.long (lN k)]) (rest := [.ref h0]) ⟨hx, hb, hml, hown, hts⟩ (zc_keysBefore l dC dI h0 ha cA n f px py pz ks cur k (Nat.le_of_lt (hk hz).2) hG) (cwV 1 hts gX0_seek_X0_keysBefore rfl rfl rfl (by decide +kernel) ⟨Nat.le_of_ble_eq_true rfl, Nat.le_of_ble_eq_true rfl⟩) (zw_preV (ci := 0) (q0 := 0) hP hK rfl rfl) rfl rfl hl.1 rfl (lv_room (Nat.le_of_ble_eq_true rfl)) dX0_seek_19 ⟨Nat.zero_le _, Nat.zero_le _⟩) ?_
    refine zw_callw (ws := zx_w h0 ha cA n f px py pz ks.length cur) (wc := zx_w h0 ha cA n f px py pz ks.length cur) (wr := []) (va_runV (As := [.int (nI (zk_c ks k))]) (rest := []) ⟨hx, hb, hml, hown, hts⟩ (zc_standAt l dC dI h0 ha cA n f px py pz ks cur s.heap.size (nI (zk_c ks k)) hG) (cwV 1 hts gX0_seek_X0_standAt rfl rfl rfl (by decide +kernel) ⟨Nat.le_of_ble_eq_true rfl, Nat.le_of_ble_eq_true rfl⟩) (zw_preWV (ci := 0) (q0 := 0) hP hK hD rfl rfl) rfl rfl hl.1 rfl (lv_room (Nat.le_of_ble_eq_true rfl)) dX0_seek_22 ⟨Nat.le_of_ble_eq_true rfl, Nat.le_of_ble_eq_true rfl⟩) hP hD hS hA [0, 1] [] rfl rfl (by decide) (by decide) (fun u H locs hu hP hD hK hS => ?_)
    have hP : va_P (dC, dI) vwCl (zx_w h0 u.1 u.2.1 u.2.2.1 u.2.2.2 px py pz ks.length (zk_o (zs_at ks (nI (zk_c ks k))))) H := hP
    have hD : va_D A (zx_w h0 u.1 u.2.1 u.2.2.1 u.2.2.2 px py pz ks.length (zk_o (zs_at ks (nI (zk_c ks k))))) := hD
    refine W.eq (g2 := F0 m 25 ls (.int (zb_I (zs_at ks (nI (zk_c ks k))).isSome) :: [])) rfl ?_
    exact W.zret hx hb hr (zb_nar _) (fun t ht hW => ⟨⟨u, rfl, hu, by rw [ht]; exact hP, va_K.moved hW.alike hK, hD⟩, hS.F ht⟩) hS.2.2 dX0_seek_25
set_option maxHeartbeats 4000000 in
set_option maxRecDepth 100000 in
/-- next() -/
theorem zc_next (l : Launch) (dC : Nat → ClassId) (dI : Nat → Nat → Nat) (h0 ha : Nat) (cA : ClassId) (n : Nat) (f : Nat → Int64) (px py pz : Int32) (ks : List Nat) (cur : Int64) (sz : Nat) (o : Option Nat) (ho : ∀ z, o = some z → z < 1152921504606846976) (ec : cur = zk_o o) (hG : zk_G ks n f) : Met l yX0_next wsX0_next ({ frames := 1, cells := 0, slots := 0, locals := 25 }) (zw_Pw [.ref h0] (dC, dI) vwCl (zx_w h0 ha cA n f px py pz ks.length cur) [(cA, .long)] sz) (zx_Q dC dI h0 px py pz (some (.int (zb_I (zs_at ks (nI (zk_c ks (zk_nx o)))).isSome))) (ks) (zk_o (zs_at ks (nI (zk_c ks (zk_nx o))))) (va_A (zx_w h0 ha cA n f px py pz ks.length cur) sz)) 0 0 (va_A (zx_w h0 ha cA n f px py pz ks.length cur) sz) := by
  refine Met.ofW (cc := cX0_next) (maxL := 1) (ret := (some .boolean)) (by decide) rfl ?_
  intro p e s m args below meth c s₁ B hml hv
  obtain ⟨rfl, hsz, hP, hK, hD0⟩ := hv
  have hx := B.exec
  have hb := B.bytes
  have hr := B.returns
  have hts := atoms_spec (ws := wsX0_next) B.pre
  have hown : s.vm.findClass RX0 = some m.cls := findClass_of_methodNamed B.named
  subst hsz
  have hD := hD0.self (sz := s.heap.size)
  generalize hAe : va_A (zx_w h0 ha cA n f px py pz ks.length cur) s.heap.size = A at hD ⊢
  have hA : ∀ q : Nat, s.heap.size ≤ q → A q := fun q h => by rw [← hAe]; exact Or.inr h
  have hS : va_S A s.heap s.heap [] := va_S.rf
  have hP : va_P (dC, dI) vwCl (zx_w h0 ha cA n f px py pz ks.length cur) s.heap := hP
  have hl := lv_entry ([.ref h0]) (n := 1) (Nat.le_of_ble_eq_true rfl)
  rw [lg_entry_eq]
  generalize (lg_sl ([.ref h0]) ++ List.replicate (1 - (lg_sl ([.ref h0])).length) Slot.unset).toArray = ls at hl ⊢
  have hl : lv_has ls 1 [(0, .ref h0)] := hl
  refine lv_aload_n hx hb dX0_next_0 rfl (lv_at hl 0 rfl) ?_
  refine lv_aload_n hx hb dX0_next_1 rfl (lv_at hl 0 rfl) ?_
  refine lv_aload_n hx hb dX0_next_2 rfl (lv_at hl 0 rfl) ?_
  refine va_get (D := (dC, dI)) (ci := 0) (v := .long cur) (C := RX0) (T := TX0) (N := 6) hx hb hts (by decide +kernel) hown hK hP 0 rfl rfl 5 (by decide) (hts (.fieldLink RX0 38 "PageIndex" "cursor" "J") (by decide +kernel)) (fun _ h9 => h9) rfl dX0_next_3 ?_
  refine lv_lconst (v := 1) hx hb dX0_next_6 (by decide) ?_
  refine lv_ladd hx hb dX0_next_7 ?_
  refine zw_eql (y := lN (zk_nx o)) (by rw [ec]; exact zk_o_succ o) ?_
  refine zw_ci (va_runV (As := [.long (lN (zk_nx o))]) (rest := [.ref h0]) ⟨hx, hb, hml, hown, hts⟩ (zc_keysBefore l dC dI h0 ha cA n f px py pz ks cur (zk_nx o) (zk_nx_le ho) hG) (cwV 1 hts gX0_next_X0_keysBefore rfl rfl rfl (by decide +kernel) ⟨Nat.le_of_ble_eq_true rfl, Nat.le_of_ble_eq_true rfl⟩) (zw_preV (ci := 0) (q0 := 0) hP hK rfl rfl) rfl rfl hl.1 rfl (lv_room (Nat.le_of_ble_eq_true rfl)) dX0_next_8 ⟨Nat.zero_le _, Nat.zero_le _⟩) ?_
  refine zw_callw (ws := zx_w h0 ha cA n f px py pz ks.length cur) (wc := zx_w h0 ha cA n f px py pz ks.length cur) (wr := []) (va_runV (As := [.int (nI (zk_c ks (zk_nx o)))]) (rest := []) ⟨hx, hb, hml, hown, hts⟩ (zc_standAt l dC dI h0 ha cA n f px py pz ks cur s.heap.size (nI (zk_c ks (zk_nx o))) hG) (cwV 1 hts gX0_next_X0_standAt rfl rfl rfl (by decide +kernel) ⟨Nat.le_of_ble_eq_true rfl, Nat.le_of_ble_eq_true rfl⟩) (zw_preWV (ci := 0) (q0 := 0) hP hK hD rfl rfl) rfl rfl hl.1 rfl (lv_room (Nat.le_of_ble_eq_true rfl)) dX0_next_11 ⟨Nat.le_of_ble_eq_true rfl, Nat.le_of_ble_eq_true rfl⟩) hP hD hS hA [0, 1] [] rfl rfl (by decide) (by decide) (fun u H locs hu hP hD hK hS => ?_)
  have hP : va_P (dC, dI) vwCl (zx_w h0 u.1 u.2.1 u.2.2.1 u.2.2.2 px py pz ks.length (zk_o (zs_at ks (nI (zk_c ks (zk_nx o)))))) H := hP
  have hD : va_D A (zx_w h0 u.1 u.2.1 u.2.2.1 u.2.2.2 px py pz ks.length (zk_o (zs_at ks (nI (zk_c ks (zk_nx o)))))) := hD
  refine W.eq (g2 := F0 m 14 ls (.int (zb_I (zs_at ks (nI (zk_c ks (zk_nx o)))).isSome) :: [])) rfl ?_
  exact W.zret hx hb hr (zb_nar _) (fun t ht hW => ⟨⟨u, rfl, hu, by rw [ht]; exact hP, va_K.moved hW.alike hK, hD⟩, hS.F ht⟩) hS.2.2 dX0_next_14
set_option maxHeartbeats 4000000 in
set_option maxRecDepth 100000 in
/-- previous() -/
theorem zc_previous (l : Launch) (dC : Nat → ClassId) (dI : Nat → Nat → Nat) (h0 ha : Nat) (cA : ClassId) (n : Nat) (f : Nat → Int64) (px py pz : Int32) (ks : List Nat) (cur : Int64) (sz : Nat) (o : Option Nat) (ho : ∀ z, o = some z → z < 1152921504606846976) (ec : cur = zk_o o) (hG : zk_G ks n f) : Met l yX0_previous wsX0_previous ({ frames := 1, cells := 0, slots := 0, locals := 25 }) (zw_Pw [.ref h0] (dC, dI) vwCl (zx_w h0 ha cA n f px py pz ks.length cur) [(cA, .long)] sz) (zx_Q dC dI h0 px py pz (some (.int (zb_I (zs_at ks (nI (zk_pv ks o) - 1)).isSome))) (ks) (zk_o (zs_at ks (nI (zk_pv ks o) - 1))) (va_A (zx_w h0 ha cA n f px py pz ks.length cur) sz)) 0 0 (va_A (zx_w h0 ha cA n f px py pz ks.length cur) sz) := by
  refine Met.ofW (cc := cX0_previous) (maxL := 2) (ret := (some .boolean)) (by decide) rfl ?_
  intro p e s m args below meth c s₁ B hml hv
  obtain ⟨rfl, hsz, hP, hK, hD0⟩ := hv
  have hx := B.exec
  have hb := B.bytes
  have hr := B.returns
  have hts := atoms_spec (ws := wsX0_previous) B.pre
  have hown : s.vm.findClass RX0 = some m.cls := findClass_of_methodNamed B.named
  subst hsz
  have hD := hD0.self (sz := s.heap.size)
  generalize hAe : va_A (zx_w h0 ha cA n f px py pz ks.length cur) s.heap.size = A at hD ⊢
  have hA : ∀ q : Nat, s.heap.size ≤ q → A q := fun q h => by rw [← hAe]; exact Or.inr h
  have hS : va_S A s.heap s.heap [] := va_S.rf
  have hP : va_P (dC, dI) vwCl (zx_w h0 ha cA n f px py pz ks.length cur) s.heap := hP
  have hl := lv_entry ([.ref h0]) (n := 2) (Nat.le_of_ble_eq_true rfl)
  rw [lg_entry_eq]
  generalize (lg_sl ([.ref h0]) ++ List.replicate (2 - (lg_sl ([.ref h0])).length) Slot.unset).toArray = ls at hl ⊢
  have hl : lv_has ls 2 [(0, .ref h0)] := hl
  cases o with
  | none =>
    refine lv_aload_n hx hb dX0_previous_0 rfl (lv_at hl 0 rfl) ?_
    refine va_get (D := (dC, dI)) (ci := 0) (v := .long cur) (C := RX0) (T := TX0) (N := 6) hx hb hts (by decide +kernel) hown hK hP 0 rfl rfl 5 (by decide) (hts (.fieldLink RX0 38 "PageIndex" "cursor" "J") (by decide +kernel)) (fun _ h9 => h9) rfl dX0_previous_1 ?_
    refine lv_ldc2 (v := (-1)) hx hb hown (hts (.constantLong RX0 36 (-1)) (by decide +kernel)) dX0_previous_4 ?_
    refine W.lcmp hx hb dX0_previous_7 ?_
    refine lv_if_ne (tgt := 18) hx hb dX0_previous_8 (by decide) (fun c_8 => absurd ((lg_cmp_eq _ _).mpr ec) c_8) (fun c_8 => ?_)
    refine lv_aload_n hx hb dX0_previous_11 rfl (lv_at hl 0 rfl) ?_
    refine va_get (D := (dC, dI)) (ci := 0) (v := .int (nI ks.length)) (C := RX0) (T := TX0) (N := 6) hx hb hts (by decide +kernel) hown hK hP 0 rfl rfl 4 (by decide) (hts (.fieldLink RX0 33 "PageIndex" "held" "I") (by decide +kernel)) (fun _ h9 => h9) rfl dX0_previous_12 ?_
    refine lv_goto (tgt := 26) hx hb dX0_previous_15 (by decide) ?_
    refine lv_istore_n (lv' := [(1, .int (nI ks.length)), (0, .ref h0)]) hx hb dX0_previous_26 rfl hl (by decide) rfl (fun ls hl => ?_)
    refine lv_aload_n hx hb dX0_previous_27 rfl (lv_at hl 1 rfl) ?_
    refine lv_iload_n hx hb dX0_previous_28 rfl (lv_at hl 0 rfl) ?_
    refine lv_iconst (v := 1) hx hb dX0_previous_29 (by decide) ?_
    refine lv_isub hx hb dX0_previous_30 ?_
    refine zw_callw (ws := zx_w h0 ha cA n f px py pz ks.length cur) (wc := zx_w h0 ha cA n f px py pz ks.length cur) (wr := []) (va_runV (As := [.int ((nI ks.length) - 1)]) (rest := []) ⟨hx, hb, hml, hown, hts⟩ (zc_standAt l dC dI h0 ha cA n f px py pz ks cur s.heap.size ((nI ks.length) - 1) hG) (cwV 1 hts gX0_previous_X0_standAt rfl rfl rfl (by decide +kernel) ⟨Nat.le_of_ble_eq_true rfl, Nat.le_of_ble_eq_true rfl⟩) (zw_preWV (ci := 0) (q0 := 0) hP hK hD rfl rfl) rfl rfl hl.1 rfl (lv_room (Nat.le_of_ble_eq_true rfl)) dX0_previous_31 ⟨Nat.le_of_ble_eq_true rfl, Nat.le_of_ble_eq_true rfl⟩) hP hD hS hA [0, 1] [] rfl rfl (by decide) (by decide) (fun u H locs hu hP hD hK hS => ?_)
    have hP : va_P (dC, dI) vwCl (zx_w h0 u.1 u.2.1 u.2.2.1 u.2.2.2 px py pz ks.length (zk_o (zs_at ks ((nI ks.length) - 1)))) H := hP
    have hD : va_D A (zx_w h0 u.1 u.2.1 u.2.2.1 u.2.2.2 px py pz ks.length (zk_o (zs_at ks ((nI ks.length) - 1)))) := hD
    refine W.eq (g2 := F0 m 34 ls (.int (zb_I (zs_at ks ((nI ks.length) - 1)).isSome) :: [])) rfl ?_
    exact W.zret hx hb hr (zb_nar _) (fun t ht hW => ⟨⟨u, rfl, hu, by rw [ht]; exact hP, va_K.moved hW.alike hK, hD⟩, hS.F ht⟩) hS.2.2 dX0_previous_34
  | some z =>
    refine lv_aload_n hx hb dX0_previous_0 rfl (lv_at hl 0 rfl) ?_
    refine va_get (D := (dC, dI)) (ci := 0) (v := .long cur) (C := RX0) (T := TX0) (N := 6) hx hb hts (by decide +kernel) hown hK hP 0 rfl rfl 5 (by decide) (hts (.fieldLink RX0 38 "PageIndex" "cursor" "J") (by decide +kernel)) (fun _ h9 => h9) rfl dX0_previous_1 ?_
    refine lv_ldc2 (v := (-1)) hx hb hown (hts (.constantLong RX0 36 (-1)) (by decide +kernel)) dX0_previous_4 ?_
    refine W.lcmp hx hb dX0_previous_7 ?_
    refine lv_if_ne (tgt := 18) hx hb dX0_previous_8 (by decide) (fun c_8 => ?_) (fun c_8 => absurd c_8 (fun q => zk_o_ne (ho z rfl) (ec.symm.trans ((lg_cmp_eq _ _).mp q))))
    refine lv_aload_n hx hb dX0_previous_18 rfl (lv_at hl 0 rfl) ?_
    refine lv_aload_n hx hb dX0_previous_19 rfl (lv_at hl 0 rfl) ?_
    refine va_get (D := (dC, dI)) (ci := 0) (v := .long cur) (C := RX0) (T := TX0) (N := 6) hx hb hts (by decide +kernel) hown hK hP 0 rfl rfl 5 (by decide) (hts (.fieldLink RX0 38 "PageIndex" "cursor" "J") (by decide +kernel)) (fun _ h9 => h9) rfl dX0_previous_20 ?_
    refine zw_eql (y := lN z) (ec) ?_
    refine zw_ci (va_runV (As := [.long (lN z)]) (rest := []) ⟨hx, hb, hml, hown, hts⟩ (zc_keysBefore l dC dI h0 ha cA n f px py pz ks cur z (Nat.le_of_lt (ho z rfl)) hG) (cwV 1 hts gX0_previous_X0_keysBefore rfl rfl rfl (by decide +kernel) ⟨Nat.le_of_ble_eq_true rfl, Nat.le_of_ble_eq_true rfl⟩) (zw_preV (ci := 0) (q0 := 0) hP hK rfl rfl) rfl rfl hl.1 rfl (lv_room (Nat.le_of_ble_eq_true rfl)) dX0_previous_23 ⟨Nat.zero_le _, Nat.zero_le _⟩) ?_
    refine lv_istore_n (lv' := [(1, .int (nI (zk_c ks z))), (0, .ref h0)]) hx hb dX0_previous_26 rfl hl (by decide) rfl (fun ls hl => ?_)
    refine lv_aload_n hx hb dX0_previous_27 rfl (lv_at hl 1 rfl) ?_
    refine lv_iload_n hx hb dX0_previous_28 rfl (lv_at hl 0 rfl) ?_
    refine lv_iconst (v := 1) hx hb dX0_previous_29 (by decide) ?_
    refine lv_isub hx hb dX0_previous_30 ?_
    refine zw_callw (ws := zx_w h0 ha cA n f px py pz ks.length cur) (wc := zx_w h0 ha cA n f px py pz ks.length cur) (wr := []) (va_runV (As := [.int ((nI (zk_c ks z)) - 1)]) (rest := []) ⟨hx, hb, hml, hown, hts⟩ (zc_standAt l dC dI h0 ha cA n f px py pz ks cur s.heap.size ((nI (zk_c ks z)) - 1) hG) (cwV 1 hts gX0_previous_X0_standAt rfl rfl rfl (by decide +kernel) ⟨Nat.le_of_ble_eq_true rfl, Nat.le_of_ble_eq_true rfl⟩) (zw_preWV (ci := 0) (q0 := 0) hP hK hD rfl rfl) rfl rfl hl.1 rfl (lv_room (Nat.le_of_ble_eq_true rfl)) dX0_previous_31 ⟨Nat.le_of_ble_eq_true rfl, Nat.le_of_ble_eq_true rfl⟩) hP hD hS hA [0, 1] [] rfl rfl (by decide) (by decide) (fun u H locs hu hP hD hK hS => ?_)
    have hP : va_P (dC, dI) vwCl (zx_w h0 u.1 u.2.1 u.2.2.1 u.2.2.2 px py pz ks.length (zk_o (zs_at ks ((nI (zk_c ks z)) - 1)))) H := hP
    have hD : va_D A (zx_w h0 u.1 u.2.1 u.2.2.1 u.2.2.2 px py pz ks.length (zk_o (zs_at ks ((nI (zk_c ks z)) - 1)))) := hD
    refine W.eq (g2 := F0 m 34 ls (.int (zb_I (zs_at ks ((nI (zk_c ks z)) - 1)).isSome) :: [])) rfl ?_
    exact W.zret hx hb hr (zb_nar _) (fun t ht hW => ⟨⟨u, rfl, hu, by rw [ht]; exact hP, va_K.moved hW.alike hK, hD⟩, hS.F ht⟩) hS.2.2 dX0_previous_34
set_option maxHeartbeats 4000000 in
set_option maxRecDepth 100000 in
/-- takeOut(a, b) -/
theorem zc_takeOut (l : Launch) (dC : Nat → ClassId) (dI : Nat → Nat → Nat) (h0 ha : Nat) (cA : ClassId) (n : Nat) (f : Nat → Int64) (px py pz : Int32) (ks : List Nat) (cur : Int64) (sz : Nat) (a b : Nat) (hab : a ≤ b) (hbl : b ≤ ks.length) (hG : zk_G ks n f) : Met l yX0_takeOut wsX0_takeOut ({ frames := 1, cells := 0, slots := 0, locals := 60 }) (zw_Pw [.ref h0, .int (nI a), .int (nI b)] (dC, dI) vwCl (zx_w h0 ha cA n f px py pz ks.length cur) [(cA, .long)] sz) (zx_Q dC dI h0 px py pz (none) (zk_del ks a b) (cur) (va_A (zx_w h0 ha cA n f px py pz ks.length cur) sz)) 0 0 (va_A (zx_w h0 ha cA n f px py pz ks.length cur) sz) := by
  refine Met.ofW (cc := cX0_takeOut) (maxL := 3) (ret := none) (by decide) rfl ?_
  intro p e s m args below meth c s₁ B hml hv
  obtain ⟨rfl, hsz, hP, hK, hD0⟩ := hv
  have hx := B.exec
  have hb := B.bytes
  have hr := B.returns
  have hts := atoms_spec (ws := wsX0_takeOut) B.pre
  have hown : s.vm.findClass RX0 = some m.cls := findClass_of_methodNamed B.named
  subst hsz
  have hD := hD0.self (sz := s.heap.size)
  generalize hAe : va_A (zx_w h0 ha cA n f px py pz ks.length cur) s.heap.size = A at hD ⊢
  have hA : ∀ q : Nat, s.heap.size ≤ q → A q := fun q h => by rw [← hAe]; exact Or.inr h
  have hS : va_S A s.heap s.heap [] := va_S.rf
  have hP : va_P (dC, dI) vwCl (zx_w h0 ha cA n f px py pz ks.length cur) s.heap := hP
  have hl := lv_entry ([.ref h0, .int (nI a), .int (nI b)]) (n := 3) (Nat.le_of_ble_eq_true rfl)
  rw [lg_entry_eq]
  generalize (lg_sl ([.ref h0, .int (nI a), .int (nI b)]) ++ List.replicate (3 - (lg_sl ([.ref h0, .int (nI a), .int (nI b)])).length) Slot.unset).toArray = ls at hl ⊢
  have hl : lv_has ls 3 [(0, .ref h0), (1, .int (nI a)), (2, .int (nI b))] := hl
  have hn3 := hG.2.2
  refine lv_aload_n hx hb dX0_takeOut_0 rfl (lv_at hl 0 rfl) ?_
  refine va_get (D := (dC, dI)) (ci := 0) (v := .ref ha) (C := RX0) (T := TX0) (N := 6) hx hb hts (by decide +kernel) hown hK hP 0 rfl rfl 3 (by decide) (hts (.fieldLink RX0 29 "PageIndex" "keys" "[J") (by decide +kernel)) (fun _ h9 => h9) rfl dX0_takeOut_1 ?_
  refine lv_iload_n hx hb dX0_takeOut_4 rfl (lv_at hl 2 rfl) ?_
  refine lv_aload_n hx hb dX0_takeOut_5 rfl (lv_at hl 0 rfl) ?_
  refine va_get (D := (dC, dI)) (ci := 0) (v := .ref ha) (C := RX0) (T := TX0) (N := 6) hx hb hts (by decide +kernel) hown hK hP 0 rfl rfl 3 (by decide) (hts (.fieldLink RX0 29 "PageIndex" "keys" "[J") (by decide +kernel)) (fun _ h9 => h9) rfl dX0_takeOut_6 ?_
  refine lv_iload_n hx hb dX0_takeOut_9 rfl (lv_at hl 1 rfl) ?_
  refine lv_aload_n hx hb dX0_takeOut_10 rfl (lv_at hl 0 rfl) ?_
  refine va_get (D := (dC, dI)) (ci := 0) (v := .int (nI ks.length)) (C := RX0) (T := TX0) (N := 6) hx hb hts (by decide +kernel) hown hK hP 0 rfl rfl 4 (by decide) (hts (.fieldLink RX0 33 "PageIndex" "held" "I") (by decide +kernel)) (fun _ h9 => h9) rfl dX0_takeOut_11 ?_
  refine lv_iload_n hx hb dX0_takeOut_14 rfl (lv_at hl 2 rfl) ?_
  refine lv_isub hx hb dX0_takeOut_15 ?_
  refine zw_eqi (y := nI (ks.length - b)) (pk_sub (by omega)) ?_
  refine va_copyl (ty := .long) hx hb (hml.trans hl.1.symm) hown (hts (.methodLink RX0 120 arraycopyName) (by decide +kernel)) (hts (.native arraycopyName) (by decide +kernel)) (hts (.static arraycopyName) (by decide +kernel)) (hts (.initialized "java/lang/System") (by decide +kernel)) hK hP hD hS 1 1 0 0 rfl rfl rfl rfl rfl (nI_pos (by omega)) (nI_pos (by omega)) (nI_pos (by omega)) (by rw [nI_clamp (by omega), nI_clamp (by omega)]; omega) (by rw [nI_clamp (by omega), nI_clamp (by omega)]; omega) (fun _ _ => rfl) (Nat.le_of_ble_eq_true rfl) (Nat.le_of_ble_eq_true rfl) dX0_takeOut_16 (fun H locs hP hD hS => ?_)
  rw [nI_clamp (n := b) (by omega), nI_clamp (n := a) (by omega), nI_clamp (n := ks.length - b) (by omega)] at hP hD
  have hP : va_P (dC, dI) vwCl (zx_w h0 ha cA n (va_cpy f f b a (ks.length - b)) px py pz ks.length cur) H := hP
  have hD : va_D A (zx_w h0 ha cA n (va_cpy f f b a (ks.length - b)) px py pz ks.length cur) := hD
  refine lv_aload_n hx hb dX0_takeOut_19 rfl (lv_at hl 0 rfl) ?_
  refine lv_dup hx hb dX0_takeOut_20 rfl ?_
  refine va_get (D := (dC, dI)) (ci := 0) (v := .int (nI ks.length)) (C := RX0) (T := TX0) (N := 6) hx hb hts (by decide +kernel) hown hK hP 0 rfl rfl 4 (by decide) (hts (.fieldLink RX0 33 "PageIndex" "held" "I") (by decide +kernel)) (fun _ h9 => h9) rfl dX0_takeOut_21 ?_
  refine lv_iload_n hx hb dX0_takeOut_24 rfl (lv_at hl 2 rfl) ?_
  refine lv_iload_n hx hb dX0_takeOut_25 rfl (lv_at hl 1 rfl) ?_
  refine lv_isub hx hb dX0_takeOut_26 ?_
  refine zw_eqi (y := nI (b - a)) (pk_sub hab) ?_
  refine lv_isub hx hb dX0_takeOut_27 ?_
  refine zw_eqi (y := nI (zk_del ks a b).length) (by rw [pk_sub (by omega), zk_del_len hab hbl]) ?_
  refine va_put (D := (dC, dI)) (ci := 0) (v := .int (nI (zk_del ks a b).length)) (ty := .int) (C := RX0) (T := TX0) (N := 6) hx hb hts (by decide +kernel) tyX0 tyX0_ok nmX0 hown hK hP hD hS 0 rfl rfl 4 (by decide) (hts (.fieldLink RX0 33 "PageIndex" "held" "I") (by decide +kernel)) (fun _ h9 => h9) rfl (by decide +kernel) rfl rfl (Nat.le_of_ble_eq_true rfl) dX0_takeOut_28 (fun H locs hP hD hS => ?_)
  have hP : va_P (dC, dI) vwCl (zx_w h0 ha cA n (va_cpy f f b a (ks.length - b)) px py pz ((zk_del ks a b).length) cur) H := hP
  have hD : va_D A (zx_w h0 ha cA n (va_cpy f f b a (ks.length - b)) px py pz ((zk_del ks a b).length) cur) := hD
  exact W.vret hx hb hr (fun t ht hW => ⟨⟨(ha, cA, n, va_cpy f f b a (ks.length - b)), rfl, zk_G_del hG hab hbl, by rw [ht]; exact hP, va_K.moved hW.alike hK, hD⟩, hS.F ht⟩) hS.2.2 dX0_takeOut_31
set_option maxHeartbeats 4000000 in
set_option maxRecDepth 100000 in
/-- remove(x, y, z) -/
theorem zc_remove (l : Launch) (dC : Nat → ClassId) (dI : Nat → Nat → Nat) (h0 ha : Nat) (cA : ClassId) (n : Nat) (f : Nat → Int64) (px py pz : Int32) (ks : List Nat) (cur : Int64) (sz : Nat) (x : Int32) (y : Int32) (z : Int32) (k : Nat) (hk : zf_nn x y z = true → zf_kt px py pz x y z = lN k ∧ k < 1152921504606846976) (hG : zk_G ks n f) : Met l yX0_remove wsX0_remove ({ frames := 2, cells := 0, slots := 0, locals := 82 }) (zw_Pw [.ref h0, .int x, .int y, .int z] (dC, dI) vwCl (zx_w h0 ha cA n f px py pz ks.length cur) [(cA, .long)] sz) (zx_Q dC dI h0 px py pz (some (.int (cond (zf_nn x y z) (cond (decide (k ∈ ks)) 1 0) (-1)))) (cond (zf_nn x y z) (cond (decide (k ∈ ks)) (zk_del ks (zk_c ks k) (zk_c ks k + 1)) ks) ks) (cur) (va_A (zx_w h0 ha cA n f px py pz ks.length cur) sz)) 0 0 (va_A (zx_w h0 ha cA n f px py pz ks.length cur) sz) := by
  refine Met.ofW (cc := cX0_remove) (maxL := 7) (ret := (some .int)) (by decide) rfl ?_
  intro p e s m args below meth c s₁ B hml hv
  obtain ⟨rfl, hsz, hP, hK, hD0⟩ := hv
  have hx := B.exec
  have hb := B.bytes
  have hr := B.returns
  have hts := atoms_spec (ws := wsX0_remove) B.pre
  have hown : s.vm.findClass RX0 = some m.cls := findClass_of_methodNamed B.named
  subst hsz
  have hD := hD0.self (sz := s.heap.size)
  generalize hAe : va_A (zx_w h0 ha cA n f px py pz ks.length cur) s.heap.size = A at hD ⊢
  have hA : ∀ q : Nat, s.heap.size ≤ q → A q := fun q h => by rw [← hAe]; exact Or.inr h
  have hS : va_S A s.heap s.heap [] := va_S.rf
  have hP : va_P (dC, dI) vwCl (zx_w h0 ha cA n f px py pz ks.length cur) s.heap := hP
  have hl := lv_entry ([.ref h0, .int x, .int y, .int z]) (n := 7) (Nat.le_of_ble_eq_true rfl)
  rw [lg_entry_eq]
  generalize (lg_sl ([.ref h0, .int x, .int y, .int z]) ++ List.replicate (7 - (lg_sl ([.ref h0, .int x, .int y, .int z])).length) Slot.unset).toArray = ls at hl ⊢
  have hl : lv_has ls 7 [(0, .ref h0), (1, .int x), (2, .int y), (3, .int z)] := hl
  cases hz : zf_nn x y z with
  | false =>
    refine lv_iload_n hx hb dX0_remove_0 rfl (lv_at hl 1 rfl) ?_
    refine lv_iload_n hx hb dX0_remove_1 rfl (lv_at hl 2 rfl) ?_
    refine lv_iload_n hx hb dX0_remove_2 rfl (lv_at hl 3 rfl) ?_
    refine zw_ci (va_runS (As := [.int x, .int y, .int z]) (rest := []) ⟨hx, hb, hml, hown, hts⟩ (zc_areNumbers l x y z) (va_cwS 3 hts gX0_remove_X0_areNumbers rfl rfl rfl (by decide +kernel) ⟨Nat.le_of_ble_eq_true rfl, Nat.le_of_ble_eq_true rfl⟩) (preEq) rfl rfl hl.1 rfl (lv_room (Nat.le_of_ble_eq_true rfl)) dX0_remove_3 ⟨Nat.zero_le _, Nat.zero_le _⟩) ?_
    refine zw_ifne (tgt := 11) hx hb dX0_remove_6 (by decide) (fun c_6 => absurd ((hz).symm.trans c_6) (by decide)) (fun c_6 => ?_)
    refine lv_iconst (v := (-1)) hx hb dX0_remove_9 (by decide) ?_
    exact W.iret hx hb hr (fun t ht hW => ⟨⟨(ha, cA, n, f), rfl, hG, by rw [ht]; exact hP, va_K.moved hW.alike hK, hD⟩, hS.F ht⟩) hS.2.2 dX0_remove_10
  | true =>
    cases hm : decide (k ∈ ks) with
    | false =>
      refine lv_iload_n hx hb dX0_remove_0 rfl (lv_at hl 1 rfl) ?_
      refine lv_iload_n hx hb dX0_remove_1 rfl (lv_at hl 2 rfl) ?_
      refine lv_iload_n hx hb dX0_remove_2 rfl (lv_at hl 3 rfl) ?_
      refine zw_ci (va_runS (As := [.int x, .int y, .int z]) (rest := []) ⟨hx, hb, hml, hown, hts⟩ (zc_areNumbers l x y z) (va_cwS 3 hts gX0_remove_X0_areNumbers rfl rfl rfl (by decide +kernel) ⟨Nat.le_of_ble_eq_true rfl, Nat.le_of_ble_eq_true rfl⟩) (preEq) rfl rfl hl.1 rfl (lv_room (Nat.le_of_ble_eq_true rfl)) dX0_remove_3 ⟨Nat.zero_le _, Nat.zero_le _⟩) ?_
      refine zw_ifne (tgt := 11) hx hb dX0_remove_6 (by decide) (fun c_6 => ?_) (fun c_6 => absurd ((hz).symm.trans c_6) (by decide))
      refine lv_aload_n hx hb dX0_remove_11 rfl (lv_at hl 0 rfl) ?_
      refine lv_iload_n hx hb dX0_remove_12 rfl (lv_at hl 1 rfl) ?_
      refine lv_iload_n hx hb dX0_remove_13 rfl (lv_at hl 2 rfl) ?_
      refine lv_iload_n hx hb dX0_remove_14 rfl (lv_at hl 3 rfl) ?_
      refine zw_cl (va_runV (As := [.int x, .int y, .int z]) (rest := []) ⟨hx, hb, hml, hown, hts⟩ (zc_keyOfTriple l dC dI h0 ha cA n f px py pz ks cur x y z) (cwV 3 hts gX0_remove_X0_keyOfTriple rfl rfl rfl (by decide +kernel) ⟨Nat.le_of_ble_eq_true rfl, Nat.le_of_ble_eq_true rfl⟩) (zw_preV (ci := 0) (q0 := 0) hP hK rfl rfl) rfl rfl hl.1 rfl (lv_room (Nat.le_of_ble_eq_true rfl)) dX0_remove_15 ⟨Nat.zero_le _, Nat.zero_le _⟩) ?_
      refine zw_eql (y := lN k) ((hk hz).1) ?_
      refine lv_lstore (lv' := [(4, .long (lN k)), (0, .ref h0), (1, .int x), (2, .int y), (3, .int z)]) hx hb dX0_remove_18 hl (by decide) rfl (fun ls hl => ?_)
      refine lv_aload_n hx hb dX0_remove_20 rfl (lv_at hl 1 rfl) ?_
      refine lv_lload hx hb dX0_remove_21 (lv_at hl 0 rfl) ?_
      refine zw_ci (va_runV (As := [.long (lN k)]) (rest := []) ⟨hx, hb, hml, hown, hts⟩ (zc_keysBefore l dC dI h0 ha cA n f px py pz ks cur k (Nat.le_of_lt (hk hz).2) hG) (cwV 1 hts gX0_remove_X0_keysBefore rfl rfl rfl (by decide +kernel) ⟨Nat.le_of_ble_eq_true rfl, Nat.le_of_ble_eq_true rfl⟩) (zw_preV (ci := 0) (q0 := 0) hP hK rfl rfl) rfl rfl hl.1 rfl (lv_room (Nat.le_of_ble_eq_true rfl)) dX0_remove_23 ⟨Nat.zero_le _, Nat.zero_le _⟩) ?_
      refine lv_istore (lv' := [(6, .int (nI (zk_c ks k))), (4, .long (lN k)), (0, .ref h0), (1, .int x), (2, .int y), (3, .int z)]) hx hb dX0_remove_26 hl (by decide) rfl (fun ls hl => ?_)
      refine lv_aload_n hx hb dX0_remove_28 rfl (lv_at hl 2 rfl) ?_
      refine lv_iload hx hb dX0_remove_29 (lv_at hl 0 rfl) ?_
      refine lv_lload hx hb dX0_remove_31 (lv_at hl 1 rfl) ?_
      refine zw_ci (va_runV (As := [.int (nI (zk_c ks k)), .long (lN k)]) (rest := []) ⟨hx, hb, hml, hown, hts⟩ (zc_isKeyAt l dC dI h0 ha cA n f px py pz ks cur (zk_c ks k) k (zk_c_le ks k) (Nat.le_of_lt (hk hz).2) hG) (cwV 2 hts gX0_remove_X0_isKeyAt rfl rfl rfl (by decide +kernel) ⟨Nat.le_of_ble_eq_true rfl, Nat.le_of_ble_eq_true rfl⟩) (zw_preV (ci := 0) (q0 := 0) hP hK rfl rfl) rfl rfl hl.1 rfl (lv_room (Nat.le_of_ble_eq_true rfl)) dX0_remove_33 ⟨Nat.zero_le _, Nat.zero_le _⟩) ?_
      refine zw_eqi (y := zb_I (decide (k ∈ ks))) (by rw [zk_mem_b hG.1]) ?_
      refine zw_ifne (tgt := 41) hx hb dX0_remove_36 (by decide) (fun c_36 => absurd ((hm).symm.trans c_36) (by decide)) (fun c_36 => ?_)
      refine lv_iconst (v := 0) hx hb dX0_remove_39 (by decide) ?_
      exact W.iret hx hb hr (fun t ht hW => ⟨⟨(ha, cA, n, f), rfl, hG, by rw [ht]; exact hP, va_K.moved hW.alike hK, hD⟩, hS.F ht⟩) hS.2.2 dX0_remove_40
    | true =>
      have hkm := of_decide_eq_true hm
      have hc1 := ((zk_mem_iff hG.1).mp hkm).1
      have hn3 := hG.2.2
      refine lv_iload_n hx hb dX0_remove_0 rfl (lv_at hl 1 rfl) ?_
      refine lv_iload_n hx hb dX0_remove_1 rfl (lv_at hl 2 rfl) ?_
      refine lv_iload_n hx hb dX0_remove_2 rfl (lv_at hl 3 rfl) ?_
      refine zw_ci (va_runS (As := [.int x, .int y, .int z]) (rest := []) ⟨hx, hb, hml, hown, hts⟩ (zc_areNumbers l x y z) (va_cwS 3 hts gX0_remove_X0_areNumbers rfl rfl rfl (by decide +kernel) ⟨Nat.le_of_ble_eq_true rfl, Nat.le_of_ble_eq_true rfl⟩) (preEq) rfl rfl hl.1 rfl (lv_room (Nat.le_of_ble_eq_true rfl)) dX0_remove_3 ⟨Nat.zero_le _, Nat.zero_le _⟩) ?_
      refine zw_ifne (tgt := 11) hx hb dX0_remove_6 (by decide) (fun c_6 => ?_) (fun c_6 => absurd ((hz).symm.trans c_6) (by decide))
      refine lv_aload_n hx hb dX0_remove_11 rfl (lv_at hl 0 rfl) ?_
      refine lv_iload_n hx hb dX0_remove_12 rfl (lv_at hl 1 rfl) ?_
      refine lv_iload_n hx hb dX0_remove_13 rfl (lv_at hl 2 rfl) ?_
      refine lv_iload_n hx hb dX0_remove_14 rfl (lv_at hl 3 rfl) ?_
      refine zw_cl (va_runV (As := [.int x, .int y, .int z]) (rest := []) ⟨hx, hb, hml, hown, hts⟩ (zc_keyOfTriple l dC dI h0 ha cA n f px py pz ks cur x y z) (cwV 3 hts gX0_remove_X0_keyOfTriple rfl rfl rfl (by decide +kernel) ⟨Nat.le_of_ble_eq_true rfl, Nat.le_of_ble_eq_true rfl⟩) (zw_preV (ci := 0) (q0 := 0) hP hK rfl rfl) rfl rfl hl.1 rfl (lv_room (Nat.le_of_ble_eq_true rfl)) dX0_remove_15 ⟨Nat.zero_le _, Nat.zero_le _⟩) ?_
      refine zw_eql (y := lN k) ((hk hz).1) ?_
      refine lv_lstore (lv' := [(4, .long (lN k)), (0, .ref h0), (1, .int x), (2, .int y), (3, .int z)]) hx hb dX0_remove_18 hl (by decide) rfl (fun ls hl => ?_)
      refine lv_aload_n hx hb dX0_remove_20 rfl (lv_at hl 1 rfl) ?_
      refine lv_lload hx hb dX0_remove_21 (lv_at hl 0 rfl) ?_
      refine zw_ci (va_runV (As := [.long (lN k)]) (rest := []) ⟨hx, hb, hml, hown, hts⟩ (zc_keysBefore l dC dI h0 ha cA n f px py pz ks cur k (Nat.le_of_lt (hk hz).2) hG) (cwV 1 hts gX0_remove_X0_keysBefore rfl rfl rfl (by decide +kernel) ⟨Nat.le_of_ble_eq_true rfl, Nat.le_of_ble_eq_true rfl⟩) (zw_preV (ci := 0) (q0 := 0) hP hK rfl rfl) rfl rfl hl.1 rfl (lv_room (Nat.le_of_ble_eq_true rfl)) dX0_remove_23 ⟨Nat.zero_le _, Nat.zero_le _⟩) ?_
      refine lv_istore (lv' := [(6, .int (nI (zk_c ks k))), (4, .long (lN k)), (0, .ref h0), (1, .int x), (2, .int y), (3, .int z)]) hx hb dX0_remove_26 hl (by decide) rfl (fun ls hl => ?_)
      refine lv_aload_n hx hb dX0_remove_28 rfl (lv_at hl 2 rfl) ?_
      refine lv_iload hx hb dX0_remove_29 (lv_at hl 0 rfl) ?_
      refine lv_lload hx hb dX0_remove_31 (lv_at hl 1 rfl) ?_
      refine zw_ci (va_runV (As := [.int (nI (zk_c ks k)), .long (lN k)]) (rest := []) ⟨hx, hb, hml, hown, hts⟩ (zc_isKeyAt l dC dI h0 ha cA n f px py pz ks cur (zk_c ks k) k (zk_c_le ks k) (Nat.le_of_lt (hk hz).2) hG) (cwV 2 hts gX0_remove_X0_isKeyAt rfl rfl rfl (by decide +kernel) ⟨Nat.le_of_ble_eq_true rfl, Nat.le_of_ble_eq_true rfl⟩) (zw_preV (ci := 0) (q0 := 0) hP hK rfl rfl) rfl rfl hl.1 rfl (lv_room (Nat.le_of_ble_eq_true rfl)) dX0_remove_33 ⟨Nat.zero_le _, Nat.zero_le _⟩) ?_
      refine zw_eqi (y := zb_I (decide (k ∈ ks))) (by rw [zk_mem_b hG.1]) ?_
      refine zw_ifne (tgt := 41) hx hb dX0_remove_36 (by decide) (fun c_36 => ?_) (fun c_36 => absurd ((hm).symm.trans c_36) (by decide))
      refine lv_aload_n hx hb dX0_remove_41 rfl (lv_at hl 2 rfl) ?_
      refine lv_iload hx hb dX0_remove_42 (lv_at hl 0 rfl) ?_
      refine lv_iload hx hb dX0_remove_44 (lv_at hl 0 rfl) ?_
      refine lv_iconst (v := 1) hx hb dX0_remove_46 (by decide) ?_
      refine lv_iadd hx hb dX0_remove_47 ?_
      refine zw_eqi (y := nI (zk_c ks k + 1)) (nI_1 _) ?_
      refine zw_callw (ws := zx_w h0 ha cA n f px py pz ks.length cur) (wc := zx_w h0 ha cA n f px py pz ks.length cur) (wr := []) (va_runV (As := [.int (nI (zk_c ks k)), .int (nI (zk_c ks k + 1))]) (rest := []) ⟨hx, hb, hml, hown, hts⟩ (zc_takeOut l dC dI h0 ha cA n f px py pz ks cur s.heap.size (zk_c ks k) (zk_c ks k + 1) (Nat.le_succ _) (hc1) hG) (cwV 2 hts gX0_remove_X0_takeOut rfl rfl rfl (by decide +kernel) ⟨Nat.le_of_ble_eq_true rfl, Nat.le_of_ble_eq_true rfl⟩) (zw_preWV (ci := 0) (q0 := 0) hP hK hD rfl rfl) rfl rfl hl.1 rfl (lv_room (Nat.le_of_ble_eq_true rfl)) dX0_remove_48 ⟨Nat.le_of_ble_eq_true rfl, Nat.le_of_ble_eq_true rfl⟩) hP hD hS hA [0, 1] [] rfl rfl (by decide) (by decide) (fun u H locs hu hP hD hK hS => ?_)
      have hP : va_P (dC, dI) vwCl (zx_w h0 u.1 u.2.1 u.2.2.1 u.2.2.2 px py pz ((zk_del ks (zk_c ks k) (zk_c ks k + 1)).length) cur) H := hP
      have hD : va_D A (zx_w h0 u.1 u.2.1 u.2.2.1 u.2.2.2 px py pz ((zk_del ks (zk_c ks k) (zk_c ks k + 1)).length) cur) := hD
      refine W.eq (g2 := F0 m 51 ls []) rfl ?_
      refine lv_iconst (v := 1) hx hb dX0_remove_51 (by decide) ?_
      exact W.iret hx hb hr (fun t ht hW => ⟨⟨u, rfl, hu, by rw [ht]; exact hP, va_K.moved hW.alike hK, hD⟩, hS.F ht⟩) hS.2.2 dX0_remove_52
set_option maxHeartbeats 4000000 in
set_option maxRecDepth 100000 in
/-- cut(v, a, b, d) -/
theorem zc_cut (l : Launch) (dC : Nat → ClassId) (dI : Nat → Nat → Nat) (h0 ha : Nat) (cA : ClassId) (n : Nat) (f : Nat → Int64) (px py pz : Int32) (ks : List Nat) (cur : Int64) (sz : Nat) (v : Int32) (a : Int32) (b : Int32) (d : Int32) (hG : zk_G ks n f) : Met l yX0_cut wsX0_cut ({ frames := 4, cells := 0, slots := 0, locals := 89 }) (zw_Pw [.ref h0, .int v, .int a, .int b, .int d] (dC, dI) vwCl (zx_w h0 ha cA n f px py pz ks.length cur) [(cA, .long)] sz) (zx_Q dC dI h0 px py pz (some (.int (cond (zs_bad v) (-1) (nI (zk_en ks v a b d) - nI (zk_st ks v a b d))))) (cond (zs_bad v) ks (zk_del ks (zk_st ks v a b d) (zk_en ks v a b d))) (cur) (va_A (zx_w h0 ha cA n f px py pz ks.length cur) sz)) 0 0 (va_A (zx_w h0 ha cA n f px py pz ks.length cur) sz) := by
  refine Met.ofW (cc := cX0_cut) (maxL := 7) (ret := (some .int)) (by decide) rfl ?_
  intro p e s m args below meth c s₁ B hml hv
  obtain ⟨rfl, hsz, hP, hK, hD0⟩ := hv
  have hx := B.exec
  have hb := B.bytes
  have hr := B.returns
  have hts := atoms_spec (ws := wsX0_cut) B.pre
  have hown : s.vm.findClass RX0 = some m.cls := findClass_of_methodNamed B.named
  subst hsz
  have hD := hD0.self (sz := s.heap.size)
  generalize hAe : va_A (zx_w h0 ha cA n f px py pz ks.length cur) s.heap.size = A at hD ⊢
  have hA : ∀ q : Nat, s.heap.size ≤ q → A q := fun q h => by rw [← hAe]; exact Or.inr h
  have hS : va_S A s.heap s.heap [] := va_S.rf
  have hP : va_P (dC, dI) vwCl (zx_w h0 ha cA n f px py pz ks.length cur) s.heap := hP
  have hl := lv_entry ([.ref h0, .int v, .int a, .int b, .int d]) (n := 7) (Nat.le_of_ble_eq_true rfl)
  rw [lg_entry_eq]
  generalize (lg_sl ([.ref h0, .int v, .int a, .int b, .int d]) ++ List.replicate (7 - (lg_sl ([.ref h0, .int v, .int a, .int b, .int d])).length) Slot.unset).toArray = ls at hl ⊢
  have hl : lv_has ls 7 [(0, .ref h0), (1, .int v), (2, .int a), (3, .int b), (4, .int d)] := hl
  cases hz : zs_bad v with
  | false =>
    have c1 : ¬ v < 0 := by intro q; simp [zs_bad, q] at hz
    have c6 : v ≤ 3 := by
      rcases Decidable.em (v ≤ 3) with q | q
      · exact q
      · exact absurd hz (by simp [zs_bad, q])
    obtain ⟨i, hi, ev⟩ := nI_of2 (x := v) (M := 3) (n := 3) (by decide) c1 c6
    have hse := zk_se hG.1 hG.2.1 (i := i) (v := v) (a := a) (b := b) (d := d) hi ev
    refine lv_iload_n hx hb dX0_cut_0 rfl (lv_at hl 1 rfl) ?_
    refine lv_if_lt (tgt := 9) hx hb dX0_cut_1 (by decide) (fun c_1 => absurd c_1 (c1)) (fun c_1 => ?_)
    refine lv_iload_n hx hb dX0_cut_4 rfl (lv_at hl 1 rfl) ?_
    refine lv_iconst (v := 3) hx hb dX0_cut_5 (by decide) ?_
    refine lv_icmp_le (tgt := 11) hx hb dX0_cut_6 (by decide) (fun c_6 => ?_) (fun c_6 => absurd (c6) c_6)
    refine lv_aload_n hx hb dX0_cut_11 rfl (lv_at hl 0 rfl) ?_
    refine lv_iload_n hx hb dX0_cut_12 rfl (lv_at hl 1 rfl) ?_
    refine lv_iload_n hx hb dX0_cut_13 rfl (lv_at hl 2 rfl) ?_
    refine lv_iload_n hx hb dX0_cut_14 rfl (lv_at hl 3 rfl) ?_
    refine lv_iload hx hb dX0_cut_15 (lv_at hl 4 rfl) ?_
    refine zw_ci (va_runV (As := [.int v, .int a, .int b, .int d]) (rest := []) ⟨hx, hb, hml, hown, hts⟩ (zc_startOf l dC dI h0 ha cA n f px py pz ks cur v a b d i hi ev hG) (cwV 4 hts gX0_cut_X0_startOf rfl rfl rfl (by decide +kernel) ⟨Nat.le_of_ble_eq_true rfl, Nat.le_of_ble_eq_true rfl⟩) (zw_preV (ci := 0) (q0 := 0) hP hK rfl rfl) rfl rfl hl.1 rfl (lv_room (Nat.le_of_ble_eq_true rfl)) dX0_cut_17 ⟨Nat.zero_le _, Nat.zero_le _⟩) ?_
    refine lv_istore (lv' := [(5, .int (nI (zk_st ks v a b d))), (0, .ref h0), (1, .int v), (2, .int a), (3, .int b), (4, .int d)]) hx hb dX0_cut_20 hl (by decide) rfl (fun ls hl => ?_)
    refine lv_aload_n hx hb dX0_cut_22 rfl (lv_at hl 1 rfl) ?_
    refine lv_iload_n hx hb dX0_cut_23 rfl (lv_at hl 2 rfl) ?_
    refine lv_iload_n hx hb dX0_cut_24 rfl (lv_at hl 3 rfl) ?_
    refine lv_iload_n hx hb dX0_cut_25 rfl (lv_at hl 4 rfl) ?_
    refine lv_iload hx hb dX0_cut_26 (lv_at hl 5 rfl) ?_
    refine zw_ci (va_runV (As := [.int v, .int a, .int b, .int d]) (rest := []) ⟨hx, hb, hml, hown, hts⟩ (zc_endOf l dC dI h0 ha cA n f px py pz ks cur v a b d i hi ev hG) (cwV 4 hts gX0_cut_X0_endOf rfl rfl rfl (by decide +kernel) ⟨Nat.le_of_ble_eq_true rfl, Nat.le_of_ble_eq_true rfl⟩) (zw_preV (ci := 0) (q0 := 0) hP hK rfl rfl) rfl rfl hl.1 rfl (lv_room (Nat.le_of_ble_eq_true rfl)) dX0_cut_28 ⟨Nat.zero_le _, Nat.zero_le _⟩) ?_
    refine lv_istore (lv' := [(6, .int (nI (zk_en ks v a b d))), (5, .int (nI (zk_st ks v a b d))), (0, .ref h0), (1, .int v), (2, .int a), (3, .int b), (4, .int d)]) hx hb dX0_cut_31 hl (by decide) rfl (fun ls hl => ?_)
    refine lv_aload_n hx hb dX0_cut_33 rfl (lv_at hl 2 rfl) ?_
    refine lv_iload hx hb dX0_cut_34 (lv_at hl 1 rfl) ?_
    refine lv_iload hx hb dX0_cut_36 (lv_at hl 0 rfl) ?_
    refine zw_callw (ws := zx_w h0 ha cA n f px py pz ks.length cur) (wc := zx_w h0 ha cA n f px py pz ks.length cur) (wr := []) (va_runV (As := [.int (nI (zk_st ks v a b d)), .int (nI (zk_en ks v a b d))]) (rest := []) ⟨hx, hb, hml, hown, hts⟩ (zc_takeOut l dC dI h0 ha cA n f px py pz ks cur s.heap.size (zk_st ks v a b d) (zk_en ks v a b d) (hse.1) (hse.2.1) hG) (cwV 2 hts gX0_cut_X0_takeOut rfl rfl rfl (by decide +kernel) ⟨Nat.le_of_ble_eq_true rfl, Nat.le_of_ble_eq_true rfl⟩) (zw_preWV (ci := 0) (q0 := 0) hP hK hD rfl rfl) rfl rfl hl.1 rfl (lv_room (Nat.le_of_ble_eq_true rfl)) dX0_cut_38 ⟨Nat.le_of_ble_eq_true rfl, Nat.le_of_ble_eq_true rfl⟩) hP hD hS hA [0, 1] [] rfl rfl (by decide) (by decide) (fun u H locs hu hP hD hK hS => ?_)
    have hP : va_P (dC, dI) vwCl (zx_w h0 u.1 u.2.1 u.2.2.1 u.2.2.2 px py pz ((zk_del ks (zk_st ks v a b d) (zk_en ks v a b d)).length) cur) H := hP
    have hD : va_D A (zx_w h0 u.1 u.2.1 u.2.2.1 u.2.2.2 px py pz ((zk_del ks (zk_st ks v a b d) (zk_en ks v a b d)).length) cur) := hD
    refine W.eq (g2 := F0 m 41 ls []) rfl ?_
    refine lv_iload hx hb dX0_cut_41 (lv_at hl 0 rfl) ?_
    refine lv_iload hx hb dX0_cut_43 (lv_at hl 1 rfl) ?_
    refine lv_isub hx hb dX0_cut_45 ?_
    exact W.iret hx hb hr (fun t ht hW => ⟨⟨u, rfl, hu, by rw [ht]; exact hP, va_K.moved hW.alike hK, hD⟩, hS.F ht⟩) hS.2.2 dX0_cut_46
  | true =>
    refine lv_iload_n hx hb dX0_cut_0 rfl (lv_at hl 1 rfl) ?_
    refine lv_if_lt (tgt := 9) hx hb dX0_cut_1 (by decide) (fun c_1 => ?_) (fun c_1 => ?_)
    · refine lv_iconst (v := (-1)) hx hb dX0_cut_9 (by decide) ?_
      exact W.iret hx hb hr (fun t ht hW => ⟨⟨(ha, cA, n, f), rfl, hG, by rw [ht]; exact hP, va_K.moved hW.alike hK, hD⟩, hS.F ht⟩) hS.2.2 dX0_cut_10
    · refine lv_iload_n hx hb dX0_cut_4 rfl (lv_at hl 1 rfl) ?_
      refine lv_iconst (v := 3) hx hb dX0_cut_5 (by decide) ?_
      refine lv_icmp_le (tgt := 11) hx hb dX0_cut_6 (by decide) (fun c_6 => ?_) (fun c_6 => ?_)
      · exact absurd hz (by simp [zs_bad, c_1, c_6])
      · refine lv_iconst (v := (-1)) hx hb dX0_cut_9 (by decide) ?_
        exact W.iret hx hb hr (fun t ht hW => ⟨⟨(ha, cA, n, f), rfl, hG, by rw [ht]; exact hP, va_K.moved hW.alike hK, hD⟩, hS.F ht⟩) hS.2.2 dX0_cut_10
end
section
/-! Own rows: the library's methods that the class calls: floorMod, copyOf -/
def zf_fm (v : Int32) : Int32 := if 0 ≤ v ^^^ 6 then v - v / 6 * 6 else if v - v / 6 * 6 = 0 then v - v / 6 * 6 else v - v / 6 * 6 + 6
theorem zf_xor6 (v : Int32) : 0 ≤ v ^^^ 6 ↔ 0 ≤ v := by
  rw [Int32.le_iff_toInt_le, Int32.le_iff_toInt_le]
  have h : (v ^^^ 6).toBitVec.msb = v.toBitVec.msb := by
    rw [Int32.toBitVec_xor, BitVec.msb_xor]
    have e : (6 : Int32).toBitVec.msb = false := by decide
    rw [e, Bool.xor_false]
  rw [BitVec.msb_eq_toInt, BitVec.msb_eq_toInt, decide_eq_decide] at h
  have e0 : (0 : Int32).toInt = 0 := by decide
  have h : (v ^^^ 6).toInt < 0 ↔ v.toInt < 0 := h
  omega
theorem zf_fm_nat (v : Int32) : ∃ o : Nat, o < 6 ∧ zf_fm v = nI o := by
  obtain ⟨o, h1, h2⟩ := fmv_nat (a := v) (m := 6) (by decide)
  have e6 : (6 : Int32).toInt = 6 := by decide
  refine ⟨o, by omega, ?_⟩
  rw [show nI o = Int32.ofNat o from rfl, ← h1]
  have hr := rem_toInt v 6
  rw [e6] at hr
  have hx := zf_xor6 v
  rw [Int32.le_iff_toInt_le (x := 0) (y := v), show (0 : Int32).toInt = 0 by decide] at hx
  unfold zf_fm fmv fmOf
  have e0 : (0 : Int32).toInt = 0 := by decide
  generalize v - v / 6 * 6 = r at hr
  by_cases hv : 0 ≤ v.toInt
  · have h0 : 0 ≤ r := by
      rw [Int32.le_iff_toInt_le, hr, e0]
      exact Int.tmod_nonneg _ hv
    rw [if_pos (hx.mpr hv), if_pos h0]
  · rw [if_neg (fun q => hv (hx.mp q))]
    have hle : r.toInt ≤ 0 := by
      rw [hr]
      have := Int.tmod_nonneg (a := -v.toInt) 6 (by omega)
      rw [Int.neg_tmod] at this
      omega
    by_cases hz : r = 0
    · rw [if_pos hz, if_pos (by rw [hz]; decide)]
    · rw [if_neg hz, if_neg]
      intro q
      rw [Int32.le_iff_toInt_le, e0] at q
      exact hz (Int32.toInt_inj.mp (by rw [e0]; omega))
set_option maxHeartbeats 4000000 in
set_option maxRecDepth 100000 in
/-- floorMod(v, 6) -/
theorem zj_floorMod (l : Launch) (v : Int32) : Met l yJ9_floorMod_7cf53 wsJ9_floorMod_7cf53 ({ frames := 0, cells := 0, slots := 0, locals := 0 }) (fun w9 _ => w9 = ([.int v, .int 6] : List Value).toArray) (zw_Q (some (.int (zf_fm v)))) 0 0 (fun _ => False) := by
  refine va_MetF (cc := cJ9_floorMod_7cf53) (maxL := 3) (ret := (some .int)) (by decide +kernel) rfl ?_
  intro p e s m args below meth c s₁ B hml hv
  obtain rfl := hv
  have hx := B.exec
  have hb := B.bytes
  have hr := B.returns
  have hl := lv_entry ([.int v, .int 6]) (n := 3) (Nat.le_of_ble_eq_true rfl)
  rw [lg_entry_eq]
  generalize (lg_sl ([.int v, .int 6]) ++ List.replicate (3 - (lg_sl ([.int v, .int 6])).length) Slot.unset).toArray = ls at hl ⊢
  have hl : lv_has ls 3 [(0, .int v), (1, .int 6)] := hl
  refine lv_iload_n hx hb dJ9_floorMod_7cf53_0 rfl (lv_at hl 0 rfl) ?_
  refine lv_iload_n hx hb dJ9_floorMod_7cf53_1 rfl (lv_at hl 1 rfl) ?_
  refine lv_irem hx hb dJ9_floorMod_7cf53_2 (by decide) ?_
  refine lv_istore_n (lv' := [(2, .int (v - v / 6 * 6)), (0, .int v), (1, .int 6)]) hx hb dJ9_floorMod_7cf53_3 rfl hl (by decide) rfl (fun ls hl => ?_)
  refine lv_iload_n hx hb dJ9_floorMod_7cf53_4 rfl (lv_at hl 1 rfl) ?_
  refine lv_iload_n hx hb dJ9_floorMod_7cf53_5 rfl (lv_at hl 2 rfl) ?_
  refine lv_ixor hx hb dJ9_floorMod_7cf53_6 ?_
  refine lv_if_ge (tgt := 18) hx hb dJ9_floorMod_7cf53_7 (by decide) (fun c_7 => ?_) (fun c_7 => ?_)
  · refine lv_iload_n hx hb dJ9_floorMod_7cf53_18 rfl (lv_at hl 0 rfl) ?_
    refine zw_eqi (y := zf_fm v) (by rw [zf_fm, if_pos c_7]) ?_
    exact W.iret hx hb hr (fun t ht hW => ⟨rfl, ht⟩) (fun q h => by cases h) dJ9_floorMod_7cf53_19
  · refine lv_iload_n hx hb dJ9_floorMod_7cf53_10 rfl (lv_at hl 0 rfl) ?_
    refine lv_if_eq (tgt := 18) hx hb dJ9_floorMod_7cf53_11 (by decide) (fun c_11 => ?_) (fun c_11 => ?_)
    · refine lv_iload_n hx hb dJ9_floorMod_7cf53_18 rfl (lv_at hl 0 rfl) ?_
      refine zw_eqi (y := zf_fm v) (by rw [zf_fm, if_neg c_7, if_pos c_11]) ?_
      exact W.iret hx hb hr (fun t ht hW => ⟨rfl, ht⟩) (fun q h => by cases h) dJ9_floorMod_7cf53_19
    · refine lv_iload_n hx hb dJ9_floorMod_7cf53_14 rfl (lv_at hl 0 rfl) ?_
      refine lv_iload_n hx hb dJ9_floorMod_7cf53_15 rfl (lv_at hl 2 rfl) ?_
      refine lv_iadd hx hb dJ9_floorMod_7cf53_16 ?_
      refine zw_eqi (y := zf_fm v) (by rw [zf_fm, if_neg c_7, if_neg c_11]) ?_
      exact W.iret hx hb hr (fun t ht hW => ⟨rfl, ht⟩) (fun q h => by cases h) dJ9_floorMod_7cf53_17
end
section
abbrev zj_w (ha : Nat) (cA : ClassId) (n : Nat) (f : Nat → Int64) : va_W := [(ha, .inl (cA, n, .inr (.inl f)))]
abbrev zj_w2 (ha : Nat) (cA : ClassId) (n : Nat) (f : Nat → Int64) (M : Nat) (u : Nat × ClassId) : va_W := [(ha, .inl (cA, n, .inr (.inl f))), (u.1, .inl (u.2, M, .inr (.inl (va_cpy f (fun _ => 0) 0 0 n))))]
set_option maxHeartbeats 4000000 in
set_option maxRecDepth 100000 in
/-- copyOf(a, M) with M above a's length -/
theorem zj_copyOf (l : Launch) (dC : Nat → ClassId) (dI : Nat → Nat → Nat) (ha : Nat) (cA : ClassId) (n : Nat) (f : Nat → Int64) (M : Nat) (sz : Nat) (hnM : n < M) (hM : M ≤ 1024) : Met l yJ7_copyOf_c38d5 wsJ7_copyOf_c38d5 ({ frames := 1, cells := 1, slots := 1024, locals := 60 }) (zw_Pw [.ref ha, .int (nI M)] (dC, dI) vwCl (zj_w ha cA n f) [(cA, .long)] sz) (zw_Qw (S := Nat × ClassId) (fun u => some (.ref u.1)) (fun _ => True) (dC, dI) vwCl (zj_w2 ha cA n f M) (fun u => [(cA, .long), (u.2, .long)]) (va_A (zj_w ha cA n f) sz)) 1 1024 (va_A (zj_w ha cA n f) sz) := by
  refine va_MetF (cc := cJ7_copyOf_c38d5) (maxL := 3) (ret := (some (.array .long))) (by decide +kernel) rfl ?_
  intro p e s m args below meth c s₁ B hml hv
  obtain ⟨rfl, hsz, hP, hK, hD0⟩ := hv
  have hx := B.exec
  have hb := B.bytes
  have hr := B.returns
  have hts := atoms_spec (ws := wsJ7_copyOf_c38d5) B.pre
  have hown : s.vm.findClass RJ7 = some m.cls := findClass_of_methodNamed B.named
  subst hsz
  have hD := hD0.self (sz := s.heap.size)
  generalize hAe : va_A (zj_w ha cA n f) s.heap.size = A at hD ⊢
  have hA : ∀ q : Nat, s.heap.size ≤ q → A q := fun q h => by rw [← hAe]; exact Or.inr h
  have hS : va_S A s.heap s.heap [] := va_S.rf
  have hP : va_P (dC, dI) vwCl (zj_w ha cA n f) s.heap := hP
  have hl := lv_entry ([.ref ha, .int (nI M)]) (n := 3) (Nat.le_of_ble_eq_true rfl)
  rw [lg_entry_eq]
  generalize (lg_sl ([.ref ha, .int (nI M)]) ++ List.replicate (3 - (lg_sl ([.ref ha, .int (nI M)])).length) Slot.unset).toArray = ls at hl ⊢
  have hl : lv_has ls 3 [(0, .ref ha), (1, .int (nI M))] := hl
  refine lv_iload_n hx hb dJ7_copyOf_c38d5_0 rfl (lv_at hl 1 rfl) ?_
  refine lv_aload_n hx hb dJ7_copyOf_c38d5_1 rfl (lv_at hl 0 rfl) ?_
  refine va_alen (v := nI n) hx hb hK hP 0 0 rfl rfl rfl dJ7_copyOf_c38d5_2 ?_
  refine lv_icmp_ne (tgt := 14) hx hb dJ7_copyOf_c38d5_3 (by decide) (fun c_3 => ?_) (fun c_3 => absurd ((nI_eq (by omega) (by omega)).mp c_3) (by omega))
  refine lv_iload_n hx hb dJ7_copyOf_c38d5_14 rfl (lv_at hl 1 rfl) ?_
  have h1 : M * componentBytes FieldType.long ≤ 536870912 := by
    rw [show componentBytes FieldType.long = 8 from rfl]
    omega
  have h2 : 0 + M ≤ (headSpec wsJ7_copyOf_c38d5 ({ frames := 1, cells := 1, slots := 1024, locals := 60 })).room.slots := by
    rw [show (headSpec wsJ7_copyOf_c38d5 ({ frames := 1, cells := 1, slots := 1024, locals := 60 })).room.slots = 1024 from rfl]
    omega
  have h3 : ∀ cA : ClassId, vp_cell cA (M, .inr (.inl (fun _ => (0 : Int64)))) = arrV cA M (fun _ => defaultValue FieldType.long) := fun cA => vp_cell_l cA M (fun _ => 0)
  refine va_newa (atype := .long) (n := nI M) (a0 := (M, .inr (.inl (fun _ => 0)))) (N' := M) (ty := .long) hx hb (hts (.arrayClass .long) (by decide +kernel)) rfl hK hP hD hS hA h3 (nI_pos (by omega)) (nI_clamp (by omega)) h1 (Nat.le_of_ble_eq_true rfl) h2 dJ7_copyOf_c38d5_15 (fun q cB H hK hP hD hS => ?_)
  have hP : va_P (dC, dI) vwCl [(ha, .inl (cA, n, .inr (.inl f))), (q, .inl (cB, M, .inr (.inl (fun _ => 0))))] H := hP
  have hD : va_D A [(ha, .inl (cA, n, .inr (.inl f))), (q, .inl (cB, M, .inr (.inl (fun _ => 0))))] := hD
  have hK : va_K (dC, dI) vwCl [(cA, .long), (cB, .long)] s := hK
  refine lv_astore_n (lv' := [(2, .ref q), (0, .ref ha), (1, .int (nI M))]) hx hb dJ7_copyOf_c38d5_17 rfl hl (by decide) rfl (fun ls hl => ?_)
  refine lv_aload_n hx hb dJ7_copyOf_c38d5_18 rfl (lv_at hl 1 rfl) ?_
  refine lv_iconst (v := 0) hx hb dJ7_copyOf_c38d5_19 (by decide) ?_
  refine lv_aload_n hx hb dJ7_copyOf_c38d5_20 rfl (lv_at hl 0 rfl) ?_
  refine lv_iconst (v := 0) hx hb dJ7_copyOf_c38d5_21 (by decide) ?_
  refine lv_aload_n hx hb dJ7_copyOf_c38d5_22 rfl (lv_at hl 1 rfl) ?_
  refine va_alen (v := nI n) hx hb hK hP 0 0 rfl rfl rfl dJ7_copyOf_c38d5_23 ?_
  refine lv_iload_n hx hb dJ7_copyOf_c38d5_24 rfl (lv_at hl 2 rfl) ?_
  refine W.widen (k := 1) (n := 1024) (Nat.le_refl 1) (by omega) ?_
  refine va_mmin hx hb (hml.trans hl.1.symm) hown (hts (.methodLink RJ7 304 Lib.Math.min.name) (by decide +kernel)) (hts (.static Lib.Math.min.name) (by decide +kernel)) (hts (.initialized "java/lang/Math") (by decide +kernel)) (hts _ (List.mem_of_getElem? (i := 11) rfl)) (Nat.le_of_ble_eq_true rfl) (Nat.le_of_ble_eq_true rfl) (Nat.le_of_ble_eq_true rfl) (Nat.le_of_ble_eq_true rfl) dJ7_copyOf_c38d5_25 ?_
  refine zw_eqi (y := nI n) (if_neg (nI_nlt (by omega) (by omega))) ?_
  refine va_copyl (ty := .long) hx hb (hml.trans hl.1.symm) hown (hts (.methodLink RJ7 150 arraycopyName) (by decide +kernel)) (hts (.native arraycopyName) (by decide +kernel)) (hts (.static arraycopyName) (by decide +kernel)) (hts (.initialized "java/lang/System") (by decide +kernel)) hK hP hD hS 0 1 0 1 rfl rfl rfl rfl rfl (by decide) (by decide) (nI_pos (by omega)) (by rw [nI_clamp (n := n) (by omega), sb_cl0]; omega) (by rw [nI_clamp (n := n) (by omega), sb_cl0]; omega) (fun _ _ => rfl) (Nat.le_of_ble_eq_true rfl) (Nat.le_of_ble_eq_true rfl) dJ7_copyOf_c38d5_28 (fun H locs hP hD hS => ?_)
  rw [nI_clamp (n := n) (by omega), sb_cl0] at hP hD
  have hP : va_P (dC, dI) vwCl (zj_w2 ha cA n f M (q, cB)) H := hP
  have hD : va_D A (zj_w2 ha cA n f M (q, cB)) := hD
  refine lv_aload_n hx hb dJ7_copyOf_c38d5_31 rfl (lv_at hl 0 rfl) ?_
  exact W.aret hx hb hr (Or.inr ⟨_, rfl⟩) (Or.inr ⟨_, rfl⟩) (fun t ht hW => ⟨⟨(q, cB), rfl, trivial, by rw [ht]; exact hP, va_K.moved hW.alike hK, hD⟩, hS.F ht⟩) hS.2.2 dJ7_copyOf_c38d5_32
end
section
set_option maxHeartbeats 4000000 in
set_option maxRecDepth 100000 in
/-- putIn(k) -/
theorem zc_putIn (l : Launch) (dC : Nat → ClassId) (dI : Nat → Nat → Nat) (h0 ha : Nat) (cA : ClassId) (n : Nat) (f : Nat → Int64) (px py pz : Int32) (ks : List Nat) (cur : Int64) (sz : Nat) (k : Nat) (hkn : k ∉ ks) (hk60 : k < 1152921504606846976) (hlen : ks.length < 512) (hG : zk_G ks n f) : Met l yX0_putIn wsX0_putIn ({ frames := 2, cells := 1, slots := 1024, locals := 90 }) (zw_Pw [.ref h0, .int (nI (zk_c ks k)), .long (lN k)] (dC, dI) vwCl (zx_w h0 ha cA n f px py pz ks.length cur) [(cA, .long)] sz) (zx_Q dC dI h0 px py pz (none) (zk_ins ks k) (cur) (va_A (zx_w h0 ha cA n f px py pz ks.length cur) sz)) 1 1024 (va_A (zx_w h0 ha cA n f px py pz ks.length cur) sz) := by
  refine Met.ofW (cc := cX0_putIn) (maxL := 4) (ret := none) (by decide) rfl ?_
  intro p e s m args below meth c s₁ B hml hv
  obtain ⟨rfl, hsz, hP, hK, hD0⟩ := hv
  have hx := B.exec
  have hb := B.bytes
  have hr := B.returns
  have hts := atoms_spec (ws := wsX0_putIn) B.pre
  have hown : s.vm.findClass RX0 = some m.cls := findClass_of_methodNamed B.named
  subst hsz
  have hD := hD0.self (sz := s.heap.size)
  generalize hAe : va_A (zx_w h0 ha cA n f px py pz ks.length cur) s.heap.size = A at hD ⊢
  have hA : ∀ q : Nat, s.heap.size ≤ q → A q := fun q h => by rw [← hAe]; exact Or.inr h
  have hS : va_S A s.heap s.heap [] := va_S.rf
  have hP : va_P (dC, dI) vwCl (zx_w h0 ha cA n f px py pz ks.length cur) s.heap := hP
  have hl := lv_entry ([.ref h0, .int (nI (zk_c ks k)), .long (lN k)]) (n := 4) (Nat.le_of_ble_eq_true rfl)
  rw [lg_entry_eq]
  generalize (lg_sl ([.ref h0, .int (nI (zk_c ks k)), .long (lN k)]) ++ List.replicate (4 - (lg_sl ([.ref h0, .int (nI (zk_c ks k)), .long (lN k)])).length) Slot.unset).toArray = ls at hl ⊢
  have hl : lv_has ls 4 [(0, .ref h0), (1, .int (nI (zk_c ks k))), (2, .long (lN k))] := hl
  have hn3 := hG.2.2
  have hCl := zk_c_le ks k
  refine lv_aload_n hx hb dX0_putIn_0 rfl (lv_at hl 0 rfl) ?_
  refine va_get (D := (dC, dI)) (ci := 0) (v := .int (nI ks.length)) (C := RX0) (T := TX0) (N := 6) hx hb hts (by decide +kernel) hown hK hP 0 rfl rfl 4 (by decide) (hts (.fieldLink RX0 33 "PageIndex" "held" "I") (by decide +kernel)) (fun _ h9 => h9) rfl dX0_putIn_1 ?_
  refine lv_aload_n hx hb dX0_putIn_4 rfl (lv_at hl 0 rfl) ?_
  refine va_get (D := (dC, dI)) (ci := 0) (v := .ref ha) (C := RX0) (T := TX0) (N := 6) hx hb hts (by decide +kernel) hown hK hP 0 rfl rfl 3 (by decide) (hts (.fieldLink RX0 29 "PageIndex" "keys" "[J") (by decide +kernel)) (fun _ h9 => h9) rfl dX0_putIn_5 ?_
  refine va_alen (v := nI n) hx hb hK hP 1 0 rfl rfl rfl dX0_putIn_8 ?_
  refine lv_icmp_ne (tgt := 35) hx hb dX0_putIn_9 (by decide) (fun c_9 => ?_) (fun c_9 => ?_)
  · have hlt : ks.length < n := by
      rcases Nat.lt_or_ge ks.length n with q | q
      · exact q
      · exact absurd (by rw [show ks.length = n by omega]) c_9
    refine lv_aload_n hx hb dX0_putIn_35 rfl (lv_at hl 0 rfl) ?_
    refine va_get (D := (dC, dI)) (ci := 0) (v := .ref ha) (C := RX0) (T := TX0) (N := 6) hx hb hts (by decide +kernel) hown hK hP 0 rfl rfl 3 (by decide) (hts (.fieldLink RX0 29 "PageIndex" "keys" "[J") (by decide +kernel)) (fun _ h9 => h9) rfl dX0_putIn_36 ?_
    refine lv_iload_n hx hb dX0_putIn_39 rfl (lv_at hl 1 rfl) ?_
    refine lv_aload_n hx hb dX0_putIn_40 rfl (lv_at hl 0 rfl) ?_
    refine va_get (D := (dC, dI)) (ci := 0) (v := .ref ha) (C := RX0) (T := TX0) (N := 6) hx hb hts (by decide +kernel) hown hK hP 0 rfl rfl 3 (by decide) (hts (.fieldLink RX0 29 "PageIndex" "keys" "[J") (by decide +kernel)) (fun _ h9 => h9) rfl dX0_putIn_41 ?_
    refine lv_iload_n hx hb dX0_putIn_44 rfl (lv_at hl 1 rfl) ?_
    refine lv_iconst (v := 1) hx hb dX0_putIn_45 (by decide) ?_
    refine lv_iadd hx hb dX0_putIn_46 ?_
    refine zw_eqi (y := nI (zk_c ks k + 1)) (nI_1 _) ?_
    refine lv_aload_n hx hb dX0_putIn_47 rfl (lv_at hl 0 rfl) ?_
    refine va_get (D := (dC, dI)) (ci := 0) (v := .int (nI ks.length)) (C := RX0) (T := TX0) (N := 6) hx hb hts (by decide +kernel) hown hK hP 0 rfl rfl 4 (by decide) (hts (.fieldLink RX0 33 "PageIndex" "held" "I") (by decide +kernel)) (fun _ h9 => h9) rfl dX0_putIn_48 ?_
    refine lv_iload_n hx hb dX0_putIn_51 rfl (lv_at hl 1 rfl) ?_
    refine lv_isub hx hb dX0_putIn_52 ?_
    refine zw_eqi (y := nI (ks.length - zk_c ks k)) (pk_sub hCl) ?_
    refine va_copyl (ty := .long) hx hb (hml.trans hl.1.symm) hown (hts (.methodLink RX0 120 arraycopyName) (by decide +kernel)) (hts (.native arraycopyName) (by decide +kernel)) (hts (.static arraycopyName) (by decide +kernel)) (hts (.initialized "java/lang/System") (by decide +kernel)) hK hP hD hS 1 1 0 0 rfl rfl rfl rfl rfl (nI_pos (by omega)) (nI_pos (by omega)) (nI_pos (by omega)) (by rw [nI_clamp (by omega), nI_clamp (by omega)]; omega) (by rw [nI_clamp (by omega), nI_clamp (by omega)]; omega) (fun _ _ => rfl) (Nat.le_of_ble_eq_true rfl) (Nat.le_of_ble_eq_true rfl) dX0_putIn_53 (fun H locs hP hD hS => ?_)
    rw [nI_clamp (n := zk_c ks k) (by omega), nI_clamp (n := zk_c ks k + 1) (by omega), nI_clamp (n := ks.length - zk_c ks k) (by omega)] at hP hD
    have hP : va_P (dC, dI) vwCl (zx_w h0 ha cA n (va_cpy f f (zk_c ks k) (zk_c ks k + 1) (ks.length - zk_c ks k)) px py pz ks.length cur) H := hP
    have hD : va_D A (zx_w h0 ha cA n (va_cpy f f (zk_c ks k) (zk_c ks k + 1) (ks.length - zk_c ks k)) px py pz ks.length cur) := hD
    refine lv_aload_n hx hb dX0_putIn_56 rfl (lv_at hl 0 rfl) ?_
    refine va_get (D := (dC, dI)) (ci := 0) (v := .ref ha) (C := RX0) (T := TX0) (N := 6) hx hb hts (by decide +kernel) hown hK hP 0 rfl rfl 3 (by decide) (hts (.fieldLink RX0 29 "PageIndex" "keys" "[J") (by decide +kernel)) (fun _ h9 => h9) rfl dX0_putIn_57 ?_
    refine lv_iload_n hx hb dX0_putIn_60 rfl (lv_at hl 1 rfl) ?_
    refine lv_lload_n hx hb dX0_putIn_61 rfl (lv_at hl 2 rfl) ?_
    refine va_last hx hb hK hP hD hS 1 0 rfl rfl (pk_in (zk_c ks k) n (by omega) rfl (by omega)) dX0_putIn_62 (fun H locs hP hD hS => ?_)
    rw [nI_clamp (n := zk_c ks k) (by omega)] at hP hD
    have hP : va_P (dC, dI) vwCl (zx_w h0 ha cA n (vp_updL (va_cpy f f (zk_c ks k) (zk_c ks k + 1) (ks.length - zk_c ks k)) (zk_c ks k) (lN k)) px py pz ks.length cur) H := hP
    have hD : va_D A (zx_w h0 ha cA n (vp_updL (va_cpy f f (zk_c ks k) (zk_c ks k + 1) (ks.length - zk_c ks k)) (zk_c ks k) (lN k)) px py pz ks.length cur) := hD
    refine lv_aload_n hx hb dX0_putIn_63 rfl (lv_at hl 0 rfl) ?_
    refine lv_dup hx hb dX0_putIn_64 rfl ?_
    refine va_get (D := (dC, dI)) (ci := 0) (v := .int (nI ks.length)) (C := RX0) (T := TX0) (N := 6) hx hb hts (by decide +kernel) hown hK hP 0 rfl rfl 4 (by decide) (hts (.fieldLink RX0 33 "PageIndex" "held" "I") (by decide +kernel)) (fun _ h9 => h9) rfl dX0_putIn_65 ?_
    refine lv_iconst (v := 1) hx hb dX0_putIn_68 (by decide) ?_
    refine lv_iadd hx hb dX0_putIn_69 ?_
    refine zw_eqi (y := nI (zk_ins ks k).length) (by rw [zk_ins_len]; exact nI_1 _) ?_
    refine va_put (D := (dC, dI)) (ci := 0) (v := .int (nI (zk_ins ks k).length)) (ty := .int) (C := RX0) (T := TX0) (N := 6) hx hb hts (by decide +kernel) tyX0 tyX0_ok nmX0 hown hK hP hD hS 0 rfl rfl 4 (by decide) (hts (.fieldLink RX0 33 "PageIndex" "held" "I") (by decide +kernel)) (fun _ h9 => h9) rfl (by decide +kernel) rfl rfl (Nat.le_of_ble_eq_true rfl) dX0_putIn_70 (fun H locs hP hD hS => ?_)
    have hP : va_P (dC, dI) vwCl (zx_w h0 ha cA n (vp_updL (va_cpy f f (zk_c ks k) (zk_c ks k + 1) (ks.length - zk_c ks k)) (zk_c ks k) (lN k)) px py pz ((zk_ins ks k).length) cur) H := hP
    have hD : va_D A (zx_w h0 ha cA n (vp_updL (va_cpy f f (zk_c ks k) (zk_c ks k + 1) (ks.length - zk_c ks k)) (zk_c ks k) (lN k)) px py pz ((zk_ins ks k).length) cur) := hD
    refine W.widen (k := 1) (n := 1024) (Nat.le_of_ble_eq_true rfl) (Nat.le_of_ble_eq_true rfl) ?_
    exact W.vret hx hb hr (fun t ht hW => ⟨⟨(ha, cA, n, vp_updL (va_cpy f f (zk_c ks k) (zk_c ks k + 1) (ks.length - zk_c ks k)) (zk_c ks k) (lN k)), rfl, zk_G_ins (n2 := n) hG hkn hk60 (by omega) (by omega) (fun _ _ => rfl), by rw [ht]; exact hP, va_K.moved hW.alike hK, hD⟩, hS.F ht⟩) hS.2.2 dX0_putIn_73
  · have hen : ks.length = n := (nI_eq (by omega) (by omega)).mp c_9
    refine lv_aload_n hx hb dX0_putIn_12 rfl (lv_at hl 0 rfl) ?_
    refine lv_aload_n hx hb dX0_putIn_13 rfl (lv_at hl 0 rfl) ?_
    refine va_get (D := (dC, dI)) (ci := 0) (v := .ref ha) (C := RX0) (T := TX0) (N := 6) hx hb hts (by decide +kernel) hown hK hP 0 rfl rfl 3 (by decide) (hts (.fieldLink RX0 29 "PageIndex" "keys" "[J") (by decide +kernel)) (fun _ h9 => h9) rfl dX0_putIn_14 ?_
    refine lv_iconst (v := 2) hx hb dX0_putIn_17 (by decide) ?_
    refine lv_aload_n hx hb dX0_putIn_18 rfl (lv_at hl 0 rfl) ?_
    refine va_get (D := (dC, dI)) (ci := 0) (v := .int (nI ks.length)) (C := RX0) (T := TX0) (N := 6) hx hb hts (by decide +kernel) hown hK hP 0 rfl rfl 4 (by decide) (hts (.fieldLink RX0 33 "PageIndex" "held" "I") (by decide +kernel)) (fun _ h9 => h9) rfl dX0_putIn_19 ?_
    refine lv_imul hx hb dX0_putIn_22 ?_
    refine zw_eqi (y := nI (2 * ks.length)) (pk_mul 2 _) ?_
    refine lv_sipush (v := 20000) hx hb dX0_putIn_23 (by decide) ?_
    refine va_mmin hx hb (hml.trans hl.1.symm) hown (hts (.methodLink RX0 111 Lib.Math.min.name) (by decide +kernel)) (hts (.static Lib.Math.min.name) (by decide +kernel)) (hts (.initialized "java/lang/Math") (by decide +kernel)) (hts _ (List.mem_of_getElem? (i := 6) rfl)) (Nat.le_of_ble_eq_true rfl) (Nat.le_of_ble_eq_true rfl) (Nat.le_of_ble_eq_true rfl) (Nat.le_of_ble_eq_true rfl) dX0_putIn_26 ?_
    refine zw_eqi (y := nI (2 * ks.length)) (if_neg (nI_nlt (a := 20000) (b := 2 * ks.length) (by omega) (by omega))) ?_
    have hPc := hP.sub (ws' := zj_w ha cA n f) [1] rfl
    have hDc := hD.sub (ws' := zj_w ha cA n f) [1] (by decide) rfl
    refine zw_callw (ws := zx_w h0 ha cA n f px py pz ks.length cur) (wc := zj_w ha cA n f) (wr := [(h0, .inr (0, [.int px, .int py, .int pz, .ref ha, .int (nI ks.length), .long cur]))]) (va_runS (As := [.ref ha, .int (nI (2 * ks.length))]) (rest := [.ref h0]) ⟨hx, hb, hml, hown, hts⟩ (zj_copyOf l dC dI ha cA n f (2 * ks.length) s.heap.size (by omega) (by omega)) (va_cwS 2 hts gX0_putIn_J7_copyOf_c38d5 rfl rfl rfl (by decide +kernel) ⟨Nat.le_of_ble_eq_true rfl, Nat.le_of_ble_eq_true rfl⟩) (zw_preW hPc hK hDc) rfl rfl hl.1 rfl (lv_room (Nat.le_of_ble_eq_true rfl)) dX0_putIn_29 ⟨Nat.le_of_ble_eq_true rfl, Nat.le_of_ble_eq_true rfl⟩) hP hD hS hA [1] [0] rfl rfl (by decide) (by decide) (fun u H locs hu hP hD hK hS => ?_)
    have hP : va_P (dC, dI) vwCl [(h0, .inr (0, [.int px, .int py, .int pz, .ref ha, .int (nI ks.length), .long cur])), (ha, .inl (cA, n, .inr (.inl f))), (u.1, .inl (u.2, 2 * ks.length, .inr (.inl (va_cpy f (fun _ => 0) 0 0 n))))] H := hP
    have hD : va_D A [(h0, .inr (0, [.int px, .int py, .int pz, .ref ha, .int (nI ks.length), .long cur])), (ha, .inl (cA, n, .inr (.inl f))), (u.1, .inl (u.2, 2 * ks.length, .inr (.inl (va_cpy f (fun _ => 0) 0 0 n))))] := hD
    refine W.eq (g2 := F0 m 32 ls [.ref u.1, .ref h0]) rfl ?_
    refine va_put (D := (dC, dI)) (ci := 0) (v := .ref u.1) (ty := .array .long) (C := RX0) (T := TX0) (N := 6) hx hb hts (by decide +kernel) tyX0 tyX0_ok nmX0 hown hK hP hD hS 0 rfl rfl 3 (by decide) (hts (.fieldLink RX0 29 "PageIndex" "keys" "[J") (by decide +kernel)) (fun _ h9 => h9) rfl (by decide +kernel) rfl rfl (Nat.le_of_ble_eq_true rfl) dX0_putIn_32 (fun H locs hP hD hS => ?_)
    have hP : va_P (dC, dI) vwCl (zx_w h0 u.1 u.2 (2 * ks.length) (va_cpy f (fun _ => 0) 0 0 n) px py pz ks.length cur) H := hP.sub (ws' := zx_w h0 u.1 u.2 (2 * ks.length) (va_cpy f (fun _ => 0) 0 0 n) px py pz ks.length cur) [0, 2] rfl
    have hD : va_D A (zx_w h0 u.1 u.2 (2 * ks.length) (va_cpy f (fun _ => 0) 0 0 n) px py pz ks.length cur) := hD.sub (ws' := zx_w h0 u.1 u.2 (2 * ks.length) (va_cpy f (fun _ => 0) 0 0 n) px py pz ks.length cur) [0, 2] (by decide) rfl
    have hK : va_K (dC, dI) vwCl [(u.2, .long)] s := hK.sub [1] rfl
    refine lv_aload_n hx hb dX0_putIn_35 rfl (lv_at hl 0 rfl) ?_
    refine va_get (D := (dC, dI)) (ci := 0) (v := .ref u.1) (C := RX0) (T := TX0) (N := 6) hx hb hts (by decide +kernel) hown hK hP 0 rfl rfl 3 (by decide) (hts (.fieldLink RX0 29 "PageIndex" "keys" "[J") (by decide +kernel)) (fun _ h9 => h9) rfl dX0_putIn_36 ?_
    refine lv_iload_n hx hb dX0_putIn_39 rfl (lv_at hl 1 rfl) ?_
    refine lv_aload_n hx hb dX0_putIn_40 rfl (lv_at hl 0 rfl) ?_
    refine va_get (D := (dC, dI)) (ci := 0) (v := .ref u.1) (C := RX0) (T := TX0) (N := 6) hx hb hts (by decide +kernel) hown hK hP 0 rfl rfl 3 (by decide) (hts (.fieldLink RX0 29 "PageIndex" "keys" "[J") (by decide +kernel)) (fun _ h9 => h9) rfl dX0_putIn_41 ?_
    refine lv_iload_n hx hb dX0_putIn_44 rfl (lv_at hl 1 rfl) ?_
    refine lv_iconst (v := 1) hx hb dX0_putIn_45 (by decide) ?_
    refine lv_iadd hx hb dX0_putIn_46 ?_
    refine zw_eqi (y := nI (zk_c ks k + 1)) (nI_1 _) ?_
    refine lv_aload_n hx hb dX0_putIn_47 rfl (lv_at hl 0 rfl) ?_
    refine va_get (D := (dC, dI)) (ci := 0) (v := .int (nI ks.length)) (C := RX0) (T := TX0) (N := 6) hx hb hts (by decide +kernel) hown hK hP 0 rfl rfl 4 (by decide) (hts (.fieldLink RX0 33 "PageIndex" "held" "I") (by decide +kernel)) (fun _ h9 => h9) rfl dX0_putIn_48 ?_
    refine lv_iload_n hx hb dX0_putIn_51 rfl (lv_at hl 1 rfl) ?_
    refine lv_isub hx hb dX0_putIn_52 ?_
    refine zw_eqi (y := nI (ks.length - zk_c ks k)) (pk_sub hCl) ?_
    refine va_copyl (ty := .long) hx hb (hml.trans hl.1.symm) hown (hts (.methodLink RX0 120 arraycopyName) (by decide +kernel)) (hts (.native arraycopyName) (by decide +kernel)) (hts (.static arraycopyName) (by decide +kernel)) (hts (.initialized "java/lang/System") (by decide +kernel)) hK hP hD hS 1 1 0 0 rfl rfl rfl rfl rfl (nI_pos (by omega)) (nI_pos (by omega)) (nI_pos (by omega)) (by rw [nI_clamp (by omega), nI_clamp (by omega)]; omega) (by rw [nI_clamp (by omega), nI_clamp (by omega)]; omega) (fun _ _ => rfl) (Nat.le_of_ble_eq_true rfl) (Nat.le_of_ble_eq_true rfl) dX0_putIn_53 (fun H locs hP hD hS => ?_)
    rw [nI_clamp (n := zk_c ks k) (by omega), nI_clamp (n := zk_c ks k + 1) (by omega), nI_clamp (n := ks.length - zk_c ks k) (by omega)] at hP hD
    have hP : va_P (dC, dI) vwCl (zx_w h0 u.1 u.2 (2 * ks.length) (va_cpy (va_cpy f (fun _ => 0) 0 0 n) (va_cpy f (fun _ => 0) 0 0 n) (zk_c ks k) (zk_c ks k + 1) (ks.length - zk_c ks k)) px py pz ks.length cur) H := hP
    have hD : va_D A (zx_w h0 u.1 u.2 (2 * ks.length) (va_cpy (va_cpy f (fun _ => 0) 0 0 n) (va_cpy f (fun _ => 0) 0 0 n) (zk_c ks k) (zk_c ks k + 1) (ks.length - zk_c ks k)) px py pz ks.length cur) := hD
    refine lv_aload_n hx hb dX0_putIn_56 rfl (lv_at hl 0 rfl) ?_
    refine va_get (D := (dC, dI)) (ci := 0) (v := .ref u.1) (C := RX0) (T := TX0) (N := 6) hx hb hts (by decide +kernel) hown hK hP 0 rfl rfl 3 (by decide) (hts (.fieldLink RX0 29 "PageIndex" "keys" "[J") (by decide +kernel)) (fun _ h9 => h9) rfl dX0_putIn_57 ?_
    refine lv_iload_n hx hb dX0_putIn_60 rfl (lv_at hl 1 rfl) ?_
    refine lv_lload_n hx hb dX0_putIn_61 rfl (lv_at hl 2 rfl) ?_
    refine va_last hx hb hK hP hD hS 1 0 rfl rfl (pk_in (zk_c ks k) (2 * ks.length) (by omega) rfl (by omega)) dX0_putIn_62 (fun H locs hP hD hS => ?_)
    rw [nI_clamp (n := zk_c ks k) (by omega)] at hP hD
    have hP : va_P (dC, dI) vwCl (zx_w h0 u.1 u.2 (2 * ks.length) (vp_updL (va_cpy (va_cpy f (fun _ => 0) 0 0 n) (va_cpy f (fun _ => 0) 0 0 n) (zk_c ks k) (zk_c ks k + 1) (ks.length - zk_c ks k)) (zk_c ks k) (lN k)) px py pz ks.length cur) H := hP
    have hD : va_D A (zx_w h0 u.1 u.2 (2 * ks.length) (vp_updL (va_cpy (va_cpy f (fun _ => 0) 0 0 n) (va_cpy f (fun _ => 0) 0 0 n) (zk_c ks k) (zk_c ks k + 1) (ks.length - zk_c ks k)) (zk_c ks k) (lN k)) px py pz ks.length cur) := hD
    refine lv_aload_n hx hb dX0_putIn_63 rfl (lv_at hl 0 rfl) ?_
    refine lv_dup hx hb dX0_putIn_64 rfl ?_
    refine va_get (D := (dC, dI)) (ci := 0) (v := .int (nI ks.length)) (C := RX0) (T := TX0) (N := 6) hx hb hts (by decide +kernel) hown hK hP 0 rfl rfl 4 (by decide) (hts (.fieldLink RX0 33 "PageIndex" "held" "I") (by decide +kernel)) (fun _ h9 => h9) rfl dX0_putIn_65 ?_
    refine lv_iconst (v := 1) hx hb dX0_putIn_68 (by decide) ?_
    refine lv_iadd hx hb dX0_putIn_69 ?_
    refine zw_eqi (y := nI (zk_ins ks k).length) (by rw [zk_ins_len]; exact nI_1 _) ?_
    refine va_put (D := (dC, dI)) (ci := 0) (v := .int (nI (zk_ins ks k).length)) (ty := .int) (C := RX0) (T := TX0) (N := 6) hx hb hts (by decide +kernel) tyX0 tyX0_ok nmX0 hown hK hP hD hS 0 rfl rfl 4 (by decide) (hts (.fieldLink RX0 33 "PageIndex" "held" "I") (by decide +kernel)) (fun _ h9 => h9) rfl (by decide +kernel) rfl rfl (Nat.le_of_ble_eq_true rfl) dX0_putIn_70 (fun H locs hP hD hS => ?_)
    have hP : va_P (dC, dI) vwCl (zx_w h0 u.1 u.2 (2 * ks.length) (vp_updL (va_cpy (va_cpy f (fun _ => 0) 0 0 n) (va_cpy f (fun _ => 0) 0 0 n) (zk_c ks k) (zk_c ks k + 1) (ks.length - zk_c ks k)) (zk_c ks k) (lN k)) px py pz ((zk_ins ks k).length) cur) H := hP
    have hD : va_D A (zx_w h0 u.1 u.2 (2 * ks.length) (vp_updL (va_cpy (va_cpy f (fun _ => 0) 0 0 n) (va_cpy f (fun _ => 0) 0 0 n) (zk_c ks k) (zk_c ks k + 1) (ks.length - zk_c ks k)) (zk_c ks k) (lN k)) px py pz ((zk_ins ks k).length) cur) := hD
    refine W.widen (k := 1) (n := 1024) (Nat.le_of_ble_eq_true rfl) (Nat.le_of_ble_eq_true rfl) ?_
    exact W.vret hx hb hr (fun t ht hW => ⟨⟨(u.1, u.2, 2 * ks.length, vp_updL (va_cpy (va_cpy f (fun _ => 0) 0 0 n) (va_cpy f (fun _ => 0) 0 0 n) (zk_c ks k) (zk_c ks k + 1) (ks.length - zk_c ks k)) (zk_c ks k) (lN k)), rfl, zk_G_ins (n2 := (2 * ks.length)) hG hkn hk60 (by omega) (by omega) (fun j hj => by rw [pk_cpy_in (by omega) (by omega)]; congr 1; omega), by rw [ht]; exact hP, va_K.moved hW.alike hK, hD⟩, hS.F ht⟩) hS.2.2 dX0_putIn_73
set_option maxHeartbeats 4000000 in
set_option maxRecDepth 100000 in
/-- insert(x, y, z) -/
theorem zc_insert (l : Launch) (dC : Nat → ClassId) (dI : Nat → Nat → Nat) (h0 ha : Nat) (cA : ClassId) (n : Nat) (f : Nat → Int64) (px py pz : Int32) (ks : List Nat) (cur : Int64) (sz : Nat) (x : Int32) (y : Int32) (z : Int32) (k : Nat) (hk : zf_nn x y z = true → zf_kt px py pz x y z = lN k ∧ k < 1152921504606846976) (hlen : ks.length < 512) (hG : zk_G ks n f) : Met l yX0_insert wsX0_insert ({ frames := 3, cells := 1, slots := 1024, locals := 113 }) (zw_Pw [.ref h0, .int x, .int y, .int z] (dC, dI) vwCl (zx_w h0 ha cA n f px py pz ks.length cur) [(cA, .long)] sz) (zx_Q dC dI h0 px py pz (some (.int (cond (zf_nn x y z) (cond (decide (k ∈ ks)) 0 1) (-1)))) (cond (zf_nn x y z) (cond (decide (k ∈ ks)) ks (zk_ins ks k)) ks) (cur) (va_A (zx_w h0 ha cA n f px py pz ks.length cur) sz)) 1 1024 (va_A (zx_w h0 ha cA n f px py pz ks.length cur) sz) := by
  refine Met.ofW (cc := cX0_insert) (maxL := 7) (ret := (some .int)) (by decide) rfl ?_
  intro p e s m args below meth c s₁ B hml hv
  obtain ⟨rfl, hsz, hP, hK, hD0⟩ := hv
  have hx := B.exec
  have hb := B.bytes
  have hr := B.returns
  have hts := atoms_spec (ws := wsX0_insert) B.pre
  have hown : s.vm.findClass RX0 = some m.cls := findClass_of_methodNamed B.named
  subst hsz
  have hD := hD0.self (sz := s.heap.size)
  generalize hAe : va_A (zx_w h0 ha cA n f px py pz ks.length cur) s.heap.size = A at hD ⊢
  have hA : ∀ q : Nat, s.heap.size ≤ q → A q := fun q h => by rw [← hAe]; exact Or.inr h
  have hS : va_S A s.heap s.heap [] := va_S.rf
  have hP : va_P (dC, dI) vwCl (zx_w h0 ha cA n f px py pz ks.length cur) s.heap := hP
  have hl := lv_entry ([.ref h0, .int x, .int y, .int z]) (n := 7) (Nat.le_of_ble_eq_true rfl)
  rw [lg_entry_eq]
  generalize (lg_sl ([.ref h0, .int x, .int y, .int z]) ++ List.replicate (7 - (lg_sl ([.ref h0, .int x, .int y, .int z])).length) Slot.unset).toArray = ls at hl ⊢
  have hl : lv_has ls 7 [(0, .ref h0), (1, .int x), (2, .int y), (3, .int z)] := hl
  cases hz : zf_nn x y z with
  | false =>
    refine lv_iload_n hx hb dX0_insert_0 rfl (lv_at hl 1 rfl) ?_
    refine lv_iload_n hx hb dX0_insert_1 rfl (lv_at hl 2 rfl) ?_
    refine lv_iload_n hx hb dX0_insert_2 rfl (lv_at hl 3 rfl) ?_
    refine zw_ci (va_runS (As := [.int x, .int y, .int z]) (rest := []) ⟨hx, hb, hml, hown, hts⟩ (zc_areNumbers l x y z) (va_cwS 3 hts gX0_insert_X0_areNumbers rfl rfl rfl (by decide +kernel) ⟨Nat.le_of_ble_eq_true rfl, Nat.le_of_ble_eq_true rfl⟩) (preEq) rfl rfl hl.1 rfl (lv_room (Nat.le_of_ble_eq_true rfl)) dX0_insert_3 ⟨Nat.zero_le _, Nat.zero_le _⟩) ?_
    refine zw_ifne (tgt := 11) hx hb dX0_insert_6 (by decide) (fun c_6 => absurd ((hz).symm.trans c_6) (by decide)) (fun c_6 => ?_)
    refine lv_iconst (v := (-1)) hx hb dX0_insert_9 (by decide) ?_
    refine W.widen (k := 1) (n := 1024) (Nat.le_of_ble_eq_true rfl) (Nat.le_of_ble_eq_true rfl) ?_
    exact W.iret hx hb hr (fun t ht hW => ⟨⟨(ha, cA, n, f), rfl, hG, by rw [ht]; exact hP, va_K.moved hW.alike hK, hD⟩, hS.F ht⟩) hS.2.2 dX0_insert_10
  | true =>
    cases hm : decide (k ∈ ks) with
    | false =>
      have hn3 := hG.2.2
      have hkn := of_decide_eq_false hm
      refine lv_iload_n hx hb dX0_insert_0 rfl (lv_at hl 1 rfl) ?_
      refine lv_iload_n hx hb dX0_insert_1 rfl (lv_at hl 2 rfl) ?_
      refine lv_iload_n hx hb dX0_insert_2 rfl (lv_at hl 3 rfl) ?_
      refine zw_ci (va_runS (As := [.int x, .int y, .int z]) (rest := []) ⟨hx, hb, hml, hown, hts⟩ (zc_areNumbers l x y z) (va_cwS 3 hts gX0_insert_X0_areNumbers rfl rfl rfl (by decide +kernel) ⟨Nat.le_of_ble_eq_true rfl, Nat.le_of_ble_eq_true rfl⟩) (preEq) rfl rfl hl.1 rfl (lv_room (Nat.le_of_ble_eq_true rfl)) dX0_insert_3 ⟨Nat.zero_le _, Nat.zero_le _⟩) ?_
      refine zw_ifne (tgt := 11) hx hb dX0_insert_6 (by decide) (fun c_6 => ?_) (fun c_6 => absurd ((hz).symm.trans c_6) (by decide))
      refine lv_aload_n hx hb dX0_insert_11 rfl (lv_at hl 0 rfl) ?_
      refine lv_iload_n hx hb dX0_insert_12 rfl (lv_at hl 1 rfl) ?_
      refine lv_iload_n hx hb dX0_insert_13 rfl (lv_at hl 2 rfl) ?_
      refine lv_iload_n hx hb dX0_insert_14 rfl (lv_at hl 3 rfl) ?_
      refine zw_cl (va_runV (As := [.int x, .int y, .int z]) (rest := []) ⟨hx, hb, hml, hown, hts⟩ (zc_keyOfTriple l dC dI h0 ha cA n f px py pz ks cur x y z) (cwV 3 hts gX0_insert_X0_keyOfTriple rfl rfl rfl (by decide +kernel) ⟨Nat.le_of_ble_eq_true rfl, Nat.le_of_ble_eq_true rfl⟩) (zw_preV (ci := 0) (q0 := 0) hP hK rfl rfl) rfl rfl hl.1 rfl (lv_room (Nat.le_of_ble_eq_true rfl)) dX0_insert_15 ⟨Nat.zero_le _, Nat.zero_le _⟩) ?_
      refine zw_eql (y := lN k) ((hk hz).1) ?_
      refine lv_lstore (lv' := [(4, .long (lN k)), (0, .ref h0), (1, .int x), (2, .int y), (3, .int z)]) hx hb dX0_insert_18 hl (by decide) rfl (fun ls hl => ?_)
      refine lv_aload_n hx hb dX0_insert_20 rfl (lv_at hl 1 rfl) ?_
      refine lv_lload hx hb dX0_insert_21 (lv_at hl 0 rfl) ?_
      refine zw_ci (va_runV (As := [.long (lN k)]) (rest := []) ⟨hx, hb, hml, hown, hts⟩ (zc_keysBefore l dC dI h0 ha cA n f px py pz ks cur k (Nat.le_of_lt (hk hz).2) hG) (cwV 1 hts gX0_insert_X0_keysBefore rfl rfl rfl (by decide +kernel) ⟨Nat.le_of_ble_eq_true rfl, Nat.le_of_ble_eq_true rfl⟩) (zw_preV (ci := 0) (q0 := 0) hP hK rfl rfl) rfl rfl hl.1 rfl (lv_room (Nat.le_of_ble_eq_true rfl)) dX0_insert_23 ⟨Nat.zero_le _, Nat.zero_le _⟩) ?_
      refine lv_istore (lv' := [(6, .int (nI (zk_c ks k))), (4, .long (lN k)), (0, .ref h0), (1, .int x), (2, .int y), (3, .int z)]) hx hb dX0_insert_26 hl (by decide) rfl (fun ls hl => ?_)
      refine lv_aload_n hx hb dX0_insert_28 rfl (lv_at hl 2 rfl) ?_
      refine lv_iload hx hb dX0_insert_29 (lv_at hl 0 rfl) ?_
      refine lv_lload hx hb dX0_insert_31 (lv_at hl 1 rfl) ?_
      refine zw_ci (va_runV (As := [.int (nI (zk_c ks k)), .long (lN k)]) (rest := []) ⟨hx, hb, hml, hown, hts⟩ (zc_isKeyAt l dC dI h0 ha cA n f px py pz ks cur (zk_c ks k) k (zk_c_le ks k) (Nat.le_of_lt (hk hz).2) hG) (cwV 2 hts gX0_insert_X0_isKeyAt rfl rfl rfl (by decide +kernel) ⟨Nat.le_of_ble_eq_true rfl, Nat.le_of_ble_eq_true rfl⟩) (zw_preV (ci := 0) (q0 := 0) hP hK rfl rfl) rfl rfl hl.1 rfl (lv_room (Nat.le_of_ble_eq_true rfl)) dX0_insert_33 ⟨Nat.zero_le _, Nat.zero_le _⟩) ?_
      refine zw_eqi (y := zb_I (decide (k ∈ ks))) (by rw [zk_mem_b hG.1]) ?_
      refine zw_ifeq (tgt := 41) hx hb dX0_insert_36 (by decide) (fun c_36 => ?_) (fun c_36 => absurd ((hm).symm.trans c_36) (by decide))
      refine lv_aload_n hx hb dX0_insert_41 rfl (lv_at hl 2 rfl) ?_
      refine va_get (D := (dC, dI)) (ci := 0) (v := .int (nI ks.length)) (C := RX0) (T := TX0) (N := 6) hx hb hts (by decide +kernel) hown hK hP 0 rfl rfl 4 (by decide) (hts (.fieldLink RX0 33 "PageIndex" "held" "I") (by decide +kernel)) (fun _ h9 => h9) rfl dX0_insert_42 ?_
      refine lv_sipush (v := 20000) hx hb dX0_insert_45 (by decide) ?_
      refine lv_icmp_lt (tgt := 54) hx hb dX0_insert_48 (by decide) (fun c_48 => ?_) (fun c_48 => absurd (nI_lt (b := 20000) (by omega) (by omega)) c_48)
      refine lv_aload_n hx hb dX0_insert_54 rfl (lv_at hl 2 rfl) ?_
      refine lv_iload hx hb dX0_insert_55 (lv_at hl 0 rfl) ?_
      refine lv_lload hx hb dX0_insert_57 (lv_at hl 1 rfl) ?_
      refine zw_callw (ws := zx_w h0 ha cA n f px py pz ks.length cur) (wc := zx_w h0 ha cA n f px py pz ks.length cur) (wr := []) (va_runV (As := [.int (nI (zk_c ks k)), .long (lN k)]) (rest := []) ⟨hx, hb, hml, hown, hts⟩ (zc_putIn l dC dI h0 ha cA n f px py pz ks cur s.heap.size k hkn (hk hz).2 hlen hG) (cwV 2 hts gX0_insert_X0_putIn rfl rfl rfl (by decide +kernel) ⟨Nat.le_of_ble_eq_true rfl, Nat.le_of_ble_eq_true rfl⟩) (zw_preWV (ci := 0) (q0 := 0) hP hK hD rfl rfl) rfl rfl hl.1 rfl (lv_room (Nat.le_of_ble_eq_true rfl)) dX0_insert_59 ⟨Nat.le_of_ble_eq_true rfl, Nat.le_of_ble_eq_true rfl⟩) hP hD hS hA [0, 1] [] rfl rfl (by decide) (by decide) (fun u H locs hu hP hD hK hS => ?_)
      have hP : va_P (dC, dI) vwCl (zx_w h0 u.1 u.2.1 u.2.2.1 u.2.2.2 px py pz ((zk_ins ks k).length) cur) H := hP
      have hD : va_D A (zx_w h0 u.1 u.2.1 u.2.2.1 u.2.2.2 px py pz ((zk_ins ks k).length) cur) := hD
      refine W.eq (g2 := F0 m 62 ls []) rfl ?_
      refine lv_iconst (v := 1) hx hb dX0_insert_62 (by decide) ?_
      refine W.widen (k := 1) (n := 1024) (Nat.le_of_ble_eq_true rfl) (Nat.le_of_ble_eq_true rfl) ?_
      exact W.iret hx hb hr (fun t ht hW => ⟨⟨u, rfl, hu, by rw [ht]; exact hP, va_K.moved hW.alike hK, hD⟩, hS.F ht⟩) hS.2.2 dX0_insert_63
    | true =>
      have hn3 := hG.2.2
      refine lv_iload_n hx hb dX0_insert_0 rfl (lv_at hl 1 rfl) ?_
      refine lv_iload_n hx hb dX0_insert_1 rfl (lv_at hl 2 rfl) ?_
      refine lv_iload_n hx hb dX0_insert_2 rfl (lv_at hl 3 rfl) ?_
      refine zw_ci (va_runS (As := [.int x, .int y, .int z]) (rest := []) ⟨hx, hb, hml, hown, hts⟩ (zc_areNumbers l x y z) (va_cwS 3 hts gX0_insert_X0_areNumbers rfl rfl rfl (by decide +kernel) ⟨Nat.le_of_ble_eq_true rfl, Nat.le_of_ble_eq_true rfl⟩) (preEq) rfl rfl hl.1 rfl (lv_room (Nat.le_of_ble_eq_true rfl)) dX0_insert_3 ⟨Nat.zero_le _, Nat.zero_le _⟩) ?_
      refine zw_ifne (tgt := 11) hx hb dX0_insert_6 (by decide) (fun c_6 => ?_) (fun c_6 => absurd ((hz).symm.trans c_6) (by decide))
      refine lv_aload_n hx hb dX0_insert_11 rfl (lv_at hl 0 rfl) ?_
      refine lv_iload_n hx hb dX0_insert_12 rfl (lv_at hl 1 rfl) ?_
      refine lv_iload_n hx hb dX0_insert_13 rfl (lv_at hl 2 rfl) ?_
      refine lv_iload_n hx hb dX0_insert_14 rfl (lv_at hl 3 rfl) ?_
      refine zw_cl (va_runV (As := [.int x, .int y, .int z]) (rest := []) ⟨hx, hb, hml, hown, hts⟩ (zc_keyOfTriple l dC dI h0 ha cA n f px py pz ks cur x y z) (cwV 3 hts gX0_insert_X0_keyOfTriple rfl rfl rfl (by decide +kernel) ⟨Nat.le_of_ble_eq_true rfl, Nat.le_of_ble_eq_true rfl⟩) (zw_preV (ci := 0) (q0 := 0) hP hK rfl rfl) rfl rfl hl.1 rfl (lv_room (Nat.le_of_ble_eq_true rfl)) dX0_insert_15 ⟨Nat.zero_le _, Nat.zero_le _⟩) ?_
      refine zw_eql (y := lN k) ((hk hz).1) ?_
      refine lv_lstore (lv' := [(4, .long (lN k)), (0, .ref h0), (1, .int x), (2, .int y), (3, .int z)]) hx hb dX0_insert_18 hl (by decide) rfl (fun ls hl => ?_)
      refine lv_aload_n hx hb dX0_insert_20 rfl (lv_at hl 1 rfl) ?_
      refine lv_lload hx hb dX0_insert_21 (lv_at hl 0 rfl) ?_
      refine zw_ci (va_runV (As := [.long (lN k)]) (rest := []) ⟨hx, hb, hml, hown, hts⟩ (zc_keysBefore l dC dI h0 ha cA n f px py pz ks cur k (Nat.le_of_lt (hk hz).2) hG) (cwV 1 hts gX0_insert_X0_keysBefore rfl rfl rfl (by decide +kernel) ⟨Nat.le_of_ble_eq_true rfl, Nat.le_of_ble_eq_true rfl⟩) (zw_preV (ci := 0) (q0 := 0) hP hK rfl rfl) rfl rfl hl.1 rfl (lv_room (Nat.le_of_ble_eq_true rfl)) dX0_insert_23 ⟨Nat.zero_le _, Nat.zero_le _⟩) ?_
      refine lv_istore (lv' := [(6, .int (nI (zk_c ks k))), (4, .long (lN k)), (0, .ref h0), (1, .int x), (2, .int y), (3, .int z)]) hx hb dX0_insert_26 hl (by decide) rfl (fun ls hl => ?_)
      refine lv_aload_n hx hb dX0_insert_28 rfl (lv_at hl 2 rfl) ?_
      refine lv_iload hx hb dX0_insert_29 (lv_at hl 0 rfl) ?_
      refine lv_lload hx hb dX0_insert_31 (lv_at hl 1 rfl) ?_
      refine zw_ci (va_runV (As := [.int (nI (zk_c ks k)), .long (lN k)]) (rest := []) ⟨hx, hb, hml, hown, hts⟩ (zc_isKeyAt l dC dI h0 ha cA n f px py pz ks cur (zk_c ks k) k (zk_c_le ks k) (Nat.le_of_lt (hk hz).2) hG) (cwV 2 hts gX0_insert_X0_isKeyAt rfl rfl rfl (by decide +kernel) ⟨Nat.le_of_ble_eq_true rfl, Nat.le_of_ble_eq_true rfl⟩) (zw_preV (ci := 0) (q0 := 0) hP hK rfl rfl) rfl rfl hl.1 rfl (lv_room (Nat.le_of_ble_eq_true rfl)) dX0_insert_33 ⟨Nat.zero_le _, Nat.zero_le _⟩) ?_
      refine zw_eqi (y := zb_I (decide (k ∈ ks))) (by rw [zk_mem_b hG.1]) ?_
      refine zw_ifeq (tgt := 41) hx hb dX0_insert_36 (by decide) (fun c_36 => absurd ((hm).symm.trans c_36) (by decide)) (fun c_36 => ?_)
      refine lv_iconst (v := 0) hx hb dX0_insert_39 (by decide) ?_
      refine W.widen (k := 1) (n := 1024) (Nat.le_of_ble_eq_true rfl) (Nat.le_of_ble_eq_true rfl) ?_
      exact W.iret hx hb hr (fun t ht hW => ⟨⟨(ha, cA, n, f), rfl, hG, by rw [ht]; exact hP, va_K.moved hW.alike hK, hD⟩, hS.F ht⟩) hS.2.2 dX0_insert_40
end
section
/-! Own rows: a new object of the class, a new object of the reference -/
def zk_tab (j : Nat) : Int32 := nI (([0, 1, 2, 0, 2, 1, 1, 0, 2, 2, 0, 1, 1, 2, 0, 2, 1, 0] : List Nat).getD j 0)
theorem zk_tab_x {o : Nat} (ho : o < 6) : zk_tab (3 * o) = nI (zk_px o) := by
  match o, ho with
  | 0, _ => decide
  | 1, _ => decide
  | 2, _ => decide
  | 3, _ => decide
  | 4, _ => decide
  | 5, _ => decide
theorem zk_tab_y {o : Nat} (ho : o < 6) : zk_tab (3 * o + 1) = nI (zk_py o) := by
  match o, ho with
  | 0, _ => decide
  | 1, _ => decide
  | 2, _ => decide
  | 3, _ => decide
  | 4, _ => decide
  | 5, _ => decide
theorem zk_tab_z {o : Nat} (ho : o < 6) : zk_tab (3 * o + 2) = nI (zk_pz o) := by
  match o, ho with
  | 0, _ => decide
  | 1, _ => decide
  | 2, _ => decide
  | 3, _ => decide
  | 4, _ => decide
  | 5, _ => decide
abbrev zi_w (h0 : Nat) (a b d : Int32) (k : Value) (N : Int32) (cur : Int64) : Nat × va_E := (h0, .inr (0, [.int a, .int b, .int d, k, .int N, .long cur]))
def zi_P (av : List Value) (D : va_G) (cl : List vw_C) (ws : va_W) (sz t : Nat) : Array Value → State → Prop := va_Pc av (fun U => U.heap.size = sz ∧ va_P D cl ws U.heap ∧ va_K D cl [] U ∧ va_D (fun _ => True) ws ∧ va_Z "PageIndex" "PLACES" "[I" (.ref t) (va_A ws sz) U U.heap ∧ va_T .int t 18 (fun j => .int (zk_tab j)) (va_A ws sz) U U.heap)
theorem zi_bl {av : List Value} {D : va_G} {cl : List vw_C} {ws : va_W} {sz t : Nat} : FrameBlind (zi_P av D cl ws sz t) := fun a U g mk q => ⟨q.1, q.2.1, q.2.2.1, va_K.moved (u := U) (U := U.calling g mk a) (Vm.Alike.refl U.vm) q.2.2.2.1, q.2.2.2.2.1, va_Z.moved (u := U) (U := U.calling g mk a) (Vm.Alike.refl U.vm) q.2.2.2.2.2.1, va_T.moved (u := U) (U := U.calling g mk a) (Vm.Alike.refl U.vm) q.2.2.2.2.2.2⟩
set_option maxHeartbeats 4000000 in
set_option maxRecDepth 100000 in
/-- PageIndex(v) -/
theorem zc_init (l : Launch) (dC : Nat → ClassId) (dI : Nat → Nat → Nat) (h0 sz t : Nat) (v : Int32) (o : Nat) (ho : o < 6) (eo : zf_fm v = nI o) : Met l yX0_init wsX0_init ({ frames := 1, cells := 1, slots := 64, locals := 40 }) (zi_P [.ref h0, .int v] (dC, dI) vwCl [zi_w h0 0 0 0 .null 0 0] sz t) (zx_Q dC dI h0 (nI (zk_px o)) (nI (zk_py o)) (nI (zk_pz o)) none [] (-1) (va_A [zi_w h0 0 0 0 .null 0 0] sz)) 1 64 (va_A [zi_w h0 0 0 0 .null 0 0] sz) := by
  refine Met.ofW (cc := cX0_init) (maxL := 3) (ret := none) (by decide) rfl ?_
  intro p e s m args below meth c s₁ B hml hv
  obtain ⟨rfl, hsz, hP, hK, hD0, hZ, hT⟩ := hv
  have hx := B.exec
  have hb := B.bytes
  have hr := B.returns
  have hts := atoms_spec (ws := wsX0_init) B.pre
  have hown : s.vm.findClass RX0 = some m.cls := findClass_of_methodNamed B.named
  have hin : meth.name = "<init>" := (name_of_methodNamed B.named B.method).1
  subst hsz
  have hD := hD0.self (sz := s.heap.size)
  generalize hAe : va_A [zi_w h0 0 0 0 .null 0 0] s.heap.size = A at hD hZ hT ⊢
  have hA : ∀ q : Nat, s.heap.size ≤ q → A q := fun q h => by rw [← hAe]; exact Or.inr h
  have hS : va_S A s.heap s.heap [] := va_S.rf
  have hP : va_P (dC, dI) vwCl [zi_w h0 0 0 0 .null 0 0] s.heap := hP
  have hl := lv_entry ([.ref h0, .int v]) (n := 3) (Nat.le_of_ble_eq_true rfl)
  rw [lg_entry_eq]
  generalize (lg_sl ([.ref h0, .int v]) ++ List.replicate (3 - (lg_sl ([.ref h0, .int v])).length) Slot.unset).toArray = ls at hl ⊢
  have hl : lv_has ls 3 [(0, .ref h0), (1, .int v)] := hl
  refine lv_aload_n hx hb dX0_init_0 rfl (lv_at hl 0 rfl) ?_
  refine W.objInit hx hb hown (hts (.methodLink RX0 3 objectInit) (by decide +kernel)) (hts (.instanceMethod objectInit) (by decide +kernel)) (hts _ (List.mem_of_getElem? (i := 3) rfl)) rfl (by rw [hml]; exact hl.1) rfl dX0_init_1 (Nat.le_of_ble_eq_true rfl) (Nat.le_of_ble_eq_true rfl) ?_
  refine W.eq (g2 := F0 m 4 ls []) rfl ?_
  refine lv_iconst (v := 3) hx hb dX0_init_4 (by decide) ?_
  refine lv_iload_n hx hb dX0_init_5 rfl (lv_at hl 1 rfl) ?_
  refine lv_bipush (v := 6) hx hb dX0_init_6 (by decide) ?_
  refine zw_ci (va_runS (As := [.int v, .int 6]) (rest := [.int 3]) ⟨hx, hb, hml, hown, hts⟩ (zj_floorMod l v) (va_cwS 2 hts gX0_init_J9_floorMod_7cf53 rfl rfl rfl (by decide +kernel) ⟨Nat.le_of_ble_eq_true rfl, Nat.le_of_ble_eq_true rfl⟩) (preEq) rfl rfl hl.1 rfl (lv_room (Nat.le_of_ble_eq_true rfl)) dX0_init_8 ⟨Nat.zero_le _, Nat.zero_le _⟩) ?_
  refine zw_eqi (y := nI o) eo ?_
  refine lv_imul hx hb dX0_init_11 ?_
  refine zw_eqi (y := nI (3 * o)) (pk_mul 3 o) ?_
  refine lv_istore_n (lv' := [(2, .int (nI (3 * o))), (0, .ref h0), (1, .int v)]) hx hb dX0_init_12 rfl hl (by decide) rfl (fun ls hl => ?_)
  refine lv_aload_n hx hb dX0_init_13 rfl (lv_at hl 1 rfl) ?_
  refine va_gets hx hb hZ hS hown (hts (.fieldLink RX0 15 "PageIndex" "PLACES" "[I") (by decide +kernel)) (fun _ h9 => h9) dX0_init_14 ?_
  refine lv_iload_n hx hb dX0_init_17 rfl (lv_at hl 0 rfl) ?_
  refine va_ti (v := .int (nI (zk_px o))) hx hb hT hS (pk_in (3 * o) 18 (by omega) rfl (by omega)) (by rw [nI_clamp (by omega), zk_tab_x ho]) dX0_init_18 ?_
  refine va_putF (D := (dC, dI)) (ci := 0) (v := .int (nI (zk_px o))) (ty := .int) (C := RX0) (T := TX0) (N := 6) hx hb hts (by decide +kernel) tyX0 tyX0_ok nmX0 hown hK hP hD hS 0 rfl rfl 0 (by decide) (hts (.fieldLink RX0 19 "PageIndex" "placeOfX" "I") (by decide +kernel)) (fun _ h9 => h9) rfl hin rfl (by decide +kernel) rfl rfl (Nat.le_of_ble_eq_true rfl) dX0_init_19 (fun H locs hP hD hS => ?_)
  have hP : va_P (dC, dI) vwCl [zi_w h0 (nI (zk_px o)) 0 0 .null 0 0] H := hP
  have hD : va_D A [zi_w h0 (nI (zk_px o)) 0 0 .null 0 0] := hD
  refine lv_aload_n hx hb dX0_init_22 rfl (lv_at hl 1 rfl) ?_
  refine va_gets hx hb hZ hS hown (hts (.fieldLink RX0 15 "PageIndex" "PLACES" "[I") (by decide +kernel)) (fun _ h9 => h9) dX0_init_23 ?_
  refine lv_iload_n hx hb dX0_init_26 rfl (lv_at hl 0 rfl) ?_
  refine lv_iconst (v := 1) hx hb dX0_init_27 (by decide) ?_
  refine lv_iadd hx hb dX0_init_28 ?_
  refine zw_eqi (y := nI (3 * o + 1)) (nI_1 _) ?_
  refine va_ti (v := .int (nI (zk_py o))) hx hb hT hS (pk_in (3 * o + 1) 18 (by omega) rfl (by omega)) (by rw [nI_clamp (by omega), zk_tab_y ho]) dX0_init_29 ?_
  refine va_putF (D := (dC, dI)) (ci := 0) (v := .int (nI (zk_py o))) (ty := .int) (C := RX0) (T := TX0) (N := 6) hx hb hts (by decide +kernel) tyX0 tyX0_ok nmX0 hown hK hP hD hS 0 rfl rfl 1 (by decide) (hts (.fieldLink RX0 23 "PageIndex" "placeOfY" "I") (by decide +kernel)) (fun _ h9 => h9) rfl hin rfl (by decide +kernel) rfl rfl (Nat.le_of_ble_eq_true rfl) dX0_init_30 (fun H locs hP hD hS => ?_)
  have hP : va_P (dC, dI) vwCl [zi_w h0 (nI (zk_px o)) (nI (zk_py o)) 0 .null 0 0] H := hP
  have hD : va_D A [zi_w h0 (nI (zk_px o)) (nI (zk_py o)) 0 .null 0 0] := hD
  refine lv_aload_n hx hb dX0_init_33 rfl (lv_at hl 1 rfl) ?_
  refine va_gets hx hb hZ hS hown (hts (.fieldLink RX0 15 "PageIndex" "PLACES" "[I") (by decide +kernel)) (fun _ h9 => h9) dX0_init_34 ?_
  refine lv_iload_n hx hb dX0_init_37 rfl (lv_at hl 0 rfl) ?_
  refine lv_iconst (v := 2) hx hb dX0_init_38 (by decide) ?_
  refine lv_iadd hx hb dX0_init_39 ?_
  refine zw_eqi (y := nI (3 * o + 2)) (nI_add _ 2) ?_
  refine va_ti (v := .int (nI (zk_pz o))) hx hb hT hS (pk_in (3 * o + 2) 18 (by omega) rfl (by omega)) (by rw [nI_clamp (by omega), zk_tab_z ho]) dX0_init_40 ?_
  refine va_putF (D := (dC, dI)) (ci := 0) (v := .int (nI (zk_pz o))) (ty := .int) (C := RX0) (T := TX0) (N := 6) hx hb hts (by decide +kernel) tyX0 tyX0_ok nmX0 hown hK hP hD hS 0 rfl rfl 2 (by decide) (hts (.fieldLink RX0 26 "PageIndex" "placeOfZ" "I") (by decide +kernel)) (fun _ h9 => h9) rfl hin rfl (by decide +kernel) rfl rfl (Nat.le_of_ble_eq_true rfl) dX0_init_41 (fun H locs hP hD hS => ?_)
  have hP : va_P (dC, dI) vwCl [zi_w h0 (nI (zk_px o)) (nI (zk_py o)) (nI (zk_pz o)) .null 0 0] H := hP
  have hD : va_D A [zi_w h0 (nI (zk_px o)) (nI (zk_py o)) (nI (zk_pz o)) .null 0 0] := hD
  refine lv_aload_n hx hb dX0_init_44 rfl (lv_at hl 1 rfl) ?_
  refine lv_bipush (v := 64) hx hb dX0_init_45 (by decide) ?_
  refine va_newa (atype := .long) (n := 64) (a0 := (64, .inr (.inl (fun _ => 0)))) (N' := 64) (ty := .long) hx hb (hts (.arrayClass .long) (by decide +kernel)) rfl hK hP hD hS hA (fun _ => rfl) (by decide) (by decide) (by decide) (Nat.le_of_ble_eq_true rfl) (Nat.le_of_ble_eq_true rfl) dX0_init_47 (fun q cB H hK hP hD hS => ?_)
  have hP : va_P (dC, dI) vwCl [zi_w h0 (nI (zk_px o)) (nI (zk_py o)) (nI (zk_pz o)) .null 0 0, (q, .inl (cB, 64, .inr (.inl (fun _ => 0))))] H := hP
  have hD : va_D A [zi_w h0 (nI (zk_px o)) (nI (zk_py o)) (nI (zk_pz o)) .null 0 0, (q, .inl (cB, 64, .inr (.inl (fun _ => 0))))] := hD
  have hK : va_K (dC, dI) vwCl [(cB, .long)] s := hK
  refine va_put (D := (dC, dI)) (ci := 0) (v := .ref q) (ty := .array .long) (C := RX0) (T := TX0) (N := 6) hx hb hts (by decide +kernel) tyX0 tyX0_ok nmX0 hown hK hP hD hS 0 rfl rfl 3 (by decide) (hts (.fieldLink RX0 29 "PageIndex" "keys" "[J") (by decide +kernel)) (fun _ h9 => h9) rfl (by decide +kernel) rfl rfl (Nat.le_of_ble_eq_true rfl) dX0_init_49 (fun H locs hP hD hS => ?_)
  have hP : va_P (dC, dI) vwCl [zi_w h0 (nI (zk_px o)) (nI (zk_py o)) (nI (zk_pz o)) (.ref q) 0 0, (q, .inl (cB, 64, .inr (.inl (fun _ => 0))))] H := hP
  have hD : va_D A [zi_w h0 (nI (zk_px o)) (nI (zk_py o)) (nI (zk_pz o)) (.ref q) 0 0, (q, .inl (cB, 64, .inr (.inl (fun _ => 0))))] := hD
  refine lv_aload_n hx hb dX0_init_52 rfl (lv_at hl 1 rfl) ?_
  refine lv_iconst (v := 0) hx hb dX0_init_53 (by decide) ?_
  refine va_put (D := (dC, dI)) (ci := 0) (v := .int 0) (ty := .int) (C := RX0) (T := TX0) (N := 6) hx hb hts (by decide +kernel) tyX0 tyX0_ok nmX0 hown hK hP hD hS 0 rfl rfl 4 (by decide) (hts (.fieldLink RX0 33 "PageIndex" "held" "I") (by decide +kernel)) (fun _ h9 => h9) rfl (by decide +kernel) rfl rfl (Nat.le_of_ble_eq_true rfl) dX0_init_54 (fun H locs hP hD hS => ?_)
  refine lv_aload_n hx hb dX0_init_57 rfl (lv_at hl 1 rfl) ?_
  refine lv_ldc2 (v := (-1)) hx hb hown (hts (.constantLong RX0 36 (-1)) (by decide +kernel)) dX0_init_58 ?_
  have hP : va_P (dC, dI) vwCl [zi_w h0 (nI (zk_px o)) (nI (zk_py o)) (nI (zk_pz o)) (.ref q) 0 0, (q, .inl (cB, 64, .inr (.inl (fun _ => 0))))] H := hP
  have hD : va_D A [zi_w h0 (nI (zk_px o)) (nI (zk_py o)) (nI (zk_pz o)) (.ref q) 0 0, (q, .inl (cB, 64, .inr (.inl (fun _ => 0))))] := hD
  refine va_put (D := (dC, dI)) (ci := 0) (v := .long (-1)) (ty := .long) (C := RX0) (T := TX0) (N := 6) hx hb hts (by decide +kernel) tyX0 tyX0_ok nmX0 hown hK hP hD hS 0 rfl rfl 5 (by decide) (hts (.fieldLink RX0 38 "PageIndex" "cursor" "J") (by decide +kernel)) (fun _ h9 => h9) rfl (by decide +kernel) rfl rfl (Nat.le_of_ble_eq_true rfl) dX0_init_61 (fun H locs hP hD hS => ?_)
  have hP : va_P (dC, dI) vwCl (zx_w h0 q cB 64 (fun _ => 0) (nI (zk_px o)) (nI (zk_py o)) (nI (zk_pz o)) 0 (-1)) H := hP
  have hD : va_D A (zx_w h0 q cB 64 (fun _ => 0) (nI (zk_px o)) (nI (zk_py o)) (nI (zk_pz o)) 0 (-1)) := hD
  exact W.vret hx hb hr (fun t ht hW => ⟨⟨(q, cB, 64, fun _ => 0), rfl, ⟨List.Pairwise.nil, fun k hk => (by cases hk), Nat.zero_le _, ⟨Nat.le_refl _, show 64 ≤ 1024 by decide⟩, fun j hj => (by cases hj)⟩, by rw [ht]; exact hP, va_K.moved hW.alike hK, hD⟩, hS.F ht⟩) hS.2.2 dX0_init_64
abbrev zi_m (h0 : Nat) (k : Value) (N o : Int32) (cur : Int64) : Nat × va_E := (h0, .inr (1, [k, .int N, .int o, .long cur]))
set_option maxHeartbeats 4000000 in
set_option maxRecDepth 100000 in
/-- PageIndexModel(v) -/
theorem zd_init (l : Launch) (dC : Nat → ClassId) (dI : Nat → Nat → Nat) (h0 sz : Nat) (v : Int32) (o : Nat) (eo : zf_fm v = nI o) : Met l yX1_init wsX1_init ({ frames := 1, cells := 1, slots := 20000, locals := 40 }) (zw_Pw [.ref h0, .int v] (dC, dI) vwCl [zi_m h0 .null 0 0 0] [] sz) (zw_Qw (S := Nat × ClassId) (fun _ => none) (fun _ => True) (dC, dI) vwCl (fun u => zy_w h0 u.1 u.2 (fun _ => 0) o 0 (-1)) (fun u => [(u.2, .long)]) (va_A [zi_m h0 .null 0 0 0] sz)) 1 20000 (va_A [zi_m h0 .null 0 0 0] sz) := by
  refine Met.ofW (cc := cX1_init) (maxL := 2) (ret := none) (by decide) rfl ?_
  intro p e s m args below meth c s₁ B hml hv
  obtain ⟨rfl, hsz, hP, hK, hD0⟩ := hv
  have hx := B.exec
  have hb := B.bytes
  have hr := B.returns
  have hts := atoms_spec (ws := wsX1_init) B.pre
  have hown : s.vm.findClass RX1 = some m.cls := findClass_of_methodNamed B.named
  have hin : meth.name = "<init>" := (name_of_methodNamed B.named B.method).1
  subst hsz
  have hD := hD0.self (sz := s.heap.size)
  generalize hAe : va_A [zi_m h0 .null 0 0 0] s.heap.size = A at hD ⊢
  have hA : ∀ q : Nat, s.heap.size ≤ q → A q := fun q h => by rw [← hAe]; exact Or.inr h
  have hS : va_S A s.heap s.heap [] := va_S.rf
  have hP : va_P (dC, dI) vwCl [zi_m h0 .null 0 0 0] s.heap := hP
  have hl := lv_entry ([.ref h0, .int v]) (n := 2) (Nat.le_of_ble_eq_true rfl)
  rw [lg_entry_eq]
  generalize (lg_sl ([.ref h0, .int v]) ++ List.replicate (2 - (lg_sl ([.ref h0, .int v])).length) Slot.unset).toArray = ls at hl ⊢
  have hl : lv_has ls 2 [(0, .ref h0), (1, .int v)] := hl
  refine lv_aload_n hx hb dX1_init_0 rfl (lv_at hl 0 rfl) ?_
  refine W.objInit hx hb hown (hts (.methodLink RX1 1 objectInit) (by decide +kernel)) (hts (.instanceMethod objectInit) (by decide +kernel)) (hts _ (List.mem_of_getElem? (i := 3) rfl)) rfl (by rw [hml]; exact hl.1) rfl dX1_init_1 (Nat.le_of_ble_eq_true rfl) (Nat.le_of_ble_eq_true rfl) ?_
  refine W.eq (g2 := F0 m 4 ls []) rfl ?_
  refine lv_aload_n hx hb dX1_init_4 rfl (lv_at hl 0 rfl) ?_
  refine lv_sipush (v := 20000) hx hb dX1_init_5 (by decide) ?_
  refine va_newa (atype := .long) (n := 20000) (a0 := (20000, .inr (.inl (fun _ => 0)))) (N' := 20000) (ty := .long) hx hb (hts (.arrayClass .long) (by decide +kernel)) rfl hK hP hD hS hA (fun _ => rfl) (by decide) (by decide) (by decide) (Nat.le_of_ble_eq_true rfl) (Nat.le_of_ble_eq_true rfl) dX1_init_8 (fun q cB H hK hP hD hS => ?_)
  have hP : va_P (dC, dI) vwCl [zi_m h0 .null 0 0 0, (q, .inl (cB, 20000, .inr (.inl (fun _ => 0))))] H := hP
  have hD : va_D A [zi_m h0 .null 0 0 0, (q, .inl (cB, 20000, .inr (.inl (fun _ => 0))))] := hD
  have hK : va_K (dC, dI) vwCl [(cB, .long)] s := hK
  refine va_putF (D := (dC, dI)) (ci := 1) (v := .ref q) (ty := .array .long) (C := RX1) (T := TX1) (N := 4) hx hb hts (by decide +kernel) tyX1 tyX1_ok nmX1 hown hK hP hD hS 0 rfl rfl 0 (by decide) (hts (.fieldLink RX1 7 "PageIndexModel" "keys" "[J") (by decide +kernel)) (fun _ h9 => h9) rfl hin rfl (by decide +kernel) rfl rfl (Nat.le_of_ble_eq_true rfl) dX1_init_10 (fun H locs hP hD hS => ?_)
  have hP : va_P (dC, dI) vwCl [zi_m h0 (.ref q) 0 0 0, (q, .inl (cB, 20000, .inr (.inl (fun _ => 0))))] H := hP
  have hD : va_D A [zi_m h0 (.ref q) 0 0 0, (q, .inl (cB, 20000, .inr (.inl (fun _ => 0))))] := hD
  refine lv_aload_n hx hb dX1_init_13 rfl (lv_at hl 0 rfl) ?_
  refine lv_ldc2 (v := (-1)) hx hb hown (hts (.constantLong RX1 13 (-1)) (by decide +kernel)) dX1_init_14 ?_
  refine va_put (D := (dC, dI)) (ci := 1) (v := .long (-1)) (ty := .long) (C := RX1) (T := TX1) (N := 4) hx hb hts (by decide +kernel) tyX1 tyX1_ok nmX1 hown hK hP hD hS 0 rfl rfl 3 (by decide) (hts (.fieldLink RX1 15 "PageIndexModel" "cursor" "J") (by decide +kernel)) (fun _ h9 => h9) rfl (by decide +kernel) rfl rfl (Nat.le_of_ble_eq_true rfl) dX1_init_17 (fun H locs hP hD hS => ?_)
  have hP : va_P (dC, dI) vwCl [zi_m h0 (.ref q) 0 0 (-1), (q, .inl (cB, 20000, .inr (.inl (fun _ => 0))))] H := hP
  have hD : va_D A [zi_m h0 (.ref q) 0 0 (-1), (q, .inl (cB, 20000, .inr (.inl (fun _ => 0))))] := hD
  refine lv_aload_n hx hb dX1_init_20 rfl (lv_at hl 0 rfl) ?_
  refine lv_iload_n hx hb dX1_init_21 rfl (lv_at hl 1 rfl) ?_
  refine lv_bipush (v := 6) hx hb dX1_init_22 (by decide) ?_
  refine zw_ci (va_runS (As := [.int v, .int 6]) (rest := [.ref h0]) ⟨hx, hb, hml, hown, hts⟩ (zj_floorMod l v) (va_cwS 2 hts gX1_init_J9_floorMod_7cf53 rfl rfl rfl (by decide +kernel) ⟨Nat.le_of_ble_eq_true rfl, Nat.le_of_ble_eq_true rfl⟩) (preEq) rfl rfl hl.1 rfl (lv_room (Nat.le_of_ble_eq_true rfl)) dX1_init_24 ⟨Nat.le_of_ble_eq_true rfl, Nat.le_of_ble_eq_true rfl⟩) ?_
  refine zw_eqi (y := nI o) eo ?_
  refine va_putF (D := (dC, dI)) (ci := 1) (v := .int (nI o)) (ty := .int) (C := RX1) (T := TX1) (N := 4) hx hb hts (by decide +kernel) tyX1 tyX1_ok nmX1 hown hK hP hD hS 0 rfl rfl 2 (by decide) (hts (.fieldLink RX1 25 "PageIndexModel" "order" "I") (by decide +kernel)) (fun _ h9 => h9) rfl hin rfl (by decide +kernel) rfl rfl (Nat.le_of_ble_eq_true rfl) dX1_init_27 (fun H locs hP hD hS => ?_)
  have hP : va_P (dC, dI) vwCl (zy_w h0 q cB (fun _ => 0) o 0 (-1)) H := hP
  have hD : va_D A (zy_w h0 q cB (fun _ => 0) o 0 (-1)) := hD
  exact W.vret hx hb hr (fun t ht hW => ⟨⟨(q, cB), rfl, trivial, by rw [ht]; exact hP, va_K.moved hW.alike hK, hD⟩, hS.F ht⟩) hS.2.2 dX1_init_30
end
section
/-! Own rows: the reference's cut goes through the row and keeps what doesn't begin so -/
theorem zk_cpy0 {f g : Nat → Int64} {a b : Nat} : va_cpy f g a b 0 = g := by
  funext j
  exact pk_cpy_out (by omega)
theorem zk_take_1 {ks : List Nat} {j : Nat} (h : j < ks.length) : ks.take (j + 1) = ks.take j ++ [ks.getD j 0] := by
  rw [List.take_add_one, List.getD_eq_getElem?_getD, List.getElem?_eq_getElem h]
  rfl
def zk_cu (ks : List Nat) (m : Nat → Bool) (f fk : Nat → Int64) (j kp : Nat) : Prop := kp = ((ks.take j).filter (fun k => !m k)).length ∧ (∀ t, t < kp → fk t = lN (((ks.take j).filter (fun k => !m k)).getD t 0)) ∧ ∀ t, j ≤ t → fk t = f t
theorem zk_cu_0 (ks : List Nat) (m : Nat → Bool) (f : Nat → Int64) : zk_cu ks m f f 0 0 := ⟨rfl, fun t h => absurd h (Nat.not_lt_zero t), fun _ _ => rfl⟩
theorem zk_cu_le {ks : List Nat} {m : Nat → Bool} {f fk : Nat → Int64} {j kp : Nat} (h : zk_cu ks m f fk j kp) : kp ≤ j := by
  rw [h.1]
  refine Nat.le_trans (List.length_filter_le _ _) ?_
  rw [List.length_take]
  exact Nat.min_le_left _ _
theorem zk_cu_skip {ks : List Nat} {m : Nat → Bool} {f fk : Nat → Int64} {j kp : Nat} (h : zk_cu ks m f fk j kp) (hj : j < ks.length) (hm : m (ks.getD j 0) = true) : zk_cu ks m f fk (j + 1) kp := by
  have e : (ks.take (j + 1)).filter (fun k => !m k) = (ks.take j).filter (fun k => !m k) := by
    rw [zk_take_1 hj, List.filter_append, List.filter_cons_of_neg (by rw [hm]; decide), List.filter_nil, List.append_nil]
  unfold zk_cu
  rw [e]
  exact ⟨h.1, h.2.1, fun t ht => h.2.2 t (by omega)⟩
theorem zk_cu_keep {ks : List Nat} {m : Nat → Bool} {f fk : Nat → Int64} {j kp : Nat} (h : zk_cu ks m f fk j kp) (hj : j < ks.length) (hm : m (ks.getD j 0) = false) : zk_cu ks m f (vp_updL fk kp (lN (ks.getD j 0))) (j + 1) (kp + 1) := by
  have hle := zk_cu_le h
  have e : (ks.take (j + 1)).filter (fun k => !m k) = (ks.take j).filter (fun k => !m k) ++ [ks.getD j 0] := by
    rw [zk_take_1 hj, List.filter_append, List.filter_cons_of_pos (by rw [hm]; decide), List.filter_nil]
  unfold zk_cu
  rw [e]
  generalize ks.getD j 0 = x
  refine ⟨by rw [List.length_append, ← h.1]; rfl, ?_, ?_⟩
  · intro t ht
    rw [List.getD_eq_getElem?_getD, List.getElem?_append]
    by_cases q : t = kp
    · subst q
      rw [pk_uLs, if_neg (by rw [← h.1]; omega), ← h.1, Nat.sub_self]
      rfl
    · rw [pk_uLn q, if_pos (by rw [← h.1]; omega), h.2.1 t (by omega), List.getD_eq_getElem?_getD]
  · intro t ht
    rw [pk_uLn (by omega)]
    exact h.2.2 t (by omega)
theorem zk_cu_end {ks : List Nat} {m : Nat → Bool} {f fk : Nat → Int64} {kp : Nat} (hG : zk_R ks f) (h : zk_cu ks m f fk ks.length kp) : kp = (ks.filter (fun k => !m k)).length ∧ ks.length - kp = ks.countP m ∧ zk_R (ks.filter (fun k => !m k)) fk := by
  obtain ⟨hs, h60, hn, hf⟩ := hG
  obtain ⟨h1, h2, h3⟩ := h
  rw [List.take_length] at h1 h2
  have hl := List.length_filter_le (fun k => !m k) ks
  refine ⟨h1, ?_, hs.filter _, fun k hk => h60 k (List.mem_filter.mp hk).1, by omega, fun j hj => h2 j (by omega)⟩
  rw [h1, ← List.countP_eq_length_filter]
  have e := List.length_eq_countP_add_countP (p := m) (l := ks)
  have e2 : ks.countP (fun k => !m k) = ks.countP (fun a => decide ¬ m a = true) := List.countP_congr (fun x _ => by simp)
  omega
theorem zk_cut_no {ks : List Nat} {i : Nat} {v a b d : Int32} (h60 : ∀ k ∈ ks, k < 1152921504606846976) (hi : i ≤ 3) (ev : v = nI i) (h : zf_fn v a b d = false) : ks.filter (fun k => !zk_m i a b d k) = ks ∧ ks.countP (zk_m i a b d) = 0 := by
  have hm : ∀ k ∈ ks, zk_m i a b d k = false := fun k hk => zf_fn_no hi (ev ▸ h) (h60 k hk)
  constructor
  · rw [List.filter_eq_self]
    intro k hk
    rw [hm k hk]
    rfl
  · rw [List.countP_eq_zero]
    intro k hk
    rw [hm k hk]
    decide
end
section
set_option maxHeartbeats 4000000 in
set_option maxRecDepth 100000 in
/-- isNumber(v) -/
theorem zd_isNumber (l : Launch) (v : Int32) : Met l yX1_isNumber wsX1_isNumber ({ frames := 0, cells := 0, slots := 0, locals := 0 }) (fun w9 _ => w9 = ([.int v] : List Value).toArray) (zw_Q (some (.int (zb_I (zf_n v))))) 0 0 (fun _ => False) := by
  refine Met.ofW (cc := cX1_isNumber) (maxL := 1) (ret := (some .boolean)) (by decide) rfl ?_
  intro p e s m args below meth c s₁ B hml hv
  obtain rfl := hv
  have hx := B.exec
  have hb := B.bytes
  have hr := B.returns
  have hts := atoms_spec (ws := wsX1_isNumber) B.pre
  have hown : s.vm.findClass RX1 = some m.cls := findClass_of_methodNamed B.named
  have hl := lv_entry ([.int v]) (n := 1) (Nat.le_of_ble_eq_true rfl)
  rw [lg_entry_eq]
  generalize (lg_sl ([.int v]) ++ List.replicate (1 - (lg_sl ([.int v])).length) Slot.unset).toArray = ls at hl ⊢
  have hl : lv_has ls 1 [(0, .int v)] := hl
  refine lv_iload_n hx hb dX1_isNumber_0 rfl (lv_at hl 0 rfl) ?_
  refine lv_if_lt (tgt := 14) hx hb dX1_isNumber_1 (by decide) (fun c_1 => ?_) (fun c_1 => ?_)
  · refine lv_iconst (v := 0) hx hb dX1_isNumber_14 (by decide) ?_
    refine zw_eqi (y := zb_I (zf_n v)) (by simp [zb_I, zf_n, c_1]) ?_
    exact W.zret hx hb hr (zb_nar _) (fun t ht hW => ⟨rfl, ht⟩) (fun q h => by cases h) dX1_isNumber_15
  · refine lv_iload_n hx hb dX1_isNumber_4 rfl (lv_at hl 0 rfl) ?_
    refine lv_ldc (v := 1048576) hx hb hown (hts (.constant RX1 29 1048576) (by decide +kernel)) dX1_isNumber_5 ?_
    refine lv_icmp_ge (tgt := 14) hx hb dX1_isNumber_7 (by decide) (fun c_7 => ?_) (fun c_7 => ?_)
    · have h7 : (1048575 : Int32) < v := zf_up.mp c_7
      refine lv_iconst (v := 0) hx hb dX1_isNumber_14 (by decide) ?_
      refine zw_eqi (y := zb_I (zf_n v)) (by simp [zb_I, zf_n, c_1, h7]) ?_
      exact W.zret hx hb hr (zb_nar _) (fun t ht hW => ⟨rfl, ht⟩) (fun q h => by cases h) dX1_isNumber_15
    · have h7 : ¬ (1048575 : Int32) < v := fun q => c_7 (zf_up.mpr q)
      refine lv_iconst (v := 1) hx hb dX1_isNumber_10 (by decide) ?_
      refine lv_goto (tgt := 15) hx hb dX1_isNumber_11 (by decide) ?_
      refine zw_eqi (y := zb_I (zf_n v)) (by simp [zb_I, zf_n, c_1, h7]) ?_
      exact W.zret hx hb hr (zb_nar _) (fun t ht hW => ⟨rfl, ht⟩) (fun q h => by cases h) dX1_isNumber_15
set_option maxHeartbeats 4000000 in
set_option maxRecDepth 100000 in
/-- areNumbers(k, a, b, d) -/
theorem zd_areNumbers (l : Launch) (k : Int32) (a : Int32) (b : Int32) (d : Int32) : Met l yX1_areNumbers wsX1_areNumbers ({ frames := 1, cells := 0, slots := 0, locals := 20 }) (fun w9 _ => w9 = ([.int k, .int a, .int b, .int d] : List Value).toArray) (zw_Q (some (.int (zb_I (zf_fn k a b d))))) 0 0 (fun _ => False) := by
  refine Met.ofW (cc := cX1_areNumbers) (maxL := 4) (ret := (some .boolean)) (by decide) rfl ?_
  intro p e s m args below meth c s₁ B hml hv
  obtain rfl := hv
  have hx := B.exec
  have hb := B.bytes
  have hr := B.returns
  have hts := atoms_spec (ws := wsX1_areNumbers) B.pre
  have hown : s.vm.findClass RX1 = some m.cls := findClass_of_methodNamed B.named
  have hl := lv_entry ([.int k, .int a, .int b, .int d]) (n := 4) (Nat.le_of_ble_eq_true rfl)
  rw [lg_entry_eq]
  generalize (lg_sl ([.int k, .int a, .int b, .int d]) ++ List.replicate (4 - (lg_sl ([.int k, .int a, .int b, .int d])).length) Slot.unset).toArray = ls at hl ⊢
  have hl : lv_has ls 4 [(0, .int k), (1, .int a), (2, .int b), (3, .int d)] := hl
  refine lv_iload_n hx hb dX1_areNumbers_0 rfl (lv_at hl 0 rfl) ?_
  refine lv_iconst (v := 1) hx hb dX1_areNumbers_1 (by decide) ?_
  refine lv_icmp_lt (tgt := 12) hx hb dX1_areNumbers_2 (by decide) (fun c_2 => ?_) (fun c_2 => ?_)
  · refine lv_iload_n hx hb dX1_areNumbers_12 rfl (lv_at hl 0 rfl) ?_
    refine lv_iconst (v := 2) hx hb dX1_areNumbers_13 (by decide) ?_
    refine lv_icmp_lt (tgt := 24) hx hb dX1_areNumbers_14 (by decide) (fun c_14 => ?_) (fun c_14 => ?_)
    · refine lv_iload_n hx hb dX1_areNumbers_24 rfl (lv_at hl 0 rfl) ?_
      refine lv_iconst (v := 3) hx hb dX1_areNumbers_25 (by decide) ?_
      refine lv_icmp_lt (tgt := 36) hx hb dX1_areNumbers_26 (by decide) (fun c_26 => ?_) (fun c_26 => ?_)
      · refine lv_iconst (v := 1) hx hb dX1_areNumbers_36 (by decide) ?_
        refine lv_goto (tgt := 41) hx hb dX1_areNumbers_37 (by decide) ?_
        refine zw_eqi (y := zb_I (zf_fn k a b d)) (by simp [zb_I, zf_fn, c_2, c_14, c_26]) ?_
        exact W.zret hx hb hr (zb_nar _) (fun t ht hW => ⟨rfl, ht⟩) (fun q h => by cases h) dX1_areNumbers_41
      · refine lv_iload_n hx hb dX1_areNumbers_29 rfl (lv_at hl 3 rfl) ?_
        refine zw_ci (va_runS (As := [.int d]) (rest := []) ⟨hx, hb, hml, hown, hts⟩ (zd_isNumber l d) (va_cwS 1 hts gX1_areNumbers_X1_isNumber rfl rfl rfl (by decide +kernel) ⟨Nat.le_of_ble_eq_true rfl, Nat.le_of_ble_eq_true rfl⟩) (preEq) rfl rfl hl.1 rfl (lv_room (Nat.le_of_ble_eq_true rfl)) dX1_areNumbers_30 ⟨Nat.zero_le _, Nat.zero_le _⟩) ?_
        refine zw_ifeq (tgt := 40) hx hb dX1_areNumbers_33 (by decide) (fun c_33 => ?_) (fun c_33 => ?_)
        · refine lv_iconst (v := 0) hx hb dX1_areNumbers_40 (by decide) ?_
          refine zw_eqi (y := zb_I (zf_fn k a b d)) (by simp [zb_I, zf_fn, c_2, c_14, c_26, c_33]) ?_
          exact W.zret hx hb hr (zb_nar _) (fun t ht hW => ⟨rfl, ht⟩) (fun q h => by cases h) dX1_areNumbers_41
        · refine lv_iconst (v := 1) hx hb dX1_areNumbers_36 (by decide) ?_
          refine lv_goto (tgt := 41) hx hb dX1_areNumbers_37 (by decide) ?_
          refine zw_eqi (y := zb_I (zf_fn k a b d)) (by simp [zb_I, zf_fn, c_2, c_14, c_26, c_33]) ?_
          exact W.zret hx hb hr (zb_nar _) (fun t ht hW => ⟨rfl, ht⟩) (fun q h => by cases h) dX1_areNumbers_41
    · refine lv_iload_n hx hb dX1_areNumbers_17 rfl (lv_at hl 2 rfl) ?_
      refine zw_ci (va_runS (As := [.int b]) (rest := []) ⟨hx, hb, hml, hown, hts⟩ (zd_isNumber l b) (va_cwS 1 hts gX1_areNumbers_X1_isNumber rfl rfl rfl (by decide +kernel) ⟨Nat.le_of_ble_eq_true rfl, Nat.le_of_ble_eq_true rfl⟩) (preEq) rfl rfl hl.1 rfl (lv_room (Nat.le_of_ble_eq_true rfl)) dX1_areNumbers_18 ⟨Nat.zero_le _, Nat.zero_le _⟩) ?_
      refine zw_ifeq (tgt := 40) hx hb dX1_areNumbers_21 (by decide) (fun c_21 => ?_) (fun c_21 => ?_)
      · refine lv_iconst (v := 0) hx hb dX1_areNumbers_40 (by decide) ?_
        refine zw_eqi (y := zb_I (zf_fn k a b d)) (by simp [zb_I, zf_fn, c_2, c_14, c_21]) ?_
        exact W.zret hx hb hr (zb_nar _) (fun t ht hW => ⟨rfl, ht⟩) (fun q h => by cases h) dX1_areNumbers_41
      · refine lv_iload_n hx hb dX1_areNumbers_24 rfl (lv_at hl 0 rfl) ?_
        refine lv_iconst (v := 3) hx hb dX1_areNumbers_25 (by decide) ?_
        refine lv_icmp_lt (tgt := 36) hx hb dX1_areNumbers_26 (by decide) (fun c_26 => ?_) (fun c_26 => ?_)
        · refine lv_iconst (v := 1) hx hb dX1_areNumbers_36 (by decide) ?_
          refine lv_goto (tgt := 41) hx hb dX1_areNumbers_37 (by decide) ?_
          refine zw_eqi (y := zb_I (zf_fn k a b d)) (by simp [zb_I, zf_fn, c_2, c_14, c_21, c_26]) ?_
          exact W.zret hx hb hr (zb_nar _) (fun t ht hW => ⟨rfl, ht⟩) (fun q h => by cases h) dX1_areNumbers_41
        · refine lv_iload_n hx hb dX1_areNumbers_29 rfl (lv_at hl 3 rfl) ?_
          refine zw_ci (va_runS (As := [.int d]) (rest := []) ⟨hx, hb, hml, hown, hts⟩ (zd_isNumber l d) (va_cwS 1 hts gX1_areNumbers_X1_isNumber rfl rfl rfl (by decide +kernel) ⟨Nat.le_of_ble_eq_true rfl, Nat.le_of_ble_eq_true rfl⟩) (preEq) rfl rfl hl.1 rfl (lv_room (Nat.le_of_ble_eq_true rfl)) dX1_areNumbers_30 ⟨Nat.zero_le _, Nat.zero_le _⟩) ?_
          refine zw_ifeq (tgt := 40) hx hb dX1_areNumbers_33 (by decide) (fun c_33 => ?_) (fun c_33 => ?_)
          · refine lv_iconst (v := 0) hx hb dX1_areNumbers_40 (by decide) ?_
            refine zw_eqi (y := zb_I (zf_fn k a b d)) (by simp [zb_I, zf_fn, c_2, c_14, c_21, c_26, c_33]) ?_
            exact W.zret hx hb hr (zb_nar _) (fun t ht hW => ⟨rfl, ht⟩) (fun q h => by cases h) dX1_areNumbers_41
          · refine lv_iconst (v := 1) hx hb dX1_areNumbers_36 (by decide) ?_
            refine lv_goto (tgt := 41) hx hb dX1_areNumbers_37 (by decide) ?_
            refine zw_eqi (y := zb_I (zf_fn k a b d)) (by simp [zb_I, zf_fn, c_2, c_14, c_21, c_26, c_33]) ?_
            exact W.zret hx hb hr (zb_nar _) (fun t ht hW => ⟨rfl, ht⟩) (fun q h => by cases h) dX1_areNumbers_41
  · refine lv_iload_n hx hb dX1_areNumbers_5 rfl (lv_at hl 1 rfl) ?_
    refine zw_ci (va_runS (As := [.int a]) (rest := []) ⟨hx, hb, hml, hown, hts⟩ (zd_isNumber l a) (va_cwS 1 hts gX1_areNumbers_X1_isNumber rfl rfl rfl (by decide +kernel) ⟨Nat.le_of_ble_eq_true rfl, Nat.le_of_ble_eq_true rfl⟩) (preEq) rfl rfl hl.1 rfl (lv_room (Nat.le_of_ble_eq_true rfl)) dX1_areNumbers_6 ⟨Nat.zero_le _, Nat.zero_le _⟩) ?_
    refine zw_ifeq (tgt := 40) hx hb dX1_areNumbers_9 (by decide) (fun c_9 => ?_) (fun c_9 => ?_)
    · refine lv_iconst (v := 0) hx hb dX1_areNumbers_40 (by decide) ?_
      refine zw_eqi (y := zb_I (zf_fn k a b d)) (by simp [zb_I, zf_fn, c_2, c_9]) ?_
      exact W.zret hx hb hr (zb_nar _) (fun t ht hW => ⟨rfl, ht⟩) (fun q h => by cases h) dX1_areNumbers_41
    · refine lv_iload_n hx hb dX1_areNumbers_12 rfl (lv_at hl 0 rfl) ?_
      refine lv_iconst (v := 2) hx hb dX1_areNumbers_13 (by decide) ?_
      refine lv_icmp_lt (tgt := 24) hx hb dX1_areNumbers_14 (by decide) (fun c_14 => ?_) (fun c_14 => ?_)
      · refine lv_iload_n hx hb dX1_areNumbers_24 rfl (lv_at hl 0 rfl) ?_
        refine lv_iconst (v := 3) hx hb dX1_areNumbers_25 (by decide) ?_
        refine lv_icmp_lt (tgt := 36) hx hb dX1_areNumbers_26 (by decide) (fun c_26 => ?_) (fun c_26 => ?_)
        · refine lv_iconst (v := 1) hx hb dX1_areNumbers_36 (by decide) ?_
          refine lv_goto (tgt := 41) hx hb dX1_areNumbers_37 (by decide) ?_
          refine zw_eqi (y := zb_I (zf_fn k a b d)) (by simp [zb_I, zf_fn, c_2, c_9, c_14, c_26]) ?_
          exact W.zret hx hb hr (zb_nar _) (fun t ht hW => ⟨rfl, ht⟩) (fun q h => by cases h) dX1_areNumbers_41
        · refine lv_iload_n hx hb dX1_areNumbers_29 rfl (lv_at hl 3 rfl) ?_
          refine zw_ci (va_runS (As := [.int d]) (rest := []) ⟨hx, hb, hml, hown, hts⟩ (zd_isNumber l d) (va_cwS 1 hts gX1_areNumbers_X1_isNumber rfl rfl rfl (by decide +kernel) ⟨Nat.le_of_ble_eq_true rfl, Nat.le_of_ble_eq_true rfl⟩) (preEq) rfl rfl hl.1 rfl (lv_room (Nat.le_of_ble_eq_true rfl)) dX1_areNumbers_30 ⟨Nat.zero_le _, Nat.zero_le _⟩) ?_
          refine zw_ifeq (tgt := 40) hx hb dX1_areNumbers_33 (by decide) (fun c_33 => ?_) (fun c_33 => ?_)
          · refine lv_iconst (v := 0) hx hb dX1_areNumbers_40 (by decide) ?_
            refine zw_eqi (y := zb_I (zf_fn k a b d)) (by simp [zb_I, zf_fn, c_2, c_9, c_14, c_26, c_33]) ?_
            exact W.zret hx hb hr (zb_nar _) (fun t ht hW => ⟨rfl, ht⟩) (fun q h => by cases h) dX1_areNumbers_41
          · refine lv_iconst (v := 1) hx hb dX1_areNumbers_36 (by decide) ?_
            refine lv_goto (tgt := 41) hx hb dX1_areNumbers_37 (by decide) ?_
            refine zw_eqi (y := zb_I (zf_fn k a b d)) (by simp [zb_I, zf_fn, c_2, c_9, c_14, c_26, c_33]) ?_
            exact W.zret hx hb hr (zb_nar _) (fun t ht hW => ⟨rfl, ht⟩) (fun q h => by cases h) dX1_areNumbers_41
      · refine lv_iload_n hx hb dX1_areNumbers_17 rfl (lv_at hl 2 rfl) ?_
        refine zw_ci (va_runS (As := [.int b]) (rest := []) ⟨hx, hb, hml, hown, hts⟩ (zd_isNumber l b) (va_cwS 1 hts gX1_areNumbers_X1_isNumber rfl rfl rfl (by decide +kernel) ⟨Nat.le_of_ble_eq_true rfl, Nat.le_of_ble_eq_true rfl⟩) (preEq) rfl rfl hl.1 rfl (lv_room (Nat.le_of_ble_eq_true rfl)) dX1_areNumbers_18 ⟨Nat.zero_le _, Nat.zero_le _⟩) ?_
        refine zw_ifeq (tgt := 40) hx hb dX1_areNumbers_21 (by decide) (fun c_21 => ?_) (fun c_21 => ?_)
        · refine lv_iconst (v := 0) hx hb dX1_areNumbers_40 (by decide) ?_
          refine zw_eqi (y := zb_I (zf_fn k a b d)) (by simp [zb_I, zf_fn, c_2, c_9, c_14, c_21]) ?_
          exact W.zret hx hb hr (zb_nar _) (fun t ht hW => ⟨rfl, ht⟩) (fun q h => by cases h) dX1_areNumbers_41
        · refine lv_iload_n hx hb dX1_areNumbers_24 rfl (lv_at hl 0 rfl) ?_
          refine lv_iconst (v := 3) hx hb dX1_areNumbers_25 (by decide) ?_
          refine lv_icmp_lt (tgt := 36) hx hb dX1_areNumbers_26 (by decide) (fun c_26 => ?_) (fun c_26 => ?_)
          · refine lv_iconst (v := 1) hx hb dX1_areNumbers_36 (by decide) ?_
            refine lv_goto (tgt := 41) hx hb dX1_areNumbers_37 (by decide) ?_
            refine zw_eqi (y := zb_I (zf_fn k a b d)) (by simp [zb_I, zf_fn, c_2, c_9, c_14, c_21, c_26]) ?_
            exact W.zret hx hb hr (zb_nar _) (fun t ht hW => ⟨rfl, ht⟩) (fun q h => by cases h) dX1_areNumbers_41
          · refine lv_iload_n hx hb dX1_areNumbers_29 rfl (lv_at hl 3 rfl) ?_
            refine zw_ci (va_runS (As := [.int d]) (rest := []) ⟨hx, hb, hml, hown, hts⟩ (zd_isNumber l d) (va_cwS 1 hts gX1_areNumbers_X1_isNumber rfl rfl rfl (by decide +kernel) ⟨Nat.le_of_ble_eq_true rfl, Nat.le_of_ble_eq_true rfl⟩) (preEq) rfl rfl hl.1 rfl (lv_room (Nat.le_of_ble_eq_true rfl)) dX1_areNumbers_30 ⟨Nat.zero_le _, Nat.zero_le _⟩) ?_
            refine zw_ifeq (tgt := 40) hx hb dX1_areNumbers_33 (by decide) (fun c_33 => ?_) (fun c_33 => ?_)
            · refine lv_iconst (v := 0) hx hb dX1_areNumbers_40 (by decide) ?_
              refine zw_eqi (y := zb_I (zf_fn k a b d)) (by simp [zb_I, zf_fn, c_2, c_9, c_14, c_21, c_26, c_33]) ?_
              exact W.zret hx hb hr (zb_nar _) (fun t ht hW => ⟨rfl, ht⟩) (fun q h => by cases h) dX1_areNumbers_41
            · refine lv_iconst (v := 1) hx hb dX1_areNumbers_36 (by decide) ?_
              refine lv_goto (tgt := 41) hx hb dX1_areNumbers_37 (by decide) ?_
              refine zw_eqi (y := zb_I (zf_fn k a b d)) (by simp [zb_I, zf_fn, c_2, c_9, c_14, c_21, c_26, c_33]) ?_
              exact W.zret hx hb hr (zb_nar _) (fun t ht hW => ⟨rfl, ht⟩) (fun q h => by cases h) dX1_areNumbers_41
set_option maxHeartbeats 4000000 in
set_option maxRecDepth 100000 in
/-- packed(a, b, d) -/
theorem zd_packed (l : Launch) (a b d : Int64) : Met l yX1_packed wsX1_packed ({ frames := 0, cells := 0, slots := 0, locals := 0 }) (fun w9 _ => w9 = ([.long a, .long b, .long d] : List Value).toArray) (zw_Q (some (.long (zf_pk a b d)))) 0 0 (fun _ => False) := by
  refine Met.ofW (cc := cX1_packed) (maxL := 6) (ret := (some .long)) (by decide) rfl ?_
  intro p e s m args below meth c s₁ B hml hv
  obtain rfl := hv
  have hx := B.exec
  have hb := B.bytes
  have hr := B.returns
  have hts := atoms_spec (ws := wsX1_packed) B.pre
  have hown : s.vm.findClass RX1 = some m.cls := findClass_of_methodNamed B.named
  have hl := lv_entry ([.long a, .long b, .long d]) (n := 6) (Nat.le_of_ble_eq_true rfl)
  rw [lg_entry_eq]
  generalize (lg_sl ([.long a, .long b, .long d]) ++ List.replicate (6 - (lg_sl ([.long a, .long b, .long d])).length) Slot.unset).toArray = ls at hl ⊢
  have hl : lv_has ls 6 [(0, .long a), (2, .long b), (4, .long d)] := hl
  refine lv_lload_n hx hb dX1_packed_0 rfl (lv_at hl 0 rfl) ?_
  refine lv_ldc2 (v := 1048576) hx hb hown (hts (.constantLong RX1 34 1048576) (by decide +kernel)) dX1_packed_1 ?_
  refine lv_lmul hx hb dX1_packed_4 ?_
  refine lv_lload_n hx hb dX1_packed_5 rfl (lv_at hl 1 rfl) ?_
  refine lv_ladd hx hb dX1_packed_6 ?_
  refine lv_ldc2 (v := 1048576) hx hb hown (hts (.constantLong RX1 34 1048576) (by decide +kernel)) dX1_packed_7 ?_
  refine lv_lmul hx hb dX1_packed_10 ?_
  refine lv_lload hx hb dX1_packed_11 (lv_at hl 2 rfl) ?_
  refine lv_ladd hx hb dX1_packed_13 ?_
  refine zw_eql (y := zf_pk a b d) (rfl) ?_
  exact W.lret hx hb hr (fun t ht hW => ⟨rfl, ht⟩) (fun q h => by cases h) dX1_packed_14
set_option maxHeartbeats 4000000 in
set_option maxRecDepth 100000 in
/-- beginning(k, a, b, d) -/
theorem zd_beginning (l : Launch) (k : Int32) (a : Int32) (b : Int32) (d : Int32) : Met l yX1_beginning wsX1_beginning ({ frames := 1, cells := 0, slots := 0, locals := 25 }) (fun w9 _ => w9 = ([.int k, .int a, .int b, .int d] : List Value).toArray) (zw_Q (some (.long (zf_bg k a b d)))) 0 0 (fun _ => False) := by
  refine Met.ofW (cc := cX1_beginning) (maxL := 4) (ret := (some .long)) (by decide) rfl ?_
  intro p e s m args below meth c s₁ B hml hv
  obtain rfl := hv
  have hx := B.exec
  have hb := B.bytes
  have hr := B.returns
  have hts := atoms_spec (ws := wsX1_beginning) B.pre
  have hown : s.vm.findClass RX1 = some m.cls := findClass_of_methodNamed B.named
  have hl := lv_entry ([.int k, .int a, .int b, .int d]) (n := 4) (Nat.le_of_ble_eq_true rfl)
  rw [lg_entry_eq]
  generalize (lg_sl ([.int k, .int a, .int b, .int d]) ++ List.replicate (4 - (lg_sl ([.int k, .int a, .int b, .int d])).length) Slot.unset).toArray = ls at hl ⊢
  have hl : lv_has ls 4 [(0, .int k), (1, .int a), (2, .int b), (3, .int d)] := hl
  refine lv_iload_n hx hb dX1_beginning_0 rfl (lv_at hl 0 rfl) ?_
  refine lv_if_le (tgt := 9) hx hb dX1_beginning_1 (by decide) (fun c_1 => ?_) (fun c_1 => ?_)
  · refine lv_lconst (v := 0) hx hb dX1_beginning_9 (by decide) ?_
    refine lv_iload_n hx hb dX1_beginning_10 rfl (lv_at hl 0 rfl) ?_
    refine lv_iconst (v := 1) hx hb dX1_beginning_11 (by decide) ?_
    refine lv_icmp_le (tgt := 20) hx hb dX1_beginning_12 (by decide) (fun c_12 => ?_) (fun c_12 => ?_)
    · refine lv_lconst (v := 0) hx hb dX1_beginning_20 (by decide) ?_
      refine lv_iload_n hx hb dX1_beginning_21 rfl (lv_at hl 0 rfl) ?_
      refine lv_iconst (v := 2) hx hb dX1_beginning_22 (by decide) ?_
      refine lv_icmp_le (tgt := 31) hx hb dX1_beginning_23 (by decide) (fun c_23 => ?_) (fun c_23 => ?_)
      · refine lv_lconst (v := 0) hx hb dX1_beginning_31 (by decide) ?_
        refine zw_cl (va_runS (As := [.long 0, .long 0, .long 0]) (rest := []) ⟨hx, hb, hml, hown, hts⟩ (zd_packed l 0 0 0) (va_cwS 3 hts gX1_beginning_X1_packed rfl rfl rfl (by decide +kernel) ⟨Nat.le_of_ble_eq_true rfl, Nat.le_of_ble_eq_true rfl⟩) (preEq) rfl rfl hl.1 rfl (lv_room (Nat.le_of_ble_eq_true rfl)) dX1_beginning_32 ⟨Nat.zero_le _, Nat.zero_le _⟩) ?_
        refine zw_eql (y := zf_bg k a b d) (by simp [zf_bg, c_1, c_12, c_23]) ?_
        exact W.lret hx hb hr (fun t ht hW => ⟨rfl, ht⟩) (fun q h => by cases h) dX1_beginning_35
      · refine lv_iload_n hx hb dX1_beginning_26 rfl (lv_at hl 3 rfl) ?_
        refine lv_i2l (v := Int32.toInt64 d) hx hb dX1_beginning_27 rfl ?_
        refine lv_goto (tgt := 32) hx hb dX1_beginning_28 (by decide) ?_
        refine zw_cl (va_runS (As := [.long 0, .long 0, .long (Int32.toInt64 d)]) (rest := []) ⟨hx, hb, hml, hown, hts⟩ (zd_packed l 0 0 (Int32.toInt64 d)) (va_cwS 3 hts gX1_beginning_X1_packed rfl rfl rfl (by decide +kernel) ⟨Nat.le_of_ble_eq_true rfl, Nat.le_of_ble_eq_true rfl⟩) (preEq) rfl rfl hl.1 rfl (lv_room (Nat.le_of_ble_eq_true rfl)) dX1_beginning_32 ⟨Nat.zero_le _, Nat.zero_le _⟩) ?_
        refine zw_eql (y := zf_bg k a b d) (by simp [zf_bg, c_1, c_12, c_23]) ?_
        exact W.lret hx hb hr (fun t ht hW => ⟨rfl, ht⟩) (fun q h => by cases h) dX1_beginning_35
    · refine lv_iload_n hx hb dX1_beginning_15 rfl (lv_at hl 2 rfl) ?_
      refine lv_i2l (v := Int32.toInt64 b) hx hb dX1_beginning_16 rfl ?_
      refine lv_goto (tgt := 21) hx hb dX1_beginning_17 (by decide) ?_
      refine lv_iload_n hx hb dX1_beginning_21 rfl (lv_at hl 0 rfl) ?_
      refine lv_iconst (v := 2) hx hb dX1_beginning_22 (by decide) ?_
      refine lv_icmp_le (tgt := 31) hx hb dX1_beginning_23 (by decide) (fun c_23 => ?_) (fun c_23 => ?_)
      · refine lv_lconst (v := 0) hx hb dX1_beginning_31 (by decide) ?_
        refine zw_cl (va_runS (As := [.long 0, .long (Int32.toInt64 b), .long 0]) (rest := []) ⟨hx, hb, hml, hown, hts⟩ (zd_packed l 0 (Int32.toInt64 b) 0) (va_cwS 3 hts gX1_beginning_X1_packed rfl rfl rfl (by decide +kernel) ⟨Nat.le_of_ble_eq_true rfl, Nat.le_of_ble_eq_true rfl⟩) (preEq) rfl rfl hl.1 rfl (lv_room (Nat.le_of_ble_eq_true rfl)) dX1_beginning_32 ⟨Nat.zero_le _, Nat.zero_le _⟩) ?_
        refine zw_eql (y := zf_bg k a b d) (by simp [zf_bg, c_1, c_12, c_23]) ?_
        exact W.lret hx hb hr (fun t ht hW => ⟨rfl, ht⟩) (fun q h => by cases h) dX1_beginning_35
      · refine lv_iload_n hx hb dX1_beginning_26 rfl (lv_at hl 3 rfl) ?_
        refine lv_i2l (v := Int32.toInt64 d) hx hb dX1_beginning_27 rfl ?_
        refine lv_goto (tgt := 32) hx hb dX1_beginning_28 (by decide) ?_
        refine zw_cl (va_runS (As := [.long 0, .long (Int32.toInt64 b), .long (Int32.toInt64 d)]) (rest := []) ⟨hx, hb, hml, hown, hts⟩ (zd_packed l 0 (Int32.toInt64 b) (Int32.toInt64 d)) (va_cwS 3 hts gX1_beginning_X1_packed rfl rfl rfl (by decide +kernel) ⟨Nat.le_of_ble_eq_true rfl, Nat.le_of_ble_eq_true rfl⟩) (preEq) rfl rfl hl.1 rfl (lv_room (Nat.le_of_ble_eq_true rfl)) dX1_beginning_32 ⟨Nat.zero_le _, Nat.zero_le _⟩) ?_
        refine zw_eql (y := zf_bg k a b d) (by simp [zf_bg, c_1, c_12, c_23]) ?_
        exact W.lret hx hb hr (fun t ht hW => ⟨rfl, ht⟩) (fun q h => by cases h) dX1_beginning_35
  · refine lv_iload_n hx hb dX1_beginning_4 rfl (lv_at hl 1 rfl) ?_
    refine lv_i2l (v := Int32.toInt64 a) hx hb dX1_beginning_5 rfl ?_
    refine lv_goto (tgt := 10) hx hb dX1_beginning_6 (by decide) ?_
    refine lv_iload_n hx hb dX1_beginning_10 rfl (lv_at hl 0 rfl) ?_
    refine lv_iconst (v := 1) hx hb dX1_beginning_11 (by decide) ?_
    refine lv_icmp_le (tgt := 20) hx hb dX1_beginning_12 (by decide) (fun c_12 => ?_) (fun c_12 => ?_)
    · refine lv_lconst (v := 0) hx hb dX1_beginning_20 (by decide) ?_
      refine lv_iload_n hx hb dX1_beginning_21 rfl (lv_at hl 0 rfl) ?_
      refine lv_iconst (v := 2) hx hb dX1_beginning_22 (by decide) ?_
      refine lv_icmp_le (tgt := 31) hx hb dX1_beginning_23 (by decide) (fun c_23 => ?_) (fun c_23 => ?_)
      · refine lv_lconst (v := 0) hx hb dX1_beginning_31 (by decide) ?_
        refine zw_cl (va_runS (As := [.long (Int32.toInt64 a), .long 0, .long 0]) (rest := []) ⟨hx, hb, hml, hown, hts⟩ (zd_packed l (Int32.toInt64 a) 0 0) (va_cwS 3 hts gX1_beginning_X1_packed rfl rfl rfl (by decide +kernel) ⟨Nat.le_of_ble_eq_true rfl, Nat.le_of_ble_eq_true rfl⟩) (preEq) rfl rfl hl.1 rfl (lv_room (Nat.le_of_ble_eq_true rfl)) dX1_beginning_32 ⟨Nat.zero_le _, Nat.zero_le _⟩) ?_
        refine zw_eql (y := zf_bg k a b d) (by simp [zf_bg, c_1, c_12, c_23]) ?_
        exact W.lret hx hb hr (fun t ht hW => ⟨rfl, ht⟩) (fun q h => by cases h) dX1_beginning_35
      · refine lv_iload_n hx hb dX1_beginning_26 rfl (lv_at hl 3 rfl) ?_
        refine lv_i2l (v := Int32.toInt64 d) hx hb dX1_beginning_27 rfl ?_
        refine lv_goto (tgt := 32) hx hb dX1_beginning_28 (by decide) ?_
        refine zw_cl (va_runS (As := [.long (Int32.toInt64 a), .long 0, .long (Int32.toInt64 d)]) (rest := []) ⟨hx, hb, hml, hown, hts⟩ (zd_packed l (Int32.toInt64 a) 0 (Int32.toInt64 d)) (va_cwS 3 hts gX1_beginning_X1_packed rfl rfl rfl (by decide +kernel) ⟨Nat.le_of_ble_eq_true rfl, Nat.le_of_ble_eq_true rfl⟩) (preEq) rfl rfl hl.1 rfl (lv_room (Nat.le_of_ble_eq_true rfl)) dX1_beginning_32 ⟨Nat.zero_le _, Nat.zero_le _⟩) ?_
        refine zw_eql (y := zf_bg k a b d) (by simp [zf_bg, c_1, c_12, c_23]) ?_
        exact W.lret hx hb hr (fun t ht hW => ⟨rfl, ht⟩) (fun q h => by cases h) dX1_beginning_35
    · refine lv_iload_n hx hb dX1_beginning_15 rfl (lv_at hl 2 rfl) ?_
      refine lv_i2l (v := Int32.toInt64 b) hx hb dX1_beginning_16 rfl ?_
      refine lv_goto (tgt := 21) hx hb dX1_beginning_17 (by decide) ?_
      refine lv_iload_n hx hb dX1_beginning_21 rfl (lv_at hl 0 rfl) ?_
      refine lv_iconst (v := 2) hx hb dX1_beginning_22 (by decide) ?_
      refine lv_icmp_le (tgt := 31) hx hb dX1_beginning_23 (by decide) (fun c_23 => ?_) (fun c_23 => ?_)
      · refine lv_lconst (v := 0) hx hb dX1_beginning_31 (by decide) ?_
        refine zw_cl (va_runS (As := [.long (Int32.toInt64 a), .long (Int32.toInt64 b), .long 0]) (rest := []) ⟨hx, hb, hml, hown, hts⟩ (zd_packed l (Int32.toInt64 a) (Int32.toInt64 b) 0) (va_cwS 3 hts gX1_beginning_X1_packed rfl rfl rfl (by decide +kernel) ⟨Nat.le_of_ble_eq_true rfl, Nat.le_of_ble_eq_true rfl⟩) (preEq) rfl rfl hl.1 rfl (lv_room (Nat.le_of_ble_eq_true rfl)) dX1_beginning_32 ⟨Nat.zero_le _, Nat.zero_le _⟩) ?_
        refine zw_eql (y := zf_bg k a b d) (by simp [zf_bg, c_1, c_12, c_23]) ?_
        exact W.lret hx hb hr (fun t ht hW => ⟨rfl, ht⟩) (fun q h => by cases h) dX1_beginning_35
      · refine lv_iload_n hx hb dX1_beginning_26 rfl (lv_at hl 3 rfl) ?_
        refine lv_i2l (v := Int32.toInt64 d) hx hb dX1_beginning_27 rfl ?_
        refine lv_goto (tgt := 32) hx hb dX1_beginning_28 (by decide) ?_
        refine zw_cl (va_runS (As := [.long (Int32.toInt64 a), .long (Int32.toInt64 b), .long (Int32.toInt64 d)]) (rest := []) ⟨hx, hb, hml, hown, hts⟩ (zd_packed l (Int32.toInt64 a) (Int32.toInt64 b) (Int32.toInt64 d)) (va_cwS 3 hts gX1_beginning_X1_packed rfl rfl rfl (by decide +kernel) ⟨Nat.le_of_ble_eq_true rfl, Nat.le_of_ble_eq_true rfl⟩) (preEq) rfl rfl hl.1 rfl (lv_room (Nat.le_of_ble_eq_true rfl)) dX1_beginning_32 ⟨Nat.zero_le _, Nat.zero_le _⟩) ?_
        refine zw_eql (y := zf_bg k a b d) (by simp [zf_bg, c_1, c_12, c_23]) ?_
        exact W.lret hx hb hr (fun t ht hW => ⟨rfl, ht⟩) (fun q h => by cases h) dX1_beginning_35
set_option maxHeartbeats 4000000 in
set_option maxRecDepth 100000 in
/-- first(q, i) -/
theorem zd_first (l : Launch) (q i : Nat) (hq : q < 1152921504606846976) (hi : i ≤ 3) : Met l yX1_first wsX1_first ({ frames := 0, cells := 0, slots := 0, locals := 0 }) (fun w9 _ => w9 = ([.long (lN q), .int (nI i)] : List Value).toArray) (zw_Q (some (.long (lN (zk_fst i q))))) 0 0 (fun _ => False) := by
  refine Met.ofW (cc := cX1_first) (maxL := 5) (ret := (some .long)) (by decide) rfl ?_
  intro p e s m args below meth c s₁ B hml hv
  obtain rfl := hv
  have hx := B.exec
  have hb := B.bytes
  have hr := B.returns
  have hts := atoms_spec (ws := wsX1_first) B.pre
  have hown : s.vm.findClass RX1 = some m.cls := findClass_of_methodNamed B.named
  have hl := lv_entry ([.long (lN q), .int (nI i)]) (n := 5) (Nat.le_of_ble_eq_true rfl)
  rw [lg_entry_eq]
  generalize (lg_sl ([.long (lN q), .int (nI i)]) ++ List.replicate (5 - (lg_sl ([.long (lN q), .int (nI i)])).length) Slot.unset).toArray = ls at hl ⊢
  have hl : lv_has ls 5 [(0, .long (lN q)), (2, .int (nI i))] := hl
  match i, hi with
  | 0, _ =>
    refine lv_iload_n hx hb dX1_first_0 rfl (lv_at hl 1 rfl) ?_
    refine lv_if_ne (tgt := 10) hx hb dX1_first_1 (by decide) (fun c_1 => absurd (rfl) c_1) (fun c_1 => ?_)
    refine lv_ldc2 (v := 1152921504606846976) hx hb hown (hts (.constantLong RX1 63 1152921504606846976) (by decide +kernel)) dX1_first_4 ?_
    refine lv_goto (tgt := 33) hx hb dX1_first_7 (by decide) ?_
    refine lv_lstore_n (lv' := [(3, .long 1152921504606846976), (0, .long (lN q)), (2, .int (nI 0))]) hx hb dX1_first_33 rfl hl (by decide) rfl (fun ls hl => ?_)
    refine lv_iload_n hx hb dX1_first_34 rfl (lv_at hl 2 rfl) ?_
    refine lv_if_ne (tgt := 42) hx hb dX1_first_35 (by decide) (fun c_35 => absurd (rfl) c_35) (fun c_35 => ?_)
    refine lv_lconst (v := 0) hx hb dX1_first_38 (by decide) ?_
    refine lv_goto (tgt := 47) hx hb dX1_first_39 (by decide) ?_
    refine zw_eql (y := lN (zk_fst 0 q)) (rfl) ?_
    exact W.lret hx hb hr (fun t ht hW => ⟨rfl, ht⟩) (fun q h => by cases h) dX1_first_47
  | 1, _ =>
    refine lv_iload_n hx hb dX1_first_0 rfl (lv_at hl 1 rfl) ?_
    refine lv_if_ne (tgt := 10) hx hb dX1_first_1 (by decide) (fun c_1 => ?_) (fun c_1 => absurd c_1 (by decide))
    refine lv_iload_n hx hb dX1_first_10 rfl (lv_at hl 1 rfl) ?_
    refine lv_iconst (v := 1) hx hb dX1_first_11 (by decide) ?_
    refine lv_icmp_ne (tgt := 21) hx hb dX1_first_12 (by decide) (fun c_12 => absurd (rfl) c_12) (fun c_12 => ?_)
    refine lv_ldc2 (v := 1099511627776) hx hb hown (hts (.constantLong RX1 65 1099511627776) (by decide +kernel)) dX1_first_15 ?_
    refine lv_goto (tgt := 33) hx hb dX1_first_18 (by decide) ?_
    refine lv_lstore_n (lv' := [(3, .long 1099511627776), (0, .long (lN q)), (2, .int (nI 1))]) hx hb dX1_first_33 rfl hl (by decide) rfl (fun ls hl => ?_)
    refine lv_iload_n hx hb dX1_first_34 rfl (lv_at hl 2 rfl) ?_
    refine lv_if_ne (tgt := 42) hx hb dX1_first_35 (by decide) (fun c_35 => ?_) (fun c_35 => absurd c_35 (by decide))
    refine lv_lload_n hx hb dX1_first_42 rfl (lv_at hl 1 rfl) ?_
    refine lv_lload_n hx hb dX1_first_43 rfl (lv_at hl 1 rfl) ?_
    refine lv_lload_n hx hb dX1_first_44 rfl (lv_at hl 0 rfl) ?_
    refine lv_lrem hx hb dX1_first_45 (by decide) ?_
    refine zw_eql (y := lN (q % 1099511627776)) (pk_lRem (b := 1099511627776) (by omega) (by decide) (by decide)) ?_
    refine lv_lsub hx hb dX1_first_46 ?_
    refine zw_eql (y := lN (zk_fst 1 q)) (by rw [lN_sub (Nat.mod_le _ _)]; rfl) ?_
    exact W.lret hx hb hr (fun t ht hW => ⟨rfl, ht⟩) (fun q h => by cases h) dX1_first_47
  | 2, _ =>
    refine lv_iload_n hx hb dX1_first_0 rfl (lv_at hl 1 rfl) ?_
    refine lv_if_ne (tgt := 10) hx hb dX1_first_1 (by decide) (fun c_1 => ?_) (fun c_1 => absurd c_1 (by decide))
    refine lv_iload_n hx hb dX1_first_10 rfl (lv_at hl 1 rfl) ?_
    refine lv_iconst (v := 1) hx hb dX1_first_11 (by decide) ?_
    refine lv_icmp_ne (tgt := 21) hx hb dX1_first_12 (by decide) (fun c_12 => ?_) (fun c_12 => absurd c_12 (by decide))
    refine lv_iload_n hx hb dX1_first_21 rfl (lv_at hl 1 rfl) ?_
    refine lv_iconst (v := 2) hx hb dX1_first_22 (by decide) ?_
    refine lv_icmp_ne (tgt := 32) hx hb dX1_first_23 (by decide) (fun c_23 => absurd (rfl) c_23) (fun c_23 => ?_)
    refine lv_ldc2 (v := 1048576) hx hb hown (hts (.constantLong RX1 34 1048576) (by decide +kernel)) dX1_first_26 ?_
    refine lv_goto (tgt := 33) hx hb dX1_first_29 (by decide) ?_
    refine lv_lstore_n (lv' := [(3, .long 1048576), (0, .long (lN q)), (2, .int (nI 2))]) hx hb dX1_first_33 rfl hl (by decide) rfl (fun ls hl => ?_)
    refine lv_iload_n hx hb dX1_first_34 rfl (lv_at hl 2 rfl) ?_
    refine lv_if_ne (tgt := 42) hx hb dX1_first_35 (by decide) (fun c_35 => ?_) (fun c_35 => absurd c_35 (by decide))
    refine lv_lload_n hx hb dX1_first_42 rfl (lv_at hl 1 rfl) ?_
    refine lv_lload_n hx hb dX1_first_43 rfl (lv_at hl 1 rfl) ?_
    refine lv_lload_n hx hb dX1_first_44 rfl (lv_at hl 0 rfl) ?_
    refine lv_lrem hx hb dX1_first_45 (by decide) ?_
    refine zw_eql (y := lN (q % 1048576)) (pk_lRem (b := 1048576) (by omega) (by decide) (by decide)) ?_
    refine lv_lsub hx hb dX1_first_46 ?_
    refine zw_eql (y := lN (zk_fst 2 q)) (by rw [lN_sub (Nat.mod_le _ _)]; rfl) ?_
    exact W.lret hx hb hr (fun t ht hW => ⟨rfl, ht⟩) (fun q h => by cases h) dX1_first_47
  | 3, _ =>
    refine lv_iload_n hx hb dX1_first_0 rfl (lv_at hl 1 rfl) ?_
    refine lv_if_ne (tgt := 10) hx hb dX1_first_1 (by decide) (fun c_1 => ?_) (fun c_1 => absurd c_1 (by decide))
    refine lv_iload_n hx hb dX1_first_10 rfl (lv_at hl 1 rfl) ?_
    refine lv_iconst (v := 1) hx hb dX1_first_11 (by decide) ?_
    refine lv_icmp_ne (tgt := 21) hx hb dX1_first_12 (by decide) (fun c_12 => ?_) (fun c_12 => absurd c_12 (by decide))
    refine lv_iload_n hx hb dX1_first_21 rfl (lv_at hl 1 rfl) ?_
    refine lv_iconst (v := 2) hx hb dX1_first_22 (by decide) ?_
    refine lv_icmp_ne (tgt := 32) hx hb dX1_first_23 (by decide) (fun c_23 => ?_) (fun c_23 => absurd c_23 (by decide))
    refine lv_lconst (v := 1) hx hb dX1_first_32 (by decide) ?_
    refine lv_lstore_n (lv' := [(3, .long 1), (0, .long (lN q)), (2, .int (nI 3))]) hx hb dX1_first_33 rfl hl (by decide) rfl (fun ls hl => ?_)
    refine lv_iload_n hx hb dX1_first_34 rfl (lv_at hl 2 rfl) ?_
    refine lv_if_ne (tgt := 42) hx hb dX1_first_35 (by decide) (fun c_35 => ?_) (fun c_35 => absurd c_35 (by decide))
    refine lv_lload_n hx hb dX1_first_42 rfl (lv_at hl 1 rfl) ?_
    refine lv_lload_n hx hb dX1_first_43 rfl (lv_at hl 1 rfl) ?_
    refine lv_lload_n hx hb dX1_first_44 rfl (lv_at hl 0 rfl) ?_
    refine lv_lrem hx hb dX1_first_45 (by decide) ?_
    refine zw_eql (y := lN (q % 1)) (pk_lRem (b := 1) (by omega) (by decide) (by decide)) ?_
    refine lv_lsub hx hb dX1_first_46 ?_
    refine zw_eql (y := lN (zk_fst 3 q)) (by rw [lN_sub (Nat.mod_le _ _)]; rfl) ?_
    exact W.lret hx hb hr (fun t ht hW => ⟨rfl, ht⟩) (fun q h => by cases h) dX1_first_47
set_option maxHeartbeats 4000000 in
set_option maxRecDepth 100000 in
/-- key(x, y, z) -/
theorem zd_key (l : Launch) (dC : Nat → ClassId) (dI : Nat → Nat → Nat) (h0 ha : Nat) (cA : ClassId) (f : Nat → Int64) (o : Nat) (ks : List Nat) (cur : Int64) (x : Int32) (y : Int32) (z : Int32) (ho : o < 6) : Met l yX1_key wsX1_key ({ frames := 1, cells := 0, slots := 0, locals := 25 }) (zw_P [.ref h0, .int x, .int y, .int z] (dC, dI) vwCl (zy_w h0 ha cA f o ks.length cur) [(cA, .long)]) (zw_Q (some (.long (zf_ky o x y z)))) 0 0 (fun _ => False) := by
  refine Met.ofW (cc := cX1_key) (maxL := 4) (ret := (some .long)) (by decide) rfl ?_
  intro p e s m args below meth c s₁ B hml hv
  obtain ⟨rfl, hP, hK⟩ := hv
  have hx := B.exec
  have hb := B.bytes
  have hr := B.returns
  have hts := atoms_spec (ws := wsX1_key) B.pre
  have hown : s.vm.findClass RX1 = some m.cls := findClass_of_methodNamed B.named
  have hl := lv_entry ([.ref h0, .int x, .int y, .int z]) (n := 4) (Nat.le_of_ble_eq_true rfl)
  rw [lg_entry_eq]
  generalize (lg_sl ([.ref h0, .int x, .int y, .int z]) ++ List.replicate (4 - (lg_sl ([.ref h0, .int x, .int y, .int z])).length) Slot.unset).toArray = ls at hl ⊢
  have hl : lv_has ls 4 [(0, .ref h0), (1, .int x), (2, .int y), (3, .int z)] := hl
  have hP : va_P (dC, dI) vwCl (zy_w h0 ha cA f o ks.length cur) s.heap := hP
  match o, ho with
  | 0, _ =>
    have hP : va_P (dC, dI) vwCl (zy_w h0 ha cA f 0 ks.length cur) s.heap := hP
    refine lv_aload_n hx hb dX1_key_0 rfl (lv_at hl 0 rfl) ?_
    refine va_get (D := (dC, dI)) (ci := 1) (v := .int (nI 0)) (C := RX1) (T := TX1) (N := 4) hx hb hts (by decide +kernel) hown hK hP 0 rfl rfl 2 (by decide) (hts (.fieldLink RX1 25 "PageIndexModel" "order" "I") (by decide +kernel)) (fun _ h9 => h9) rfl dX1_key_1 ?_
    refine lv_tableIn (tgt := 40) hx hb dX1_key_4 (by decide) (by decide) rfl (by decide) ?_
    refine lv_iload_n hx hb dX1_key_40 rfl (lv_at hl 1 rfl) ?_
    refine lv_i2l (v := Int32.toInt64 x) hx hb dX1_key_41 rfl ?_
    refine lv_iload_n hx hb dX1_key_42 rfl (lv_at hl 2 rfl) ?_
    refine lv_i2l (v := Int32.toInt64 y) hx hb dX1_key_43 rfl ?_
    refine lv_iload_n hx hb dX1_key_44 rfl (lv_at hl 3 rfl) ?_
    refine lv_i2l (v := Int32.toInt64 z) hx hb dX1_key_45 rfl ?_
    refine zw_cl (va_runS (As := [.long (Int32.toInt64 x), .long (Int32.toInt64 y), .long (Int32.toInt64 z)]) (rest := []) ⟨hx, hb, hml, hown, hts⟩ (zd_packed l (Int32.toInt64 x) (Int32.toInt64 y) (Int32.toInt64 z)) (va_cwS 3 hts gX1_key_X1_packed rfl rfl rfl (by decide +kernel) ⟨Nat.le_of_ble_eq_true rfl, Nat.le_of_ble_eq_true rfl⟩) (preEq) rfl rfl hl.1 rfl (lv_room (Nat.le_of_ble_eq_true rfl)) dX1_key_46 ⟨Nat.zero_le _, Nat.zero_le _⟩) ?_
    refine zw_eql (y := zf_ky 0 x y z) (rfl) ?_
    exact W.lret hx hb hr (fun t ht hW => ⟨rfl, ht⟩) (fun q h => by cases h) dX1_key_49
  | 1, _ =>
    have hP : va_P (dC, dI) vwCl (zy_w h0 ha cA f 1 ks.length cur) s.heap := hP
    refine lv_aload_n hx hb dX1_key_0 rfl (lv_at hl 0 rfl) ?_
    refine va_get (D := (dC, dI)) (ci := 1) (v := .int (nI 1)) (C := RX1) (T := TX1) (N := 4) hx hb hts (by decide +kernel) hown hK hP 0 rfl rfl 2 (by decide) (hts (.fieldLink RX1 25 "PageIndexModel" "order" "I") (by decide +kernel)) (fun _ h9 => h9) rfl dX1_key_1 ?_
    refine lv_tableIn (tgt := 50) hx hb dX1_key_4 (by decide) (by decide) rfl (by decide) ?_
    refine lv_iload_n hx hb dX1_key_50 rfl (lv_at hl 1 rfl) ?_
    refine lv_i2l (v := Int32.toInt64 x) hx hb dX1_key_51 rfl ?_
    refine lv_iload_n hx hb dX1_key_52 rfl (lv_at hl 3 rfl) ?_
    refine lv_i2l (v := Int32.toInt64 z) hx hb dX1_key_53 rfl ?_
    refine lv_iload_n hx hb dX1_key_54 rfl (lv_at hl 2 rfl) ?_
    refine lv_i2l (v := Int32.toInt64 y) hx hb dX1_key_55 rfl ?_
    refine zw_cl (va_runS (As := [.long (Int32.toInt64 x), .long (Int32.toInt64 z), .long (Int32.toInt64 y)]) (rest := []) ⟨hx, hb, hml, hown, hts⟩ (zd_packed l (Int32.toInt64 x) (Int32.toInt64 z) (Int32.toInt64 y)) (va_cwS 3 hts gX1_key_X1_packed rfl rfl rfl (by decide +kernel) ⟨Nat.le_of_ble_eq_true rfl, Nat.le_of_ble_eq_true rfl⟩) (preEq) rfl rfl hl.1 rfl (lv_room (Nat.le_of_ble_eq_true rfl)) dX1_key_56 ⟨Nat.zero_le _, Nat.zero_le _⟩) ?_
    refine zw_eql (y := zf_ky 1 x y z) (rfl) ?_
    exact W.lret hx hb hr (fun t ht hW => ⟨rfl, ht⟩) (fun q h => by cases h) dX1_key_59
  | 2, _ =>
    have hP : va_P (dC, dI) vwCl (zy_w h0 ha cA f 2 ks.length cur) s.heap := hP
    refine lv_aload_n hx hb dX1_key_0 rfl (lv_at hl 0 rfl) ?_
    refine va_get (D := (dC, dI)) (ci := 1) (v := .int (nI 2)) (C := RX1) (T := TX1) (N := 4) hx hb hts (by decide +kernel) hown hK hP 0 rfl rfl 2 (by decide) (hts (.fieldLink RX1 25 "PageIndexModel" "order" "I") (by decide +kernel)) (fun _ h9 => h9) rfl dX1_key_1 ?_
    refine lv_tableIn (tgt := 60) hx hb dX1_key_4 (by decide) (by decide) rfl (by decide) ?_
    refine lv_iload_n hx hb dX1_key_60 rfl (lv_at hl 2 rfl) ?_
    refine lv_i2l (v := Int32.toInt64 y) hx hb dX1_key_61 rfl ?_
    refine lv_iload_n hx hb dX1_key_62 rfl (lv_at hl 1 rfl) ?_
    refine lv_i2l (v := Int32.toInt64 x) hx hb dX1_key_63 rfl ?_
    refine lv_iload_n hx hb dX1_key_64 rfl (lv_at hl 3 rfl) ?_
    refine lv_i2l (v := Int32.toInt64 z) hx hb dX1_key_65 rfl ?_
    refine zw_cl (va_runS (As := [.long (Int32.toInt64 y), .long (Int32.toInt64 x), .long (Int32.toInt64 z)]) (rest := []) ⟨hx, hb, hml, hown, hts⟩ (zd_packed l (Int32.toInt64 y) (Int32.toInt64 x) (Int32.toInt64 z)) (va_cwS 3 hts gX1_key_X1_packed rfl rfl rfl (by decide +kernel) ⟨Nat.le_of_ble_eq_true rfl, Nat.le_of_ble_eq_true rfl⟩) (preEq) rfl rfl hl.1 rfl (lv_room (Nat.le_of_ble_eq_true rfl)) dX1_key_66 ⟨Nat.zero_le _, Nat.zero_le _⟩) ?_
    refine zw_eql (y := zf_ky 2 x y z) (rfl) ?_
    exact W.lret hx hb hr (fun t ht hW => ⟨rfl, ht⟩) (fun q h => by cases h) dX1_key_69
  | 3, _ =>
    have hP : va_P (dC, dI) vwCl (zy_w h0 ha cA f 3 ks.length cur) s.heap := hP
    refine lv_aload_n hx hb dX1_key_0 rfl (lv_at hl 0 rfl) ?_
    refine va_get (D := (dC, dI)) (ci := 1) (v := .int (nI 3)) (C := RX1) (T := TX1) (N := 4) hx hb hts (by decide +kernel) hown hK hP 0 rfl rfl 2 (by decide) (hts (.fieldLink RX1 25 "PageIndexModel" "order" "I") (by decide +kernel)) (fun _ h9 => h9) rfl dX1_key_1 ?_
    refine lv_tableIn (tgt := 70) hx hb dX1_key_4 (by decide) (by decide) rfl (by decide) ?_
    refine lv_iload_n hx hb dX1_key_70 rfl (lv_at hl 2 rfl) ?_
    refine lv_i2l (v := Int32.toInt64 y) hx hb dX1_key_71 rfl ?_
    refine lv_iload_n hx hb dX1_key_72 rfl (lv_at hl 3 rfl) ?_
    refine lv_i2l (v := Int32.toInt64 z) hx hb dX1_key_73 rfl ?_
    refine lv_iload_n hx hb dX1_key_74 rfl (lv_at hl 1 rfl) ?_
    refine lv_i2l (v := Int32.toInt64 x) hx hb dX1_key_75 rfl ?_
    refine zw_cl (va_runS (As := [.long (Int32.toInt64 y), .long (Int32.toInt64 z), .long (Int32.toInt64 x)]) (rest := []) ⟨hx, hb, hml, hown, hts⟩ (zd_packed l (Int32.toInt64 y) (Int32.toInt64 z) (Int32.toInt64 x)) (va_cwS 3 hts gX1_key_X1_packed rfl rfl rfl (by decide +kernel) ⟨Nat.le_of_ble_eq_true rfl, Nat.le_of_ble_eq_true rfl⟩) (preEq) rfl rfl hl.1 rfl (lv_room (Nat.le_of_ble_eq_true rfl)) dX1_key_76 ⟨Nat.zero_le _, Nat.zero_le _⟩) ?_
    refine zw_eql (y := zf_ky 3 x y z) (rfl) ?_
    exact W.lret hx hb hr (fun t ht hW => ⟨rfl, ht⟩) (fun q h => by cases h) dX1_key_79
  | 4, _ =>
    have hP : va_P (dC, dI) vwCl (zy_w h0 ha cA f 4 ks.length cur) s.heap := hP
    refine lv_aload_n hx hb dX1_key_0 rfl (lv_at hl 0 rfl) ?_
    refine va_get (D := (dC, dI)) (ci := 1) (v := .int (nI 4)) (C := RX1) (T := TX1) (N := 4) hx hb hts (by decide +kernel) hown hK hP 0 rfl rfl 2 (by decide) (hts (.fieldLink RX1 25 "PageIndexModel" "order" "I") (by decide +kernel)) (fun _ h9 => h9) rfl dX1_key_1 ?_
    refine lv_tableIn (tgt := 80) hx hb dX1_key_4 (by decide) (by decide) rfl (by decide) ?_
    refine lv_iload_n hx hb dX1_key_80 rfl (lv_at hl 3 rfl) ?_
    refine lv_i2l (v := Int32.toInt64 z) hx hb dX1_key_81 rfl ?_
    refine lv_iload_n hx hb dX1_key_82 rfl (lv_at hl 1 rfl) ?_
    refine lv_i2l (v := Int32.toInt64 x) hx hb dX1_key_83 rfl ?_
    refine lv_iload_n hx hb dX1_key_84 rfl (lv_at hl 2 rfl) ?_
    refine lv_i2l (v := Int32.toInt64 y) hx hb dX1_key_85 rfl ?_
    refine zw_cl (va_runS (As := [.long (Int32.toInt64 z), .long (Int32.toInt64 x), .long (Int32.toInt64 y)]) (rest := []) ⟨hx, hb, hml, hown, hts⟩ (zd_packed l (Int32.toInt64 z) (Int32.toInt64 x) (Int32.toInt64 y)) (va_cwS 3 hts gX1_key_X1_packed rfl rfl rfl (by decide +kernel) ⟨Nat.le_of_ble_eq_true rfl, Nat.le_of_ble_eq_true rfl⟩) (preEq) rfl rfl hl.1 rfl (lv_room (Nat.le_of_ble_eq_true rfl)) dX1_key_86 ⟨Nat.zero_le _, Nat.zero_le _⟩) ?_
    refine zw_eql (y := zf_ky 4 x y z) (rfl) ?_
    exact W.lret hx hb hr (fun t ht hW => ⟨rfl, ht⟩) (fun q h => by cases h) dX1_key_89
  | 5, _ =>
    have hP : va_P (dC, dI) vwCl (zy_w h0 ha cA f 5 ks.length cur) s.heap := hP
    refine lv_aload_n hx hb dX1_key_0 rfl (lv_at hl 0 rfl) ?_
    refine va_get (D := (dC, dI)) (ci := 1) (v := .int (nI 5)) (C := RX1) (T := TX1) (N := 4) hx hb hts (by decide +kernel) hown hK hP 0 rfl rfl 2 (by decide) (hts (.fieldLink RX1 25 "PageIndexModel" "order" "I") (by decide +kernel)) (fun _ h9 => h9) rfl dX1_key_1 ?_
    refine lv_tableOut (tgt := 90) hx hb dX1_key_4 (by decide) (by decide) ?_
    refine lv_iload_n hx hb dX1_key_90 rfl (lv_at hl 3 rfl) ?_
    refine lv_i2l (v := Int32.toInt64 z) hx hb dX1_key_91 rfl ?_
    refine lv_iload_n hx hb dX1_key_92 rfl (lv_at hl 2 rfl) ?_
    refine lv_i2l (v := Int32.toInt64 y) hx hb dX1_key_93 rfl ?_
    refine lv_iload_n hx hb dX1_key_94 rfl (lv_at hl 1 rfl) ?_
    refine lv_i2l (v := Int32.toInt64 x) hx hb dX1_key_95 rfl ?_
    refine zw_cl (va_runS (As := [.long (Int32.toInt64 z), .long (Int32.toInt64 y), .long (Int32.toInt64 x)]) (rest := []) ⟨hx, hb, hml, hown, hts⟩ (zd_packed l (Int32.toInt64 z) (Int32.toInt64 y) (Int32.toInt64 x)) (va_cwS 3 hts gX1_key_X1_packed rfl rfl rfl (by decide +kernel) ⟨Nat.le_of_ble_eq_true rfl, Nat.le_of_ble_eq_true rfl⟩) (preEq) rfl rfl hl.1 rfl (lv_room (Nat.le_of_ble_eq_true rfl)) dX1_key_96 ⟨Nat.zero_le _, Nat.zero_le _⟩) ?_
    refine zw_eql (y := zf_ky 5 x y z) (rfl) ?_
    exact W.lret hx hb hr (fun t ht hW => ⟨rfl, ht⟩) (fun q h => by cases h) dX1_key_99
set_option maxHeartbeats 4000000 in
set_option maxRecDepth 100000 in
/-- placeOf(v) -/
theorem zd_placeOf (l : Launch) (dC : Nat → ClassId) (dI : Nat → Nat → Nat) (h0 ha : Nat) (cA : ClassId) (f : Nat → Int64) (o : Nat) (ks : List Nat) (cur : Int64) (v : Int32) (ho : o < 6) : Met l yX1_placeOf wsX1_placeOf ({ frames := 0, cells := 0, slots := 0, locals := 0 }) (zw_P [.ref h0, .int v] (dC, dI) vwCl (zy_w h0 ha cA f o ks.length cur) [(cA, .long)]) (zw_Q (some (.int (zf_pl o v)))) 0 0 (fun _ => False) := by
  refine Met.ofW (cc := cX1_placeOf) (maxL := 2) (ret := (some .int)) (by decide) rfl ?_
  intro p e s m args below meth c s₁ B hml hv
  obtain ⟨rfl, hP, hK⟩ := hv
  have hx := B.exec
  have hb := B.bytes
  have hr := B.returns
  have hts := atoms_spec (ws := wsX1_placeOf) B.pre
  have hown : s.vm.findClass RX1 = some m.cls := findClass_of_methodNamed B.named
  have hl := lv_entry ([.ref h0, .int v]) (n := 2) (Nat.le_of_ble_eq_true rfl)
  rw [lg_entry_eq]
  generalize (lg_sl ([.ref h0, .int v]) ++ List.replicate (2 - (lg_sl ([.ref h0, .int v])).length) Slot.unset).toArray = ls at hl ⊢
  have hl : lv_has ls 2 [(0, .ref h0), (1, .int v)] := hl
  have hP : va_P (dC, dI) vwCl (zy_w h0 ha cA f o ks.length cur) s.heap := hP
  match o, ho with
  | 0, _ =>
    have hP : va_P (dC, dI) vwCl (zy_w h0 ha cA f 0 ks.length cur) s.heap := hP
    refine lv_aload_n hx hb dX1_placeOf_0 rfl (lv_at hl 0 rfl) ?_
    refine va_get (D := (dC, dI)) (ci := 1) (v := .int (nI 0)) (C := RX1) (T := TX1) (N := 4) hx hb hts (by decide +kernel) hown hK hP 0 rfl rfl 2 (by decide) (hts (.fieldLink RX1 25 "PageIndexModel" "order" "I") (by decide +kernel)) (fun _ h9 => h9) rfl dX1_placeOf_1 ?_
    refine lv_tableIn (tgt := 40) hx hb dX1_placeOf_4 (by decide) (by decide) rfl (by decide) ?_
    refine lv_iload_n hx hb dX1_placeOf_40 rfl (lv_at hl 1 rfl) ?_
    refine zw_eqi (y := zf_pl 0 v) (rfl) ?_
    exact W.iret hx hb hr (fun t ht hW => ⟨rfl, ht⟩) (fun q h => by cases h) dX1_placeOf_41
  | 1, _ =>
    have hP : va_P (dC, dI) vwCl (zy_w h0 ha cA f 1 ks.length cur) s.heap := hP
    refine lv_aload_n hx hb dX1_placeOf_0 rfl (lv_at hl 0 rfl) ?_
    refine va_get (D := (dC, dI)) (ci := 1) (v := .int (nI 1)) (C := RX1) (T := TX1) (N := 4) hx hb hts (by decide +kernel) hown hK hP 0 rfl rfl 2 (by decide) (hts (.fieldLink RX1 25 "PageIndexModel" "order" "I") (by decide +kernel)) (fun _ h9 => h9) rfl dX1_placeOf_1 ?_
    refine lv_tableIn (tgt := 42) hx hb dX1_placeOf_4 (by decide) (by decide) rfl (by decide) ?_
    refine lv_iload_n hx hb dX1_placeOf_42 rfl (lv_at hl 1 rfl) ?_
    refine lv_if_ne (tgt := 50) hx hb dX1_placeOf_43 (by decide) (fun c_43 => ?_) (fun c_43 => ?_)
    · refine lv_iconst (v := 3) hx hb dX1_placeOf_50 (by decide) ?_
      refine lv_iload_n hx hb dX1_placeOf_51 rfl (lv_at hl 1 rfl) ?_
      refine lv_isub hx hb dX1_placeOf_52 ?_
      refine zw_eqi (y := zf_pl 1 v) (by simp [zf_pl, c_43]) ?_
      exact W.iret hx hb hr (fun t ht hW => ⟨rfl, ht⟩) (fun q h => by cases h) dX1_placeOf_53
    · refine lv_iconst (v := 0) hx hb dX1_placeOf_46 (by decide) ?_
      refine lv_goto (tgt := 53) hx hb dX1_placeOf_47 (by decide) ?_
      refine zw_eqi (y := zf_pl 1 v) (by simp [zf_pl, c_43]) ?_
      exact W.iret hx hb hr (fun t ht hW => ⟨rfl, ht⟩) (fun q h => by cases h) dX1_placeOf_53
  | 2, _ =>
    have hP : va_P (dC, dI) vwCl (zy_w h0 ha cA f 2 ks.length cur) s.heap := hP
    refine lv_aload_n hx hb dX1_placeOf_0 rfl (lv_at hl 0 rfl) ?_
    refine va_get (D := (dC, dI)) (ci := 1) (v := .int (nI 2)) (C := RX1) (T := TX1) (N := 4) hx hb hts (by decide +kernel) hown hK hP 0 rfl rfl 2 (by decide) (hts (.fieldLink RX1 25 "PageIndexModel" "order" "I") (by decide +kernel)) (fun _ h9 => h9) rfl dX1_placeOf_1 ?_
    refine lv_tableIn (tgt := 54) hx hb dX1_placeOf_4 (by decide) (by decide) rfl (by decide) ?_
    refine lv_iload_n hx hb dX1_placeOf_54 rfl (lv_at hl 1 rfl) ?_
    refine lv_iconst (v := 2) hx hb dX1_placeOf_55 (by decide) ?_
    refine lv_icmp_ne (tgt := 63) hx hb dX1_placeOf_56 (by decide) (fun c_56 => ?_) (fun c_56 => ?_)
    · refine lv_iconst (v := 1) hx hb dX1_placeOf_63 (by decide) ?_
      refine lv_iload_n hx hb dX1_placeOf_64 rfl (lv_at hl 1 rfl) ?_
      refine lv_isub hx hb dX1_placeOf_65 ?_
      refine zw_eqi (y := zf_pl 2 v) (by simp [zf_pl, c_56]) ?_
      exact W.iret hx hb hr (fun t ht hW => ⟨rfl, ht⟩) (fun q h => by cases h) dX1_placeOf_66
    · refine lv_iconst (v := 2) hx hb dX1_placeOf_59 (by decide) ?_
      refine lv_goto (tgt := 66) hx hb dX1_placeOf_60 (by decide) ?_
      refine zw_eqi (y := zf_pl 2 v) (by simp [zf_pl, c_56]) ?_
      exact W.iret hx hb hr (fun t ht hW => ⟨rfl, ht⟩) (fun q h => by cases h) dX1_placeOf_66
  | 3, _ =>
    have hP : va_P (dC, dI) vwCl (zy_w h0 ha cA f 3 ks.length cur) s.heap := hP
    refine lv_aload_n hx hb dX1_placeOf_0 rfl (lv_at hl 0 rfl) ?_
    refine va_get (D := (dC, dI)) (ci := 1) (v := .int (nI 3)) (C := RX1) (T := TX1) (N := 4) hx hb hts (by decide +kernel) hown hK hP 0 rfl rfl 2 (by decide) (hts (.fieldLink RX1 25 "PageIndexModel" "order" "I") (by decide +kernel)) (fun _ h9 => h9) rfl dX1_placeOf_1 ?_
    refine lv_tableIn (tgt := 67) hx hb dX1_placeOf_4 (by decide) (by decide) rfl (by decide) ?_
    refine lv_iload_n hx hb dX1_placeOf_67 rfl (lv_at hl 1 rfl) ?_
    refine lv_if_ne (tgt := 75) hx hb dX1_placeOf_68 (by decide) (fun c_68 => ?_) (fun c_68 => ?_)
    · refine lv_iload_n hx hb dX1_placeOf_75 rfl (lv_at hl 1 rfl) ?_
      refine lv_iconst (v := 1) hx hb dX1_placeOf_76 (by decide) ?_
      refine lv_isub hx hb dX1_placeOf_77 ?_
      refine zw_eqi (y := zf_pl 3 v) (by simp [zf_pl, c_68]) ?_
      exact W.iret hx hb hr (fun t ht hW => ⟨rfl, ht⟩) (fun q h => by cases h) dX1_placeOf_78
    · refine lv_iconst (v := 2) hx hb dX1_placeOf_71 (by decide) ?_
      refine lv_goto (tgt := 78) hx hb dX1_placeOf_72 (by decide) ?_
      refine zw_eqi (y := zf_pl 3 v) (by simp [zf_pl, c_68]) ?_
      exact W.iret hx hb hr (fun t ht hW => ⟨rfl, ht⟩) (fun q h => by cases h) dX1_placeOf_78
  | 4, _ =>
    have hP : va_P (dC, dI) vwCl (zy_w h0 ha cA f 4 ks.length cur) s.heap := hP
    refine lv_aload_n hx hb dX1_placeOf_0 rfl (lv_at hl 0 rfl) ?_
    refine va_get (D := (dC, dI)) (ci := 1) (v := .int (nI 4)) (C := RX1) (T := TX1) (N := 4) hx hb hts (by decide +kernel) hown hK hP 0 rfl rfl 2 (by decide) (hts (.fieldLink RX1 25 "PageIndexModel" "order" "I") (by decide +kernel)) (fun _ h9 => h9) rfl dX1_placeOf_1 ?_
    refine lv_tableIn (tgt := 79) hx hb dX1_placeOf_4 (by decide) (by decide) rfl (by decide) ?_
    refine lv_iload_n hx hb dX1_placeOf_79 rfl (lv_at hl 1 rfl) ?_
    refine lv_iconst (v := 2) hx hb dX1_placeOf_80 (by decide) ?_
    refine lv_icmp_ne (tgt := 88) hx hb dX1_placeOf_81 (by decide) (fun c_81 => ?_) (fun c_81 => ?_)
    · refine lv_iload_n hx hb dX1_placeOf_88 rfl (lv_at hl 1 rfl) ?_
      refine lv_iconst (v := 1) hx hb dX1_placeOf_89 (by decide) ?_
      refine lv_iadd hx hb dX1_placeOf_90 ?_
      refine zw_eqi (y := zf_pl 4 v) (by simp [zf_pl, c_81]) ?_
      exact W.iret hx hb hr (fun t ht hW => ⟨rfl, ht⟩) (fun q h => by cases h) dX1_placeOf_91
    · refine lv_iconst (v := 0) hx hb dX1_placeOf_84 (by decide) ?_
      refine lv_goto (tgt := 91) hx hb dX1_placeOf_85 (by decide) ?_
      refine zw_eqi (y := zf_pl 4 v) (by simp [zf_pl, c_81]) ?_
      exact W.iret hx hb hr (fun t ht hW => ⟨rfl, ht⟩) (fun q h => by cases h) dX1_placeOf_91
  | 5, _ =>
    have hP : va_P (dC, dI) vwCl (zy_w h0 ha cA f 5 ks.length cur) s.heap := hP
    refine lv_aload_n hx hb dX1_placeOf_0 rfl (lv_at hl 0 rfl) ?_
    refine va_get (D := (dC, dI)) (ci := 1) (v := .int (nI 5)) (C := RX1) (T := TX1) (N := 4) hx hb hts (by decide +kernel) hown hK hP 0 rfl rfl 2 (by decide) (hts (.fieldLink RX1 25 "PageIndexModel" "order" "I") (by decide +kernel)) (fun _ h9 => h9) rfl dX1_placeOf_1 ?_
    refine lv_tableOut (tgt := 92) hx hb dX1_placeOf_4 (by decide) (by decide) ?_
    refine lv_iconst (v := 2) hx hb dX1_placeOf_92 (by decide) ?_
    refine lv_iload_n hx hb dX1_placeOf_93 rfl (lv_at hl 1 rfl) ?_
    refine lv_isub hx hb dX1_placeOf_94 ?_
    refine zw_eqi (y := zf_pl 5 v) (rfl) ?_
    exact W.iret hx hb hr (fun t ht hW => ⟨rfl, ht⟩) (fun q h => by cases h) dX1_placeOf_95
set_option maxHeartbeats 4000000 in
set_option maxRecDepth 100000 in
/-- size() -/
theorem zd_size (l : Launch) (dC : Nat → ClassId) (dI : Nat → Nat → Nat) (h0 ha : Nat) (cA : ClassId) (f : Nat → Int64) (o : Nat) (ks : List Nat) (cur : Int64) : Met l yX1_size wsX1_size ({ frames := 0, cells := 0, slots := 0, locals := 0 }) (zw_P [.ref h0] (dC, dI) vwCl (zy_w h0 ha cA f o ks.length cur) [(cA, .long)]) (zw_Q (some (.int (nI ks.length)))) 0 0 (fun _ => False) := by
  refine Met.ofW (cc := cX1_size) (maxL := 1) (ret := (some .int)) (by decide) rfl ?_
  intro p e s m args below meth c s₁ B hml hv
  obtain ⟨rfl, hP, hK⟩ := hv
  have hx := B.exec
  have hb := B.bytes
  have hr := B.returns
  have hts := atoms_spec (ws := wsX1_size) B.pre
  have hown : s.vm.findClass RX1 = some m.cls := findClass_of_methodNamed B.named
  have hl := lv_entry ([.ref h0]) (n := 1) (Nat.le_of_ble_eq_true rfl)
  rw [lg_entry_eq]
  generalize (lg_sl ([.ref h0]) ++ List.replicate (1 - (lg_sl ([.ref h0])).length) Slot.unset).toArray = ls at hl ⊢
  have hl : lv_has ls 1 [(0, .ref h0)] := hl
  have hP : va_P (dC, dI) vwCl (zy_w h0 ha cA f o ks.length cur) s.heap := hP
  refine lv_aload_n hx hb dX1_size_0 rfl (lv_at hl 0 rfl) ?_
  refine va_get (D := (dC, dI)) (ci := 1) (v := .int (nI ks.length)) (C := RX1) (T := TX1) (N := 4) hx hb hts (by decide +kernel) hown hK hP 0 rfl rfl 1 (by decide) (hts (.fieldLink RX1 40 "PageIndexModel" "size" "I") (by decide +kernel)) (fun _ h9 => h9) rfl dX1_size_1 ?_
  exact W.iret hx hb hr (fun t ht hW => ⟨rfl, ht⟩) (fun q h => by cases h) dX1_size_4
end
section
set_option maxHeartbeats 4000000 in
set_option maxRecDepth 100000 in
/-- below(k) -/
theorem zd_below (l : Launch) (dC : Nat → ClassId) (dI : Nat → Nat → Nat) (h0 ha : Nat) (cA : ClassId) (f : Nat → Int64) (o : Nat) (ks : List Nat) (cur : Int64) (k : Nat) (hk60 : k ≤ 1152921504606846976) (hG : zk_R ks f) : Met l yX1_below wsX1_below ({ frames := 0, cells := 0, slots := 0, locals := 0 }) (zw_P [.ref h0, .long (lN k)] (dC, dI) vwCl (zy_w h0 ha cA f o ks.length cur) [(cA, .long)]) (zw_Q (some (.int (nI (zk_c ks k))))) 0 0 (fun _ => False) := by
  refine Met.ofW (cc := cX1_below) (maxL := 4) (ret := (some .int)) (by decide) rfl ?_
  intro p e s m args below meth c s₁ B hml hv
  obtain ⟨rfl, hP, hK⟩ := hv
  have hx := B.exec
  have hb := B.bytes
  have hr := B.returns
  have hts := atoms_spec (ws := wsX1_below) B.pre
  have hown : s.vm.findClass RX1 = some m.cls := findClass_of_methodNamed B.named
  have hl := lv_entry ([.ref h0, .long (lN k)]) (n := 4) (Nat.le_of_ble_eq_true rfl)
  rw [lg_entry_eq]
  generalize (lg_sl ([.ref h0, .long (lN k)]) ++ List.replicate (4 - (lg_sl ([.ref h0, .long (lN k)])).length) Slot.unset).toArray = ls at hl ⊢
  have hl : lv_has ls 4 [(0, .ref h0), (1, .long (lN k))] := hl
  have hP : va_P (dC, dI) vwCl (zy_w h0 ha cA f o ks.length cur) s.heap := hP
  obtain ⟨hs, h60, hn, hf⟩ := hG
  have hCl := zk_c_le ks k
  have LOOP : ∀ (r i : Nat), i + r = zk_c ks k → ∀ ls : Array Slot, lv_has ls 4 [(3, .int (nI i)), (0, .ref h0), (1, .long (lN k))] → W p l e (headSpec wsX1_below ({ frames := 0, cells := 0, slots := 0, locals := 0 })).room s m [.ref h0, .long (lN k)].toArray below meth c s.heap [] 0 0 (MQ below (zw_Q (some (.int (nI (zk_c ks k))))) [.ref h0, .long (lN k)].toArray s 0 0 (fun _ => False)) (F0 m 2 ls []) := by
    intro r
    induction r with
    | zero =>
      intro i h1 ls hl
      have ei : i = zk_c ks k := by omega
      refine lv_iload_n hx hb dX1_below_2 rfl (lv_at hl 0 rfl) ?_
      refine lv_aload_n hx hb dX1_below_3 rfl (lv_at hl 1 rfl) ?_
      refine va_get (D := (dC, dI)) (ci := 1) (v := .int (nI ks.length)) (C := RX1) (T := TX1) (N := 4) hx hb hts (by decide +kernel) hown hK hP 0 rfl rfl 1 (by decide) (hts (.fieldLink RX1 40 "PageIndexModel" "size" "I") (by decide +kernel)) (fun _ h9 => h9) rfl dX1_below_4 ?_
      refine lv_icmp_ge (tgt := 27) hx hb dX1_below_7 (by decide) (fun c_7 => ?_) (fun c_7 => ?_)
      · have h7 : ks.length ≤ i := (nI_leI (by omega) (by omega)).mp c_7
        refine lv_iload_n hx hb dX1_below_27 rfl (lv_at hl 0 rfl) ?_
        refine zw_eqi (y := nI (zk_c ks k)) (by rw [ei]) ?_
        exact W.iret hx hb hr (fun t ht hW => ⟨rfl, ht⟩) (fun q h => by cases h) dX1_below_28
      · have h7 : i < ks.length := Nat.lt_of_not_le (fun z => c_7 (nI_le z (by omega)))
        have hkey := zk_lt ks k hs i h7
        have hkb := h60 _ (zk_mem_getD h7)
        refine lv_aload_n hx hb dX1_below_10 rfl (lv_at hl 1 rfl) ?_
        refine va_get (D := (dC, dI)) (ci := 1) (v := .ref ha) (C := RX1) (T := TX1) (N := 4) hx hb hts (by decide +kernel) hown hK hP 0 rfl rfl 0 (by decide) (hts (.fieldLink RX1 7 "PageIndexModel" "keys" "[J") (by decide +kernel)) (fun _ h9 => h9) rfl dX1_below_11 ?_
        refine lv_iload_n hx hb dX1_below_14 rfl (lv_at hl 0 rfl) ?_
        refine va_lald hx hb hK hP 1 0 rfl rfl (pk_in i 20000 (by omega) rfl (by omega)) dX1_below_15 ?_
        refine zw_eql (y := lN (ks.getD i 0)) (by rw [nI_clamp (by omega)]; exact hf _ (by omega)) ?_
        refine lv_lload_n hx hb dX1_below_16 rfl (lv_at hl 2 rfl) ?_
        refine W.lcmp hx hb dX1_below_17 ?_
        refine lv_if_ge (tgt := 27) hx hb dX1_below_18 (by decide) (fun c_18 => ?_) (fun c_18 => absurd ((lg_cmp_ge _ _).mpr ((pk_lLE (by omega) (by omega)).mpr (by omega))) c_18)
        refine lv_iload_n hx hb dX1_below_27 rfl (lv_at hl 0 rfl) ?_
        refine zw_eqi (y := nI (zk_c ks k)) (by rw [ei]) ?_
        exact W.iret hx hb hr (fun t ht hW => ⟨rfl, ht⟩) (fun q h => by cases h) dX1_below_28
    | succ r ih =>
      intro i h1 ls hl
      have hil : i < ks.length := by omega
      have hkey := zk_lt ks k hs i hil
      have hkb := h60 _ (zk_mem_getD hil)
      refine lv_iload_n hx hb dX1_below_2 rfl (lv_at hl 0 rfl) ?_
      refine lv_aload_n hx hb dX1_below_3 rfl (lv_at hl 1 rfl) ?_
      refine va_get (D := (dC, dI)) (ci := 1) (v := .int (nI ks.length)) (C := RX1) (T := TX1) (N := 4) hx hb hts (by decide +kernel) hown hK hP 0 rfl rfl 1 (by decide) (hts (.fieldLink RX1 40 "PageIndexModel" "size" "I") (by decide +kernel)) (fun _ h9 => h9) rfl dX1_below_4 ?_
      refine lv_icmp_ge (tgt := 27) hx hb dX1_below_7 (by decide) (fun c_7 => absurd c_7 (nI_ge hil (by omega))) (fun c_7 => ?_)
      refine lv_aload_n hx hb dX1_below_10 rfl (lv_at hl 1 rfl) ?_
      refine va_get (D := (dC, dI)) (ci := 1) (v := .ref ha) (C := RX1) (T := TX1) (N := 4) hx hb hts (by decide +kernel) hown hK hP 0 rfl rfl 0 (by decide) (hts (.fieldLink RX1 7 "PageIndexModel" "keys" "[J") (by decide +kernel)) (fun _ h9 => h9) rfl dX1_below_11 ?_
      refine lv_iload_n hx hb dX1_below_14 rfl (lv_at hl 0 rfl) ?_
      refine va_lald hx hb hK hP 1 0 rfl rfl (pk_in i 20000 (by omega) rfl (by omega)) dX1_below_15 ?_
      refine zw_eql (y := lN (ks.getD i 0)) (by rw [nI_clamp (by omega)]; exact hf _ (by omega)) ?_
      refine lv_lload_n hx hb dX1_below_16 rfl (lv_at hl 2 rfl) ?_
      refine W.lcmp hx hb dX1_below_17 ?_
      refine lv_if_ge (tgt := 27) hx hb dX1_below_18 (by decide) (fun c_18 => absurd c_18 (fun q => absurd ((pk_lLE (by omega) (by omega)).mp ((lg_cmp_ge _ _).mp q)) (by omega))) (fun c_18 => ?_)
      refine lv_iinc (v := nI (i + 1)) (lv' := [(3, .int (nI (i + 1))), (0, .ref h0), (1, .long (lN k))]) hx hb dX1_below_21 hl (k := 0) rfl (nI_1 _) (by decide) rfl (fun ls hl => ?_)
      refine lv_goto (tgt := 2) hx hb dX1_below_24 (by decide) ?_
      exact ih (i + 1) (by omega) ls (lv_sub hl [0, 1, 2] rfl)
  refine lv_iconst (v := 0) hx hb dX1_below_0 (by decide) ?_
  refine zw_eqi (y := nI 0) (nI_0.symm) ?_
  refine lv_istore_n (lv' := [(3, .int (nI 0)), (0, .ref h0), (1, .long (lN k))]) hx hb dX1_below_1 rfl hl (by decide) rfl (fun ls hl => ?_)
  exact LOOP (zk_c ks k) 0 (by omega) ls hl
set_option maxHeartbeats 4000000 in
set_option maxRecDepth 100000 in
/-- isThere(C, k) -/
theorem zd_isThere (l : Launch) (dC : Nat → ClassId) (dI : Nat → Nat → Nat) (h0 ha : Nat) (cA : ClassId) (f : Nat → Int64) (o : Nat) (ks : List Nat) (cur : Int64) (C k : Nat) (hC : C ≤ ks.length) (hk60 : k ≤ 1152921504606846976) (hG : zk_R ks f) : Met l yX1_isThere wsX1_isThere ({ frames := 0, cells := 0, slots := 0, locals := 0 }) (zw_P [.ref h0, .int (nI C), .long (lN k)] (dC, dI) vwCl (zy_w h0 ha cA f o ks.length cur) [(cA, .long)]) (zw_Q (some (.int (zb_I (decide (C < ks.length) && decide (ks.getD C 0 = k)))))) 0 0 (fun _ => False) := by
  refine Met.ofW (cc := cX1_isThere) (maxL := 4) (ret := (some .boolean)) (by decide) rfl ?_
  intro p e s m args below meth c s₁ B hml hv
  obtain ⟨rfl, hP, hK⟩ := hv
  have hx := B.exec
  have hb := B.bytes
  have hr := B.returns
  have hts := atoms_spec (ws := wsX1_isThere) B.pre
  have hown : s.vm.findClass RX1 = some m.cls := findClass_of_methodNamed B.named
  have hl := lv_entry ([.ref h0, .int (nI C), .long (lN k)]) (n := 4) (Nat.le_of_ble_eq_true rfl)
  rw [lg_entry_eq]
  generalize (lg_sl ([.ref h0, .int (nI C), .long (lN k)]) ++ List.replicate (4 - (lg_sl ([.ref h0, .int (nI C), .long (lN k)])).length) Slot.unset).toArray = ls at hl ⊢
  have hl : lv_has ls 4 [(0, .ref h0), (1, .int (nI C)), (2, .long (lN k))] := hl
  have hP : va_P (dC, dI) vwCl (zy_w h0 ha cA f o ks.length cur) s.heap := hP
  obtain ⟨hs, h60, hn, hf⟩ := hG
  refine lv_iload_n hx hb dX1_isThere_0 rfl (lv_at hl 1 rfl) ?_
  refine lv_aload_n hx hb dX1_isThere_1 rfl (lv_at hl 0 rfl) ?_
  refine va_get (D := (dC, dI)) (ci := 1) (v := .int (nI ks.length)) (C := RX1) (T := TX1) (N := 4) hx hb hts (by decide +kernel) hown hK hP 0 rfl rfl 1 (by decide) (hts (.fieldLink RX1 40 "PageIndexModel" "size" "I") (by decide +kernel)) (fun _ h9 => h9) rfl dX1_isThere_2 ?_
  refine lv_icmp_ge (tgt := 23) hx hb dX1_isThere_5 (by decide) (fun c_5 => ?_) (fun c_5 => ?_)
  · have h9 : ¬ C < ks.length := by have q := (nI_leI (by omega) (by omega)).mp c_5; omega
    refine lv_iconst (v := 0) hx hb dX1_isThere_23 (by decide) ?_
    refine zw_eqi (y := zb_I (decide (C < ks.length) && decide (ks.getD C 0 = k))) (by simp only [h9, decide_true, decide_false, Bool.true_and, Bool.false_and, eq_self]; rfl) ?_
    exact W.zret hx hb hr (zb_nar _) (fun t ht hW => ⟨rfl, ht⟩) (fun q h => by cases h) dX1_isThere_24
  · have h9 : C < ks.length := Nat.lt_of_not_le (fun z => c_5 (nI_le z (by omega)))
    have hkb := h60 _ (zk_mem_getD (ks := ks) (j := C) h9)
    refine lv_aload_n hx hb dX1_isThere_8 rfl (lv_at hl 0 rfl) ?_
    refine va_get (D := (dC, dI)) (ci := 1) (v := .ref ha) (C := RX1) (T := TX1) (N := 4) hx hb hts (by decide +kernel) hown hK hP 0 rfl rfl 0 (by decide) (hts (.fieldLink RX1 7 "PageIndexModel" "keys" "[J") (by decide +kernel)) (fun _ h9 => h9) rfl dX1_isThere_9 ?_
    refine lv_iload_n hx hb dX1_isThere_12 rfl (lv_at hl 1 rfl) ?_
    refine va_lald hx hb hK hP 1 0 rfl rfl (pk_in C 20000 (by omega) rfl (by omega)) dX1_isThere_13 ?_
    refine zw_eql (y := lN (ks.getD C 0)) (by rw [nI_clamp (by omega)]; exact hf _ h9) ?_
    refine lv_lload_n hx hb dX1_isThere_14 rfl (lv_at hl 2 rfl) ?_
    refine W.lcmp hx hb dX1_isThere_15 ?_
    refine lv_if_ne (tgt := 23) hx hb dX1_isThere_16 (by decide) (fun c_16 => ?_) (fun c_16 => ?_)
    · have h20 : ¬ ks.getD C 0 = k := fun z => c_16 ((lg_cmp_eq _ _).mpr (by rw [z]))
      refine lv_iconst (v := 0) hx hb dX1_isThere_23 (by decide) ?_
      refine zw_eqi (y := zb_I (decide (C < ks.length) && decide (ks.getD C 0 = k))) (by simp only [h9, h20, decide_true, decide_false, Bool.true_and, Bool.false_and, eq_self]; rfl) ?_
      exact W.zret hx hb hr (zb_nar _) (fun t ht hW => ⟨rfl, ht⟩) (fun q h => by cases h) dX1_isThere_24
    · have h20 : ks.getD C 0 = k := (pk_lEQ (by omega) (by omega)).mp ((lg_cmp_eq _ _).mp c_16)
      refine lv_iconst (v := 1) hx hb dX1_isThere_19 (by decide) ?_
      refine lv_goto (tgt := 24) hx hb dX1_isThere_20 (by decide) ?_
      refine zw_eqi (y := zb_I (decide (C < ks.length) && decide (ks.getD C 0 = k))) (by simp only [h9, h20, decide_true, decide_false, Bool.true_and, Bool.false_and, eq_self]; rfl) ?_
      exact W.zret hx hb hr (zb_nar _) (fun t ht hW => ⟨rfl, ht⟩) (fun q h => by cases h) dX1_isThere_24
set_option maxHeartbeats 4000000 in
set_option maxRecDepth 100000 in
/-- has(x, y, z) -/
theorem zd_has (l : Launch) (dC : Nat → ClassId) (dI : Nat → Nat → Nat) (h0 ha : Nat) (cA : ClassId) (f : Nat → Int64) (o : Nat) (ks : List Nat) (cur : Int64) (x : Int32) (y : Int32) (z : Int32) (ho : o < 6) (k : Nat) (hk : zf_nn x y z = true → zf_ky o x y z = lN k ∧ k < 1152921504606846976) (hG : zk_R ks f) : Met l yX1_has wsX1_has ({ frames := 2, cells := 0, slots := 0, locals := 48 }) (zw_P [.ref h0, .int x, .int y, .int z] (dC, dI) vwCl (zy_w h0 ha cA f o ks.length cur) [(cA, .long)]) (zw_Q (some (.int (if zf_nn x y z then zb_I (decide (k ∈ ks)) else -1)))) 0 0 (fun _ => False) := by
  refine Met.ofW (cc := cX1_has) (maxL := 6) (ret := (some .int)) (by decide) rfl ?_
  intro p e s m args below meth c s₁ B hml hv
  obtain ⟨rfl, hP, hK⟩ := hv
  have hx := B.exec
  have hb := B.bytes
  have hr := B.returns
  have hts := atoms_spec (ws := wsX1_has) B.pre
  have hown : s.vm.findClass RX1 = some m.cls := findClass_of_methodNamed B.named
  have hl := lv_entry ([.ref h0, .int x, .int y, .int z]) (n := 6) (Nat.le_of_ble_eq_true rfl)
  rw [lg_entry_eq]
  generalize (lg_sl ([.ref h0, .int x, .int y, .int z]) ++ List.replicate (6 - (lg_sl ([.ref h0, .int x, .int y, .int z])).length) Slot.unset).toArray = ls at hl ⊢
  have hl : lv_has ls 6 [(0, .ref h0), (1, .int x), (2, .int y), (3, .int z)] := hl
  have hP : va_P (dC, dI) vwCl (zy_w h0 ha cA f o ks.length cur) s.heap := hP
  refine lv_iconst (v := 3) hx hb dX1_has_0 (by decide) ?_
  refine lv_iload_n hx hb dX1_has_1 rfl (lv_at hl 1 rfl) ?_
  refine lv_iload_n hx hb dX1_has_2 rfl (lv_at hl 2 rfl) ?_
  refine lv_iload_n hx hb dX1_has_3 rfl (lv_at hl 3 rfl) ?_
  refine zw_ci (va_runS (As := [.int 3, .int x, .int y, .int z]) (rest := []) ⟨hx, hb, hml, hown, hts⟩ (zd_areNumbers l 3 x y z) (va_cwS 4 hts gX1_has_X1_areNumbers rfl rfl rfl (by decide +kernel) ⟨Nat.le_of_ble_eq_true rfl, Nat.le_of_ble_eq_true rfl⟩) (preEq) rfl rfl hl.1 rfl (lv_room (Nat.le_of_ble_eq_true rfl)) dX1_has_4 ⟨Nat.zero_le _, Nat.zero_le _⟩) ?_
  refine zw_eqi (y := zb_I (zf_nn x y z)) (by rw [zf_fn3]) ?_
  refine zw_ifne (tgt := 12) hx hb dX1_has_7 (by decide) (fun c_7 => ?_) (fun c_7 => ?_)
  · refine lv_aload_n hx hb dX1_has_12 rfl (lv_at hl 0 rfl) ?_
    refine lv_iload_n hx hb dX1_has_13 rfl (lv_at hl 1 rfl) ?_
    refine lv_iload_n hx hb dX1_has_14 rfl (lv_at hl 2 rfl) ?_
    refine lv_iload_n hx hb dX1_has_15 rfl (lv_at hl 3 rfl) ?_
    refine zw_cl (va_runV (As := [.int x, .int y, .int z]) (rest := []) ⟨hx, hb, hml, hown, hts⟩ (zd_key l dC dI h0 ha cA f o ks cur x y z ho) (cwV 3 hts gX1_has_X1_key rfl rfl rfl (by decide +kernel) ⟨Nat.le_of_ble_eq_true rfl, Nat.le_of_ble_eq_true rfl⟩) (zw_preV (ci := 1) (q0 := 0) hP hK rfl rfl) rfl rfl hl.1 rfl (lv_room (Nat.le_of_ble_eq_true rfl)) dX1_has_16 ⟨Nat.zero_le _, Nat.zero_le _⟩) ?_
    refine zw_eql (y := lN k) ((hk c_7).1) ?_
    refine lv_lstore (lv' := [(4, .long (lN k)), (0, .ref h0), (1, .int x), (2, .int y), (3, .int z)]) hx hb dX1_has_19 hl (by decide) rfl (fun ls hl => ?_)
    refine lv_aload_n hx hb dX1_has_21 rfl (lv_at hl 1 rfl) ?_
    refine lv_aload_n hx hb dX1_has_22 rfl (lv_at hl 1 rfl) ?_
    refine lv_lload hx hb dX1_has_23 (lv_at hl 0 rfl) ?_
    refine zw_ci (va_runV (As := [.long (lN k)]) (rest := [.ref h0]) ⟨hx, hb, hml, hown, hts⟩ (zd_below l dC dI h0 ha cA f o ks cur k (Nat.le_of_lt (hk c_7).2) hG) (cwV 1 hts gX1_has_X1_below rfl rfl rfl (by decide +kernel) ⟨Nat.le_of_ble_eq_true rfl, Nat.le_of_ble_eq_true rfl⟩) (zw_preV (ci := 1) (q0 := 0) hP hK rfl rfl) rfl rfl hl.1 rfl (lv_room (Nat.le_of_ble_eq_true rfl)) dX1_has_25 ⟨Nat.zero_le _, Nat.zero_le _⟩) ?_
    refine lv_lload hx hb dX1_has_28 (lv_at hl 0 rfl) ?_
    refine zw_ci (va_runV (As := [.int (nI (zk_c ks k)), .long (lN k)]) (rest := []) ⟨hx, hb, hml, hown, hts⟩ (zd_isThere l dC dI h0 ha cA f o ks cur (zk_c ks k) k (zk_c_le ks k) (Nat.le_of_lt (hk c_7).2) hG) (cwV 2 hts gX1_has_X1_isThere rfl rfl rfl (by decide +kernel) ⟨Nat.le_of_ble_eq_true rfl, Nat.le_of_ble_eq_true rfl⟩) (zw_preV (ci := 1) (q0 := 0) hP hK rfl rfl) rfl rfl hl.1 rfl (lv_room (Nat.le_of_ble_eq_true rfl)) dX1_has_30 ⟨Nat.zero_le _, Nat.zero_le _⟩) ?_
    refine zw_eqi (y := zb_I (decide (k ∈ ks))) (by rw [zk_mem_b hG.1]) ?_
    refine zw_ifeq (tgt := 40) hx hb dX1_has_33 (by decide) (fun c_33 => ?_) (fun c_33 => ?_)
    · refine lv_iconst (v := 0) hx hb dX1_has_40 (by decide) ?_
      refine zw_eqi (y := if zf_nn x y z then zb_I (decide (k ∈ ks)) else -1) (by simp [zb_I, c_7, c_33]) ?_
      exact W.iret hx hb hr (fun t ht hW => ⟨rfl, ht⟩) (fun q h => by cases h) dX1_has_41
    · refine lv_iconst (v := 1) hx hb dX1_has_36 (by decide) ?_
      refine lv_goto (tgt := 41) hx hb dX1_has_37 (by decide) ?_
      refine zw_eqi (y := if zf_nn x y z then zb_I (decide (k ∈ ks)) else -1) (by simp [zb_I, c_7, c_33]) ?_
      exact W.iret hx hb hr (fun t ht hW => ⟨rfl, ht⟩) (fun q h => by cases h) dX1_has_41
  · refine lv_iconst (v := (-1)) hx hb dX1_has_10 (by decide) ?_
    refine zw_eqi (y := if zf_nn x y z then zb_I (decide (k ∈ ks)) else -1) (by simp [zb_I, c_7]) ?_
    exact W.iret hx hb hr (fun t ht hW => ⟨rfl, ht⟩) (fun q h => by cases h) dX1_has_11
set_option maxHeartbeats 4000000 in
set_option maxRecDepth 100000 in
/-- rank(a, b, d) -/
theorem zd_rank (l : Launch) (dC : Nat → ClassId) (dI : Nat → Nat → Nat) (h0 ha : Nat) (cA : ClassId) (f : Nat → Int64) (o : Nat) (ks : List Nat) (cur : Int64) (a : Int32) (b : Int32) (d : Int32) (k : Nat) (hk : zf_nn a b d = true → zf_pk (Int32.toInt64 a) (Int32.toInt64 b) (Int32.toInt64 d) = lN k ∧ k < 1152921504606846976) (hG : zk_R ks f) : Met l yX1_rank wsX1_rank ({ frames := 2, cells := 0, slots := 0, locals := 43 }) (zw_P [.ref h0, .int a, .int b, .int d] (dC, dI) vwCl (zy_w h0 ha cA f o ks.length cur) [(cA, .long)]) (zw_Q (some (.int (if zf_nn a b d then nI (zk_c ks k) else -1)))) 0 0 (fun _ => False) := by
  refine Met.ofW (cc := cX1_rank) (maxL := 4) (ret := (some .int)) (by decide) rfl ?_
  intro p e s m args below meth c s₁ B hml hv
  obtain ⟨rfl, hP, hK⟩ := hv
  have hx := B.exec
  have hb := B.bytes
  have hr := B.returns
  have hts := atoms_spec (ws := wsX1_rank) B.pre
  have hown : s.vm.findClass RX1 = some m.cls := findClass_of_methodNamed B.named
  have hl := lv_entry ([.ref h0, .int a, .int b, .int d]) (n := 4) (Nat.le_of_ble_eq_true rfl)
  rw [lg_entry_eq]
  generalize (lg_sl ([.ref h0, .int a, .int b, .int d]) ++ List.replicate (4 - (lg_sl ([.ref h0, .int a, .int b, .int d])).length) Slot.unset).toArray = ls at hl ⊢
  have hl : lv_has ls 4 [(0, .ref h0), (1, .int a), (2, .int b), (3, .int d)] := hl
  have hP : va_P (dC, dI) vwCl (zy_w h0 ha cA f o ks.length cur) s.heap := hP
  refine lv_iconst (v := 3) hx hb dX1_rank_0 (by decide) ?_
  refine lv_iload_n hx hb dX1_rank_1 rfl (lv_at hl 1 rfl) ?_
  refine lv_iload_n hx hb dX1_rank_2 rfl (lv_at hl 2 rfl) ?_
  refine lv_iload_n hx hb dX1_rank_3 rfl (lv_at hl 3 rfl) ?_
  refine zw_ci (va_runS (As := [.int 3, .int a, .int b, .int d]) (rest := []) ⟨hx, hb, hml, hown, hts⟩ (zd_areNumbers l 3 a b d) (va_cwS 4 hts gX1_rank_X1_areNumbers rfl rfl rfl (by decide +kernel) ⟨Nat.le_of_ble_eq_true rfl, Nat.le_of_ble_eq_true rfl⟩) (preEq) rfl rfl hl.1 rfl (lv_room (Nat.le_of_ble_eq_true rfl)) dX1_rank_4 ⟨Nat.zero_le _, Nat.zero_le _⟩) ?_
  refine zw_eqi (y := zb_I (zf_nn a b d)) (by rw [zf_fn3]) ?_
  refine zw_ifeq (tgt := 26) hx hb dX1_rank_7 (by decide) (fun c_7 => ?_) (fun c_7 => ?_)
  · refine lv_iconst (v := (-1)) hx hb dX1_rank_26 (by decide) ?_
    refine zw_eqi (y := if zf_nn a b d then nI (zk_c ks k) else -1) (by simp [c_7]) ?_
    exact W.iret hx hb hr (fun t ht hW => ⟨rfl, ht⟩) (fun q h => by cases h) dX1_rank_27
  · refine lv_aload_n hx hb dX1_rank_10 rfl (lv_at hl 0 rfl) ?_
    refine lv_iload_n hx hb dX1_rank_11 rfl (lv_at hl 1 rfl) ?_
    refine lv_i2l (v := Int32.toInt64 a) hx hb dX1_rank_12 rfl ?_
    refine lv_iload_n hx hb dX1_rank_13 rfl (lv_at hl 2 rfl) ?_
    refine lv_i2l (v := Int32.toInt64 b) hx hb dX1_rank_14 rfl ?_
    refine lv_iload_n hx hb dX1_rank_15 rfl (lv_at hl 3 rfl) ?_
    refine lv_i2l (v := Int32.toInt64 d) hx hb dX1_rank_16 rfl ?_
    refine zw_cl (va_runS (As := [.long (Int32.toInt64 a), .long (Int32.toInt64 b), .long (Int32.toInt64 d)]) (rest := [.ref h0]) ⟨hx, hb, hml, hown, hts⟩ (zd_packed l (Int32.toInt64 a) (Int32.toInt64 b) (Int32.toInt64 d)) (va_cwS 3 hts gX1_rank_X1_packed rfl rfl rfl (by decide +kernel) ⟨Nat.le_of_ble_eq_true rfl, Nat.le_of_ble_eq_true rfl⟩) (preEq) rfl rfl hl.1 rfl (lv_room (Nat.le_of_ble_eq_true rfl)) dX1_rank_17 ⟨Nat.zero_le _, Nat.zero_le _⟩) ?_
    refine zw_eql (y := lN k) ((hk c_7).1) ?_
    refine zw_ci (va_runV (As := [.long (lN k)]) (rest := []) ⟨hx, hb, hml, hown, hts⟩ (zd_below l dC dI h0 ha cA f o ks cur k (Nat.le_of_lt (hk c_7).2) hG) (cwV 1 hts gX1_rank_X1_below rfl rfl rfl (by decide +kernel) ⟨Nat.le_of_ble_eq_true rfl, Nat.le_of_ble_eq_true rfl⟩) (zw_preV (ci := 1) (q0 := 0) hP hK rfl rfl) rfl rfl hl.1 rfl (lv_room (Nat.le_of_ble_eq_true rfl)) dX1_rank_20 ⟨Nat.zero_le _, Nat.zero_le _⟩) ?_
    refine lv_goto (tgt := 27) hx hb dX1_rank_23 (by decide) ?_
    refine zw_eqi (y := if zf_nn a b d then nI (zk_c ks k) else -1) (by simp [c_7]) ?_
    exact W.iret hx hb hr (fun t ht hW => ⟨rfl, ht⟩) (fun q h => by cases h) dX1_rank_27
set_option maxHeartbeats 4000000 in
set_option maxRecDepth 100000 in
/-- stands() -/
theorem zd_stands (l : Launch) (dC : Nat → ClassId) (dI : Nat → Nat → Nat) (h0 ha : Nat) (cA : ClassId) (f : Nat → Int64) (o : Nat) (ks : List Nat) (cur : Int64) (k : Nat) (hk : ¬ cur = -1 → cur = lN k ∧ k < 1152921504606846976) (hG : zk_R ks f) : Met l yX1_stands wsX1_stands ({ frames := 1, cells := 0, slots := 0, locals := 23 }) (zw_P [.ref h0] (dC, dI) vwCl (zy_w h0 ha cA f o ks.length cur) [(cA, .long)]) (zw_Q (some (.int (if cur = -1 then 0 else zb_I (decide (k ∈ ks)))))) 0 0 (fun _ => False) := by
  refine Met.ofW (cc := cX1_stands) (maxL := 1) (ret := (some .int)) (by decide) rfl ?_
  intro p e s m args below meth c s₁ B hml hv
  obtain ⟨rfl, hP, hK⟩ := hv
  have hx := B.exec
  have hb := B.bytes
  have hr := B.returns
  have hts := atoms_spec (ws := wsX1_stands) B.pre
  have hown : s.vm.findClass RX1 = some m.cls := findClass_of_methodNamed B.named
  have hl := lv_entry ([.ref h0]) (n := 1) (Nat.le_of_ble_eq_true rfl)
  rw [lg_entry_eq]
  generalize (lg_sl ([.ref h0]) ++ List.replicate (1 - (lg_sl ([.ref h0])).length) Slot.unset).toArray = ls at hl ⊢
  have hl : lv_has ls 1 [(0, .ref h0)] := hl
  have hP : va_P (dC, dI) vwCl (zy_w h0 ha cA f o ks.length cur) s.heap := hP
  refine lv_aload_n hx hb dX1_stands_0 rfl (lv_at hl 0 rfl) ?_
  refine va_get (D := (dC, dI)) (ci := 1) (v := .long cur) (C := RX1) (T := TX1) (N := 4) hx hb hts (by decide +kernel) hown hK hP 0 rfl rfl 3 (by decide) (hts (.fieldLink RX1 15 "PageIndexModel" "cursor" "J") (by decide +kernel)) (fun _ h9 => h9) rfl dX1_stands_1 ?_
  refine lv_ldc2 (v := (-1)) hx hb hown (hts (.constantLong RX1 13 (-1)) (by decide +kernel)) dX1_stands_4 ?_
  refine W.lcmp hx hb dX1_stands_7 ?_
  refine lv_if_eq (tgt := 34) hx hb dX1_stands_8 (by decide) (fun c_8 => ?_) (fun c_8 => ?_)
  · have h8 := (lg_cmp_eq _ _).mp c_8
    refine lv_iconst (v := 0) hx hb dX1_stands_34 (by decide) ?_
    refine zw_eqi (y := if cur = -1 then 0 else zb_I (decide (k ∈ ks))) (by simp [zb_I, h8]) ?_
    exact W.iret hx hb hr (fun t ht hW => ⟨rfl, ht⟩) (fun q h => by cases h) dX1_stands_35
  · have h8 : ¬ cur = -1 := fun z => c_8 ((lg_cmp_eq _ _).mpr z)
    refine lv_aload_n hx hb dX1_stands_11 rfl (lv_at hl 0 rfl) ?_
    refine lv_aload_n hx hb dX1_stands_12 rfl (lv_at hl 0 rfl) ?_
    refine lv_aload_n hx hb dX1_stands_13 rfl (lv_at hl 0 rfl) ?_
    refine va_get (D := (dC, dI)) (ci := 1) (v := .long cur) (C := RX1) (T := TX1) (N := 4) hx hb hts (by decide +kernel) hown hK hP 0 rfl rfl 3 (by decide) (hts (.fieldLink RX1 15 "PageIndexModel" "cursor" "J") (by decide +kernel)) (fun _ h9 => h9) rfl dX1_stands_14 ?_
    refine zw_eql (y := lN k) ((hk h8).1) ?_
    refine zw_ci (va_runV (As := [.long (lN k)]) (rest := [.ref h0]) ⟨hx, hb, hml, hown, hts⟩ (zd_below l dC dI h0 ha cA f o ks cur k (Nat.le_of_lt (hk h8).2) hG) (cwV 1 hts gX1_stands_X1_below rfl rfl rfl (by decide +kernel) ⟨Nat.le_of_ble_eq_true rfl, Nat.le_of_ble_eq_true rfl⟩) (zw_preV (ci := 1) (q0 := 0) hP hK rfl rfl) rfl rfl hl.1 rfl (lv_room (Nat.le_of_ble_eq_true rfl)) dX1_stands_17 ⟨Nat.zero_le _, Nat.zero_le _⟩) ?_
    refine lv_aload_n hx hb dX1_stands_20 rfl (lv_at hl 0 rfl) ?_
    refine va_get (D := (dC, dI)) (ci := 1) (v := .long cur) (C := RX1) (T := TX1) (N := 4) hx hb hts (by decide +kernel) hown hK hP 0 rfl rfl 3 (by decide) (hts (.fieldLink RX1 15 "PageIndexModel" "cursor" "J") (by decide +kernel)) (fun _ h9 => h9) rfl dX1_stands_21 ?_
    refine zw_eql (y := lN k) ((hk h8).1) ?_
    refine zw_ci (va_runV (As := [.int (nI (zk_c ks k)), .long (lN k)]) (rest := []) ⟨hx, hb, hml, hown, hts⟩ (zd_isThere l dC dI h0 ha cA f o ks cur (zk_c ks k) k (zk_c_le ks k) (Nat.le_of_lt (hk h8).2) hG) (cwV 2 hts gX1_stands_X1_isThere rfl rfl rfl (by decide +kernel) ⟨Nat.le_of_ble_eq_true rfl, Nat.le_of_ble_eq_true rfl⟩) (zw_preV (ci := 1) (q0 := 0) hP hK rfl rfl) rfl rfl hl.1 rfl (lv_room (Nat.le_of_ble_eq_true rfl)) dX1_stands_24 ⟨Nat.zero_le _, Nat.zero_le _⟩) ?_
    refine zw_eqi (y := zb_I (decide (k ∈ ks))) (by rw [zk_mem_b hG.1]) ?_
    refine zw_ifeq (tgt := 34) hx hb dX1_stands_27 (by decide) (fun c_27 => ?_) (fun c_27 => ?_)
    · refine lv_iconst (v := 0) hx hb dX1_stands_34 (by decide) ?_
      refine zw_eqi (y := if cur = -1 then 0 else zb_I (decide (k ∈ ks))) (by simp [zb_I, h8, c_27]) ?_
      exact W.iret hx hb hr (fun t ht hW => ⟨rfl, ht⟩) (fun q h => by cases h) dX1_stands_35
    · refine lv_iconst (v := 1) hx hb dX1_stands_30 (by decide) ?_
      refine lv_goto (tgt := 35) hx hb dX1_stands_31 (by decide) ?_
      refine zw_eqi (y := if cur = -1 then 0 else zb_I (decide (k ∈ ks))) (by simp [zb_I, h8, c_27]) ?_
      exact W.iret hx hb hr (fun t ht hW => ⟨rfl, ht⟩) (fun q h => by cases h) dX1_stands_35
set_option maxHeartbeats 4000000 in
set_option maxRecDepth 100000 in
/-- number(j) -/
theorem zd_number (l : Launch) (dC : Nat → ClassId) (dI : Nat → Nat → Nat) (h0 ha : Nat) (cA : ClassId) (f : Nat → Int64) (o : Nat) (ks : List Nat) (cur : Int64) (z j : Nat) (hz : z < 1152921504606846976) (ec : cur = lN z) (hj : j < 3) : Met l yX1_number wsX1_number ({ frames := 0, cells := 0, slots := 0, locals := 0 }) (zw_P [.ref h0, .int (nI j)] (dC, dI) vwCl (zy_w h0 ha cA f o ks.length cur) [(cA, .long)]) (zw_Q (some (.int (zf_cn cur (nI j))))) 0 0 (fun _ => False) := by
  refine Met.ofW (cc := cX1_number) (maxL := 2) (ret := (some .int)) (by decide) rfl ?_
  intro p e s m args below meth c s₁ B hml hv
  obtain ⟨rfl, hP, hK⟩ := hv
  have hx := B.exec
  have hb := B.bytes
  have hr := B.returns
  have hts := atoms_spec (ws := wsX1_number) B.pre
  have hown : s.vm.findClass RX1 = some m.cls := findClass_of_methodNamed B.named
  have hl := lv_entry ([.ref h0, .int (nI j)]) (n := 2) (Nat.le_of_ble_eq_true rfl)
  rw [lg_entry_eq]
  generalize (lg_sl ([.ref h0, .int (nI j)]) ++ List.replicate (2 - (lg_sl ([.ref h0, .int (nI j)])).length) Slot.unset).toArray = ls at hl ⊢
  have hl : lv_has ls 2 [(0, .ref h0), (1, .int (nI j))] := hl
  have hP : va_P (dC, dI) vwCl (zy_w h0 ha cA f o ks.length cur) s.heap := hP
  match j, hj with
  | 0, _ =>
    refine lv_iload_n hx hb dX1_number_0 rfl (lv_at hl 1 rfl) ?_
    refine lv_if_ne (tgt := 19) hx hb dX1_number_1 (by decide) (fun c_1 => absurd (rfl) c_1) (fun c_1 => ?_)
    refine lv_aload_n hx hb dX1_number_4 rfl (lv_at hl 0 rfl) ?_
    refine va_get (D := (dC, dI)) (ci := 1) (v := .long cur) (C := RX1) (T := TX1) (N := 4) hx hb hts (by decide +kernel) hown hK hP 0 rfl rfl 3 (by decide) (hts (.fieldLink RX1 15 "PageIndexModel" "cursor" "J") (by decide +kernel)) (fun _ h9 => h9) rfl dX1_number_5 ?_
    refine zw_eql (y := lN z) (ec) ?_
    refine lv_ldc2 (v := 1048576) hx hb hown (hts (.constantLong RX1 34 1048576) (by decide +kernel)) dX1_number_8 ?_
    refine lv_ldiv hx hb dX1_number_11 (by decide) ?_
    refine zw_eql (y := lN (z / 1048576)) (pk_lDiv (b := 1048576) (by omega) (by decide) (by decide)) ?_
    refine lv_ldc2 (v := 1048576) hx hb hown (hts (.constantLong RX1 34 1048576) (by decide +kernel)) dX1_number_12 ?_
    refine lv_ldiv hx hb dX1_number_15 (by decide) ?_
    refine zw_eql (y := lN (z / 1048576 / 1048576)) (pk_lDiv (b := 1048576) (by omega) (by decide) (by decide)) ?_
    refine lv_goto (tgt := 47) hx hb dX1_number_16 (by decide) ?_
    refine lv_l2i (v := Int64.toInt32 (lN (z / 1048576 / 1048576))) hx hb dX1_number_47 rfl ?_
    refine zw_eqi (y := zf_cn cur (nI 0)) (by rw [lN_i, ec, zf_cn_nI hz (by decide)]; exact zk_at_0) ?_
    exact W.iret hx hb hr (fun t ht hW => ⟨rfl, ht⟩) (fun q h => by cases h) dX1_number_48
  | 1, _ =>
    refine lv_iload_n hx hb dX1_number_0 rfl (lv_at hl 1 rfl) ?_
    refine lv_if_ne (tgt := 19) hx hb dX1_number_1 (by decide) (fun c_1 => ?_) (fun c_1 => absurd c_1 (by decide))
    refine lv_iload_n hx hb dX1_number_19 rfl (lv_at hl 1 rfl) ?_
    refine lv_iconst (v := 1) hx hb dX1_number_20 (by decide) ?_
    refine lv_icmp_ne (tgt := 39) hx hb dX1_number_21 (by decide) (fun c_21 => absurd (rfl) c_21) (fun c_21 => ?_)
    refine lv_aload_n hx hb dX1_number_24 rfl (lv_at hl 0 rfl) ?_
    refine va_get (D := (dC, dI)) (ci := 1) (v := .long cur) (C := RX1) (T := TX1) (N := 4) hx hb hts (by decide +kernel) hown hK hP 0 rfl rfl 3 (by decide) (hts (.fieldLink RX1 15 "PageIndexModel" "cursor" "J") (by decide +kernel)) (fun _ h9 => h9) rfl dX1_number_25 ?_
    refine zw_eql (y := lN z) (ec) ?_
    refine lv_ldc2 (v := 1048576) hx hb hown (hts (.constantLong RX1 34 1048576) (by decide +kernel)) dX1_number_28 ?_
    refine lv_ldiv hx hb dX1_number_31 (by decide) ?_
    refine zw_eql (y := lN (z / 1048576)) (pk_lDiv (b := 1048576) (by omega) (by decide) (by decide)) ?_
    refine lv_ldc2 (v := 1048576) hx hb hown (hts (.constantLong RX1 34 1048576) (by decide +kernel)) dX1_number_32 ?_
    refine lv_lrem hx hb dX1_number_35 (by decide) ?_
    refine zw_eql (y := lN (z / 1048576 % 1048576)) (pk_lRem (b := 1048576) (by omega) (by decide) (by decide)) ?_
    refine lv_goto (tgt := 47) hx hb dX1_number_36 (by decide) ?_
    refine lv_l2i (v := Int64.toInt32 (lN (z / 1048576 % 1048576))) hx hb dX1_number_47 rfl ?_
    refine zw_eqi (y := zf_cn cur (nI 1)) (by rw [lN_i, ec, zf_cn_nI hz (by decide)]; exact zk_at_1) ?_
    exact W.iret hx hb hr (fun t ht hW => ⟨rfl, ht⟩) (fun q h => by cases h) dX1_number_48
  | 2, _ =>
    refine lv_iload_n hx hb dX1_number_0 rfl (lv_at hl 1 rfl) ?_
    refine lv_if_ne (tgt := 19) hx hb dX1_number_1 (by decide) (fun c_1 => ?_) (fun c_1 => absurd c_1 (by decide))
    refine lv_iload_n hx hb dX1_number_19 rfl (lv_at hl 1 rfl) ?_
    refine lv_iconst (v := 1) hx hb dX1_number_20 (by decide) ?_
    refine lv_icmp_ne (tgt := 39) hx hb dX1_number_21 (by decide) (fun c_21 => ?_) (fun c_21 => absurd c_21 (by decide))
    refine lv_aload_n hx hb dX1_number_39 rfl (lv_at hl 0 rfl) ?_
    refine va_get (D := (dC, dI)) (ci := 1) (v := .long cur) (C := RX1) (T := TX1) (N := 4) hx hb hts (by decide +kernel) hown hK hP 0 rfl rfl 3 (by decide) (hts (.fieldLink RX1 15 "PageIndexModel" "cursor" "J") (by decide +kernel)) (fun _ h9 => h9) rfl dX1_number_40 ?_
    refine zw_eql (y := lN z) (ec) ?_
    refine lv_ldc2 (v := 1048576) hx hb hown (hts (.constantLong RX1 34 1048576) (by decide +kernel)) dX1_number_43 ?_
    refine lv_lrem hx hb dX1_number_46 (by decide) ?_
    refine zw_eql (y := lN (z % 1048576)) (pk_lRem (b := 1048576) (by omega) (by decide) (by decide)) ?_
    refine lv_l2i (v := Int64.toInt32 (lN (z % 1048576))) hx hb dX1_number_47 rfl ?_
    refine zw_eqi (y := zf_cn cur (nI 2)) (by rw [lN_i, ec, zf_cn_nI hz (by decide)]; exact zk_at_2) ?_
    exact W.iret hx hb hr (fun t ht hW => ⟨rfl, ht⟩) (fun q h => by cases h) dX1_number_48
set_option maxHeartbeats 4000000 in
set_option maxRecDepth 100000 in
/-- told(v) -/
theorem zd_told (l : Launch) (dC : Nat → ClassId) (dI : Nat → Nat → Nat) (h0 ha : Nat) (cA : ClassId) (f : Nat → Int64) (o : Nat) (ks : List Nat) (cur : Int64) (v : Int32) (ho : o < 6) (hc : ¬ cur = -1 → ∃ z, z < 1152921504606846976 ∧ cur = lN z) : Met l yX1_told wsX1_told ({ frames := 1, cells := 0, slots := 0, locals := 21 }) (zw_P [.ref h0, .int v] (dC, dI) vwCl (zy_w h0 ha cA f o ks.length cur) [(cA, .long)]) (zw_Q (some (.int (zf_told (nI (zk_px o)) (nI (zk_py o)) (nI (zk_pz o)) cur v)))) 0 0 (fun _ => False) := by
  refine Met.ofW (cc := cX1_told) (maxL := 2) (ret := (some .int)) (by decide) rfl ?_
  intro p e s m args below meth c s₁ B hml hv
  obtain ⟨rfl, hP, hK⟩ := hv
  have hx := B.exec
  have hb := B.bytes
  have hr := B.returns
  have hts := atoms_spec (ws := wsX1_told) B.pre
  have hown : s.vm.findClass RX1 = some m.cls := findClass_of_methodNamed B.named
  have hl := lv_entry ([.ref h0, .int v]) (n := 2) (Nat.le_of_ble_eq_true rfl)
  rw [lg_entry_eq]
  generalize (lg_sl ([.ref h0, .int v]) ++ List.replicate (2 - (lg_sl ([.ref h0, .int v])).length) Slot.unset).toArray = ls at hl ⊢
  have hl : lv_has ls 2 [(0, .ref h0), (1, .int v)] := hl
  have hP : va_P (dC, dI) vwCl (zy_w h0 ha cA f o ks.length cur) s.heap := hP
  by_cases h8 : cur = -1
  · skip
    refine lv_aload_n hx hb dX1_told_0 rfl (lv_at hl 0 rfl) ?_
    refine va_get (D := (dC, dI)) (ci := 1) (v := .long cur) (C := RX1) (T := TX1) (N := 4) hx hb hts (by decide +kernel) hown hK hP 0 rfl rfl 3 (by decide) (hts (.fieldLink RX1 15 "PageIndexModel" "cursor" "J") (by decide +kernel)) (fun _ h9 => h9) rfl dX1_told_1 ?_
    refine lv_ldc2 (v := (-1)) hx hb hown (hts (.constantLong RX1 13 (-1)) (by decide +kernel)) dX1_told_4 ?_
    refine W.lcmp hx hb dX1_told_7 ?_
    refine lv_if_eq (tgt := 20) hx hb dX1_told_8 (by decide) (fun c_8 => ?_) (fun c_8 => absurd ((lg_cmp_eq _ _).mpr h8) c_8)
    refine lv_iconst (v := (-1)) hx hb dX1_told_20 (by decide) ?_
    refine zw_eqi (y := zf_told (nI (zk_px o)) (nI (zk_py o)) (nI (zk_pz o)) cur v) (by rw [zf_told, if_pos h8]) ?_
    exact W.iret hx hb hr (fun t ht hW => ⟨rfl, ht⟩) (fun q h => by cases h) dX1_told_21
  · obtain ⟨z, hz, ec⟩ := hc h8
    by_cases h12 : v < 0
    · skip
      refine lv_aload_n hx hb dX1_told_0 rfl (lv_at hl 0 rfl) ?_
      refine va_get (D := (dC, dI)) (ci := 1) (v := .long cur) (C := RX1) (T := TX1) (N := 4) hx hb hts (by decide +kernel) hown hK hP 0 rfl rfl 3 (by decide) (hts (.fieldLink RX1 15 "PageIndexModel" "cursor" "J") (by decide +kernel)) (fun _ h9 => h9) rfl dX1_told_1 ?_
      refine lv_ldc2 (v := (-1)) hx hb hown (hts (.constantLong RX1 13 (-1)) (by decide +kernel)) dX1_told_4 ?_
      refine W.lcmp hx hb dX1_told_7 ?_
      refine lv_if_eq (tgt := 20) hx hb dX1_told_8 (by decide) (fun c_8 => absurd c_8 (fun q => h8 ((lg_cmp_eq _ _).mp q))) (fun c_8 => ?_)
      refine lv_iload_n hx hb dX1_told_11 rfl (lv_at hl 1 rfl) ?_
      refine lv_if_lt (tgt := 20) hx hb dX1_told_12 (by decide) (fun c_12 => ?_) (fun c_12 => absurd (h12) c_12)
      refine lv_iconst (v := (-1)) hx hb dX1_told_20 (by decide) ?_
      refine zw_eqi (y := zf_told (nI (zk_px o)) (nI (zk_py o)) (nI (zk_pz o)) cur v) (zf_told_out h8 (Or.inl h12)) ?_
      exact W.iret hx hb hr (fun t ht hW => ⟨rfl, ht⟩) (fun q h => by cases h) dX1_told_21
    by_cases h17 : v ≤ 5
    rotate_left
    · skip
      refine lv_aload_n hx hb dX1_told_0 rfl (lv_at hl 0 rfl) ?_
      refine va_get (D := (dC, dI)) (ci := 1) (v := .long cur) (C := RX1) (T := TX1) (N := 4) hx hb hts (by decide +kernel) hown hK hP 0 rfl rfl 3 (by decide) (hts (.fieldLink RX1 15 "PageIndexModel" "cursor" "J") (by decide +kernel)) (fun _ h9 => h9) rfl dX1_told_1 ?_
      refine lv_ldc2 (v := (-1)) hx hb hown (hts (.constantLong RX1 13 (-1)) (by decide +kernel)) dX1_told_4 ?_
      refine W.lcmp hx hb dX1_told_7 ?_
      refine lv_if_eq (tgt := 20) hx hb dX1_told_8 (by decide) (fun c_8 => absurd c_8 (fun q => h8 ((lg_cmp_eq _ _).mp q))) (fun c_8 => ?_)
      refine lv_iload_n hx hb dX1_told_11 rfl (lv_at hl 1 rfl) ?_
      refine lv_if_lt (tgt := 20) hx hb dX1_told_12 (by decide) (fun c_12 => absurd c_12 (h12)) (fun c_12 => ?_)
      refine lv_iload_n hx hb dX1_told_15 rfl (lv_at hl 1 rfl) ?_
      refine lv_iconst (v := 5) hx hb dX1_told_16 (by decide) ?_
      refine lv_icmp_le (tgt := 22) hx hb dX1_told_17 (by decide) (fun c_17 => absurd c_17 (h17)) (fun c_17 => ?_)
      refine lv_iconst (v := (-1)) hx hb dX1_told_20 (by decide) ?_
      refine zw_eqi (y := zf_told (nI (zk_px o)) (nI (zk_py o)) (nI (zk_pz o)) cur v) (zf_told_out h8 (Or.inr h17)) ?_
      exact W.iret hx hb hr (fun t ht hW => ⟨rfl, ht⟩) (fun q h => by cases h) dX1_told_21
    obtain ⟨j, hj, ej⟩ := nI_of2 (x := v) (M := 5) (n := 5) (by decide) h12 h17
    match j, hj, ej with
    | 0, _, ej =>
      refine lv_aload_n hx hb dX1_told_0 rfl (lv_at hl 0 rfl) ?_
      refine va_get (D := (dC, dI)) (ci := 1) (v := .long cur) (C := RX1) (T := TX1) (N := 4) hx hb hts (by decide +kernel) hown hK hP 0 rfl rfl 3 (by decide) (hts (.fieldLink RX1 15 "PageIndexModel" "cursor" "J") (by decide +kernel)) (fun _ h9 => h9) rfl dX1_told_1 ?_
      refine lv_ldc2 (v := (-1)) hx hb hown (hts (.constantLong RX1 13 (-1)) (by decide +kernel)) dX1_told_4 ?_
      refine W.lcmp hx hb dX1_told_7 ?_
      refine lv_if_eq (tgt := 20) hx hb dX1_told_8 (by decide) (fun c_8 => absurd c_8 (fun q => h8 ((lg_cmp_eq _ _).mp q))) (fun c_8 => ?_)
      refine lv_iload_n hx hb dX1_told_11 rfl (lv_at hl 1 rfl) ?_
      refine lv_if_lt (tgt := 20) hx hb dX1_told_12 (by decide) (fun c_12 => absurd c_12 (h12)) (fun c_12 => ?_)
      refine lv_iload_n hx hb dX1_told_15 rfl (lv_at hl 1 rfl) ?_
      refine lv_iconst (v := 5) hx hb dX1_told_16 (by decide) ?_
      refine lv_icmp_le (tgt := 22) hx hb dX1_told_17 (by decide) (fun c_17 => ?_) (fun c_17 => absurd (h17) c_17)
      refine lv_iload_n hx hb dX1_told_22 rfl (lv_at hl 1 rfl) ?_
      refine lv_iconst (v := 3) hx hb dX1_told_23 (by decide) ?_
      refine lv_icmp_ge (tgt := 35) hx hb dX1_told_24 (by decide) (fun c_24 => absurd c_24 (by rw [ej]; decide)) (fun c_24 => ?_)
      refine lv_aload_n hx hb dX1_told_27 rfl (lv_at hl 0 rfl) ?_
      refine lv_iload_n hx hb dX1_told_28 rfl (lv_at hl 1 rfl) ?_
      refine zw_eqi (y := nI 0) (ej) ?_
      refine zw_ci (va_runV (As := [.int (nI 0)]) (rest := []) ⟨hx, hb, hml, hown, hts⟩ (zd_number l dC dI h0 ha cA f o ks cur z 0 hz ec (by decide)) (cwV 1 hts gX1_told_X1_number rfl rfl rfl (by decide +kernel) ⟨Nat.le_of_ble_eq_true rfl, Nat.le_of_ble_eq_true rfl⟩) (zw_preV (ci := 1) (q0 := 0) hP hK rfl rfl) rfl rfl hl.1 rfl (lv_room (Nat.le_of_ble_eq_true rfl)) dX1_told_29 ⟨Nat.zero_le _, Nat.zero_le _⟩) ?_
      refine lv_goto (tgt := 46) hx hb dX1_told_32 (by decide) ?_
      refine zw_eqi (y := zf_told (nI (zk_px o)) (nI (zk_py o)) (nI (zk_pz o)) cur v) (zf_told_0 h8 ej) ?_
      exact W.iret hx hb hr (fun t ht hW => ⟨rfl, ht⟩) (fun q h => by cases h) dX1_told_46
    | 1, _, ej =>
      refine lv_aload_n hx hb dX1_told_0 rfl (lv_at hl 0 rfl) ?_
      refine va_get (D := (dC, dI)) (ci := 1) (v := .long cur) (C := RX1) (T := TX1) (N := 4) hx hb hts (by decide +kernel) hown hK hP 0 rfl rfl 3 (by decide) (hts (.fieldLink RX1 15 "PageIndexModel" "cursor" "J") (by decide +kernel)) (fun _ h9 => h9) rfl dX1_told_1 ?_
      refine lv_ldc2 (v := (-1)) hx hb hown (hts (.constantLong RX1 13 (-1)) (by decide +kernel)) dX1_told_4 ?_
      refine W.lcmp hx hb dX1_told_7 ?_
      refine lv_if_eq (tgt := 20) hx hb dX1_told_8 (by decide) (fun c_8 => absurd c_8 (fun q => h8 ((lg_cmp_eq _ _).mp q))) (fun c_8 => ?_)
      refine lv_iload_n hx hb dX1_told_11 rfl (lv_at hl 1 rfl) ?_
      refine lv_if_lt (tgt := 20) hx hb dX1_told_12 (by decide) (fun c_12 => absurd c_12 (h12)) (fun c_12 => ?_)
      refine lv_iload_n hx hb dX1_told_15 rfl (lv_at hl 1 rfl) ?_
      refine lv_iconst (v := 5) hx hb dX1_told_16 (by decide) ?_
      refine lv_icmp_le (tgt := 22) hx hb dX1_told_17 (by decide) (fun c_17 => ?_) (fun c_17 => absurd (h17) c_17)
      refine lv_iload_n hx hb dX1_told_22 rfl (lv_at hl 1 rfl) ?_
      refine lv_iconst (v := 3) hx hb dX1_told_23 (by decide) ?_
      refine lv_icmp_ge (tgt := 35) hx hb dX1_told_24 (by decide) (fun c_24 => absurd c_24 (by rw [ej]; decide)) (fun c_24 => ?_)
      refine lv_aload_n hx hb dX1_told_27 rfl (lv_at hl 0 rfl) ?_
      refine lv_iload_n hx hb dX1_told_28 rfl (lv_at hl 1 rfl) ?_
      refine zw_eqi (y := nI 1) (ej) ?_
      refine zw_ci (va_runV (As := [.int (nI 1)]) (rest := []) ⟨hx, hb, hml, hown, hts⟩ (zd_number l dC dI h0 ha cA f o ks cur z 1 hz ec (by decide)) (cwV 1 hts gX1_told_X1_number rfl rfl rfl (by decide +kernel) ⟨Nat.le_of_ble_eq_true rfl, Nat.le_of_ble_eq_true rfl⟩) (zw_preV (ci := 1) (q0 := 0) hP hK rfl rfl) rfl rfl hl.1 rfl (lv_room (Nat.le_of_ble_eq_true rfl)) dX1_told_29 ⟨Nat.zero_le _, Nat.zero_le _⟩) ?_
      refine lv_goto (tgt := 46) hx hb dX1_told_32 (by decide) ?_
      refine zw_eqi (y := zf_told (nI (zk_px o)) (nI (zk_py o)) (nI (zk_pz o)) cur v) (zf_told_1 h8 ej) ?_
      exact W.iret hx hb hr (fun t ht hW => ⟨rfl, ht⟩) (fun q h => by cases h) dX1_told_46
    | 2, _, ej =>
      refine lv_aload_n hx hb dX1_told_0 rfl (lv_at hl 0 rfl) ?_
      refine va_get (D := (dC, dI)) (ci := 1) (v := .long cur) (C := RX1) (T := TX1) (N := 4) hx hb hts (by decide +kernel) hown hK hP 0 rfl rfl 3 (by decide) (hts (.fieldLink RX1 15 "PageIndexModel" "cursor" "J") (by decide +kernel)) (fun _ h9 => h9) rfl dX1_told_1 ?_
      refine lv_ldc2 (v := (-1)) hx hb hown (hts (.constantLong RX1 13 (-1)) (by decide +kernel)) dX1_told_4 ?_
      refine W.lcmp hx hb dX1_told_7 ?_
      refine lv_if_eq (tgt := 20) hx hb dX1_told_8 (by decide) (fun c_8 => absurd c_8 (fun q => h8 ((lg_cmp_eq _ _).mp q))) (fun c_8 => ?_)
      refine lv_iload_n hx hb dX1_told_11 rfl (lv_at hl 1 rfl) ?_
      refine lv_if_lt (tgt := 20) hx hb dX1_told_12 (by decide) (fun c_12 => absurd c_12 (h12)) (fun c_12 => ?_)
      refine lv_iload_n hx hb dX1_told_15 rfl (lv_at hl 1 rfl) ?_
      refine lv_iconst (v := 5) hx hb dX1_told_16 (by decide) ?_
      refine lv_icmp_le (tgt := 22) hx hb dX1_told_17 (by decide) (fun c_17 => ?_) (fun c_17 => absurd (h17) c_17)
      refine lv_iload_n hx hb dX1_told_22 rfl (lv_at hl 1 rfl) ?_
      refine lv_iconst (v := 3) hx hb dX1_told_23 (by decide) ?_
      refine lv_icmp_ge (tgt := 35) hx hb dX1_told_24 (by decide) (fun c_24 => absurd c_24 (by rw [ej]; decide)) (fun c_24 => ?_)
      refine lv_aload_n hx hb dX1_told_27 rfl (lv_at hl 0 rfl) ?_
      refine lv_iload_n hx hb dX1_told_28 rfl (lv_at hl 1 rfl) ?_
      refine zw_eqi (y := nI 2) (ej) ?_
      refine zw_ci (va_runV (As := [.int (nI 2)]) (rest := []) ⟨hx, hb, hml, hown, hts⟩ (zd_number l dC dI h0 ha cA f o ks cur z 2 hz ec (by decide)) (cwV 1 hts gX1_told_X1_number rfl rfl rfl (by decide +kernel) ⟨Nat.le_of_ble_eq_true rfl, Nat.le_of_ble_eq_true rfl⟩) (zw_preV (ci := 1) (q0 := 0) hP hK rfl rfl) rfl rfl hl.1 rfl (lv_room (Nat.le_of_ble_eq_true rfl)) dX1_told_29 ⟨Nat.zero_le _, Nat.zero_le _⟩) ?_
      refine lv_goto (tgt := 46) hx hb dX1_told_32 (by decide) ?_
      refine zw_eqi (y := zf_told (nI (zk_px o)) (nI (zk_py o)) (nI (zk_pz o)) cur v) (zf_told_2 h8 ej) ?_
      exact W.iret hx hb hr (fun t ht hW => ⟨rfl, ht⟩) (fun q h => by cases h) dX1_told_46
    | 3, _, ej =>
      refine lv_aload_n hx hb dX1_told_0 rfl (lv_at hl 0 rfl) ?_
      refine va_get (D := (dC, dI)) (ci := 1) (v := .long cur) (C := RX1) (T := TX1) (N := 4) hx hb hts (by decide +kernel) hown hK hP 0 rfl rfl 3 (by decide) (hts (.fieldLink RX1 15 "PageIndexModel" "cursor" "J") (by decide +kernel)) (fun _ h9 => h9) rfl dX1_told_1 ?_
      refine lv_ldc2 (v := (-1)) hx hb hown (hts (.constantLong RX1 13 (-1)) (by decide +kernel)) dX1_told_4 ?_
      refine W.lcmp hx hb dX1_told_7 ?_
      refine lv_if_eq (tgt := 20) hx hb dX1_told_8 (by decide) (fun c_8 => absurd c_8 (fun q => h8 ((lg_cmp_eq _ _).mp q))) (fun c_8 => ?_)
      refine lv_iload_n hx hb dX1_told_11 rfl (lv_at hl 1 rfl) ?_
      refine lv_if_lt (tgt := 20) hx hb dX1_told_12 (by decide) (fun c_12 => absurd c_12 (h12)) (fun c_12 => ?_)
      refine lv_iload_n hx hb dX1_told_15 rfl (lv_at hl 1 rfl) ?_
      refine lv_iconst (v := 5) hx hb dX1_told_16 (by decide) ?_
      refine lv_icmp_le (tgt := 22) hx hb dX1_told_17 (by decide) (fun c_17 => ?_) (fun c_17 => absurd (h17) c_17)
      refine lv_iload_n hx hb dX1_told_22 rfl (lv_at hl 1 rfl) ?_
      refine lv_iconst (v := 3) hx hb dX1_told_23 (by decide) ?_
      refine lv_icmp_ge (tgt := 35) hx hb dX1_told_24 (by decide) (fun c_24 => ?_) (fun c_24 => absurd (by rw [ej]; decide) c_24)
      refine lv_aload_n hx hb dX1_told_35 rfl (lv_at hl 0 rfl) ?_
      refine lv_aload_n hx hb dX1_told_36 rfl (lv_at hl 0 rfl) ?_
      refine lv_iload_n hx hb dX1_told_37 rfl (lv_at hl 1 rfl) ?_
      refine lv_iconst (v := 3) hx hb dX1_told_38 (by decide) ?_
      refine lv_isub hx hb dX1_told_39 ?_
      refine zw_eqi (y := nI 0) (by rw [ej]; decide) ?_
      refine zw_ci (va_runV (As := [.int (nI 0)]) (rest := [.ref h0]) ⟨hx, hb, hml, hown, hts⟩ (zd_placeOf l dC dI h0 ha cA f o ks cur (nI 0) ho) (cwV 1 hts gX1_told_X1_placeOf rfl rfl rfl (by decide +kernel) ⟨Nat.le_of_ble_eq_true rfl, Nat.le_of_ble_eq_true rfl⟩) (zw_preV (ci := 1) (q0 := 0) hP hK rfl rfl) rfl rfl hl.1 rfl (lv_room (Nat.le_of_ble_eq_true rfl)) dX1_told_40 ⟨Nat.zero_le _, Nat.zero_le _⟩) ?_
      refine zw_eqi (y := nI (zk_px o)) (zf_pl_0 ho) ?_
      refine zw_ci (va_runV (As := [.int (nI (zk_px o))]) (rest := []) ⟨hx, hb, hml, hown, hts⟩ (zd_number l dC dI h0 ha cA f o ks cur z ((zk_px o)) hz ec (zk_px_lt o)) (cwV 1 hts gX1_told_X1_number rfl rfl rfl (by decide +kernel) ⟨Nat.le_of_ble_eq_true rfl, Nat.le_of_ble_eq_true rfl⟩) (zw_preV (ci := 1) (q0 := 0) hP hK rfl rfl) rfl rfl hl.1 rfl (lv_room (Nat.le_of_ble_eq_true rfl)) dX1_told_43 ⟨Nat.zero_le _, Nat.zero_le _⟩) ?_
      refine zw_eqi (y := zf_told (nI (zk_px o)) (nI (zk_py o)) (nI (zk_pz o)) cur v) (zf_told_3 h8 ej) ?_
      exact W.iret hx hb hr (fun t ht hW => ⟨rfl, ht⟩) (fun q h => by cases h) dX1_told_46
    | 4, _, ej =>
      refine lv_aload_n hx hb dX1_told_0 rfl (lv_at hl 0 rfl) ?_
      refine va_get (D := (dC, dI)) (ci := 1) (v := .long cur) (C := RX1) (T := TX1) (N := 4) hx hb hts (by decide +kernel) hown hK hP 0 rfl rfl 3 (by decide) (hts (.fieldLink RX1 15 "PageIndexModel" "cursor" "J") (by decide +kernel)) (fun _ h9 => h9) rfl dX1_told_1 ?_
      refine lv_ldc2 (v := (-1)) hx hb hown (hts (.constantLong RX1 13 (-1)) (by decide +kernel)) dX1_told_4 ?_
      refine W.lcmp hx hb dX1_told_7 ?_
      refine lv_if_eq (tgt := 20) hx hb dX1_told_8 (by decide) (fun c_8 => absurd c_8 (fun q => h8 ((lg_cmp_eq _ _).mp q))) (fun c_8 => ?_)
      refine lv_iload_n hx hb dX1_told_11 rfl (lv_at hl 1 rfl) ?_
      refine lv_if_lt (tgt := 20) hx hb dX1_told_12 (by decide) (fun c_12 => absurd c_12 (h12)) (fun c_12 => ?_)
      refine lv_iload_n hx hb dX1_told_15 rfl (lv_at hl 1 rfl) ?_
      refine lv_iconst (v := 5) hx hb dX1_told_16 (by decide) ?_
      refine lv_icmp_le (tgt := 22) hx hb dX1_told_17 (by decide) (fun c_17 => ?_) (fun c_17 => absurd (h17) c_17)
      refine lv_iload_n hx hb dX1_told_22 rfl (lv_at hl 1 rfl) ?_
      refine lv_iconst (v := 3) hx hb dX1_told_23 (by decide) ?_
      refine lv_icmp_ge (tgt := 35) hx hb dX1_told_24 (by decide) (fun c_24 => ?_) (fun c_24 => absurd (by rw [ej]; decide) c_24)
      refine lv_aload_n hx hb dX1_told_35 rfl (lv_at hl 0 rfl) ?_
      refine lv_aload_n hx hb dX1_told_36 rfl (lv_at hl 0 rfl) ?_
      refine lv_iload_n hx hb dX1_told_37 rfl (lv_at hl 1 rfl) ?_
      refine lv_iconst (v := 3) hx hb dX1_told_38 (by decide) ?_
      refine lv_isub hx hb dX1_told_39 ?_
      refine zw_eqi (y := nI 1) (by rw [ej]; decide) ?_
      refine zw_ci (va_runV (As := [.int (nI 1)]) (rest := [.ref h0]) ⟨hx, hb, hml, hown, hts⟩ (zd_placeOf l dC dI h0 ha cA f o ks cur (nI 1) ho) (cwV 1 hts gX1_told_X1_placeOf rfl rfl rfl (by decide +kernel) ⟨Nat.le_of_ble_eq_true rfl, Nat.le_of_ble_eq_true rfl⟩) (zw_preV (ci := 1) (q0 := 0) hP hK rfl rfl) rfl rfl hl.1 rfl (lv_room (Nat.le_of_ble_eq_true rfl)) dX1_told_40 ⟨Nat.zero_le _, Nat.zero_le _⟩) ?_
      refine zw_eqi (y := nI (zk_py o)) (zf_pl_1 ho) ?_
      refine zw_ci (va_runV (As := [.int (nI (zk_py o))]) (rest := []) ⟨hx, hb, hml, hown, hts⟩ (zd_number l dC dI h0 ha cA f o ks cur z ((zk_py o)) hz ec (zk_py_lt o)) (cwV 1 hts gX1_told_X1_number rfl rfl rfl (by decide +kernel) ⟨Nat.le_of_ble_eq_true rfl, Nat.le_of_ble_eq_true rfl⟩) (zw_preV (ci := 1) (q0 := 0) hP hK rfl rfl) rfl rfl hl.1 rfl (lv_room (Nat.le_of_ble_eq_true rfl)) dX1_told_43 ⟨Nat.zero_le _, Nat.zero_le _⟩) ?_
      refine zw_eqi (y := zf_told (nI (zk_px o)) (nI (zk_py o)) (nI (zk_pz o)) cur v) (zf_told_4 h8 ej) ?_
      exact W.iret hx hb hr (fun t ht hW => ⟨rfl, ht⟩) (fun q h => by cases h) dX1_told_46
    | 5, _, ej =>
      refine lv_aload_n hx hb dX1_told_0 rfl (lv_at hl 0 rfl) ?_
      refine va_get (D := (dC, dI)) (ci := 1) (v := .long cur) (C := RX1) (T := TX1) (N := 4) hx hb hts (by decide +kernel) hown hK hP 0 rfl rfl 3 (by decide) (hts (.fieldLink RX1 15 "PageIndexModel" "cursor" "J") (by decide +kernel)) (fun _ h9 => h9) rfl dX1_told_1 ?_
      refine lv_ldc2 (v := (-1)) hx hb hown (hts (.constantLong RX1 13 (-1)) (by decide +kernel)) dX1_told_4 ?_
      refine W.lcmp hx hb dX1_told_7 ?_
      refine lv_if_eq (tgt := 20) hx hb dX1_told_8 (by decide) (fun c_8 => absurd c_8 (fun q => h8 ((lg_cmp_eq _ _).mp q))) (fun c_8 => ?_)
      refine lv_iload_n hx hb dX1_told_11 rfl (lv_at hl 1 rfl) ?_
      refine lv_if_lt (tgt := 20) hx hb dX1_told_12 (by decide) (fun c_12 => absurd c_12 (h12)) (fun c_12 => ?_)
      refine lv_iload_n hx hb dX1_told_15 rfl (lv_at hl 1 rfl) ?_
      refine lv_iconst (v := 5) hx hb dX1_told_16 (by decide) ?_
      refine lv_icmp_le (tgt := 22) hx hb dX1_told_17 (by decide) (fun c_17 => ?_) (fun c_17 => absurd (h17) c_17)
      refine lv_iload_n hx hb dX1_told_22 rfl (lv_at hl 1 rfl) ?_
      refine lv_iconst (v := 3) hx hb dX1_told_23 (by decide) ?_
      refine lv_icmp_ge (tgt := 35) hx hb dX1_told_24 (by decide) (fun c_24 => ?_) (fun c_24 => absurd (by rw [ej]; decide) c_24)
      refine lv_aload_n hx hb dX1_told_35 rfl (lv_at hl 0 rfl) ?_
      refine lv_aload_n hx hb dX1_told_36 rfl (lv_at hl 0 rfl) ?_
      refine lv_iload_n hx hb dX1_told_37 rfl (lv_at hl 1 rfl) ?_
      refine lv_iconst (v := 3) hx hb dX1_told_38 (by decide) ?_
      refine lv_isub hx hb dX1_told_39 ?_
      refine zw_eqi (y := nI 2) (by rw [ej]; decide) ?_
      refine zw_ci (va_runV (As := [.int (nI 2)]) (rest := [.ref h0]) ⟨hx, hb, hml, hown, hts⟩ (zd_placeOf l dC dI h0 ha cA f o ks cur (nI 2) ho) (cwV 1 hts gX1_told_X1_placeOf rfl rfl rfl (by decide +kernel) ⟨Nat.le_of_ble_eq_true rfl, Nat.le_of_ble_eq_true rfl⟩) (zw_preV (ci := 1) (q0 := 0) hP hK rfl rfl) rfl rfl hl.1 rfl (lv_room (Nat.le_of_ble_eq_true rfl)) dX1_told_40 ⟨Nat.zero_le _, Nat.zero_le _⟩) ?_
      refine zw_eqi (y := nI (zk_pz o)) (zf_pl_2 ho) ?_
      refine zw_ci (va_runV (As := [.int (nI (zk_pz o))]) (rest := []) ⟨hx, hb, hml, hown, hts⟩ (zd_number l dC dI h0 ha cA f o ks cur z ((zk_pz o)) hz ec (zk_pz_lt o)) (cwV 1 hts gX1_told_X1_number rfl rfl rfl (by decide +kernel) ⟨Nat.le_of_ble_eq_true rfl, Nat.le_of_ble_eq_true rfl⟩) (zw_preV (ci := 1) (q0 := 0) hP hK rfl rfl) rfl rfl hl.1 rfl (lv_room (Nat.le_of_ble_eq_true rfl)) dX1_told_43 ⟨Nat.zero_le _, Nat.zero_le _⟩) ?_
      refine zw_eqi (y := zf_told (nI (zk_px o)) (nI (zk_py o)) (nI (zk_pz o)) cur v) (zf_told_5 h8 ej) ?_
      exact W.iret hx hb hr (fun t ht hW => ⟨rfl, ht⟩) (fun q h => by cases h) dX1_told_46
end
section
set_option maxHeartbeats 4000000 in
set_option maxRecDepth 100000 in
/-- count(v, a, b, d) -/
theorem zd_count (l : Launch) (dC : Nat → ClassId) (dI : Nat → Nat → Nat) (h0 ha : Nat) (cA : ClassId) (f : Nat → Int64) (o : Nat) (ks : List Nat) (cur : Int64) (v : Int32) (a : Int32) (b : Int32) (d : Int32) (hG : zk_R ks f) : Met l yX1_count wsX1_count ({ frames := 2, cells := 0, slots := 0, locals := 48 }) (zw_P [.ref h0, .int v, .int a, .int b, .int d] (dC, dI) vwCl (zy_w h0 ha cA f o ks.length cur) [(cA, .long)]) (zw_Q (some (.int (zs_count ks v a b d)))) 0 0 (fun _ => False) := by
  refine Met.ofW (cc := cX1_count) (maxL := 9) (ret := (some .int)) (by decide) rfl ?_
  intro p e s m args below meth c s₁ B hml hv
  obtain ⟨rfl, hP, hK⟩ := hv
  have hx := B.exec
  have hb := B.bytes
  have hr := B.returns
  have hts := atoms_spec (ws := wsX1_count) B.pre
  have hown : s.vm.findClass RX1 = some m.cls := findClass_of_methodNamed B.named
  have hl := lv_entry ([.ref h0, .int v, .int a, .int b, .int d]) (n := 9) (Nat.le_of_ble_eq_true rfl)
  rw [lg_entry_eq]
  generalize (lg_sl ([.ref h0, .int v, .int a, .int b, .int d]) ++ List.replicate (9 - (lg_sl ([.ref h0, .int v, .int a, .int b, .int d])).length) Slot.unset).toArray = ls at hl ⊢
  have hl : lv_has ls 9 [(0, .ref h0), (1, .int v), (2, .int a), (3, .int b), (4, .int d)] := hl
  have hP : va_P (dC, dI) vwCl (zy_w h0 ha cA f o ks.length cur) s.heap := hP
  have hG0 := hG
  obtain ⟨hs, h60, hn, hf⟩ := hG0
  refine lv_iload_n hx hb dX1_count_0 rfl (lv_at hl 1 rfl) ?_
  refine lv_if_lt (tgt := 9) hx hb dX1_count_1 (by decide) (fun c_1 => ?_) (fun c_1 => ?_)
  · refine lv_iconst (v := (-1)) hx hb dX1_count_9 (by decide) ?_
    refine zw_eqi (y := zs_count ks v a b d) (zs_count_bad (Or.inl c_1)) ?_
    exact W.iret hx hb hr (fun t ht hW => ⟨rfl, ht⟩) (fun q h => by cases h) dX1_count_10
  · refine lv_iload_n hx hb dX1_count_4 rfl (lv_at hl 1 rfl) ?_
    refine lv_iconst (v := 3) hx hb dX1_count_5 (by decide) ?_
    refine lv_icmp_le (tgt := 11) hx hb dX1_count_6 (by decide) (fun c_6 => ?_) (fun c_6 => ?_)
    · obtain ⟨i, hi, ev⟩ := nI_of2 (x := v) (M := 3) (n := 3) (by decide) c_1 c_6
      refine lv_iload_n hx hb dX1_count_11 rfl (lv_at hl 1 rfl) ?_
      refine lv_iload_n hx hb dX1_count_12 rfl (lv_at hl 2 rfl) ?_
      refine lv_iload_n hx hb dX1_count_13 rfl (lv_at hl 3 rfl) ?_
      refine lv_iload hx hb dX1_count_14 (lv_at hl 4 rfl) ?_
      refine zw_ci (va_runS (As := [.int v, .int a, .int b, .int d]) (rest := []) ⟨hx, hb, hml, hown, hts⟩ (zd_areNumbers l v a b d) (va_cwS 4 hts gX1_count_X1_areNumbers rfl rfl rfl (by decide +kernel) ⟨Nat.le_of_ble_eq_true rfl, Nat.le_of_ble_eq_true rfl⟩) (preEq) rfl rfl hl.1 rfl (lv_room (Nat.le_of_ble_eq_true rfl)) dX1_count_16 ⟨Nat.zero_le _, Nat.zero_le _⟩) ?_
      refine zw_ifne (tgt := 24) hx hb dX1_count_19 (by decide) (fun c_19 => ?_) (fun c_19 => ?_)
      · refine lv_iload_n hx hb dX1_count_24 rfl (lv_at hl 1 rfl) ?_
        refine lv_iload_n hx hb dX1_count_25 rfl (lv_at hl 2 rfl) ?_
        refine lv_iload_n hx hb dX1_count_26 rfl (lv_at hl 3 rfl) ?_
        refine lv_iload hx hb dX1_count_27 (lv_at hl 4 rfl) ?_
        refine zw_cl (va_runS (As := [.int v, .int a, .int b, .int d]) (rest := []) ⟨hx, hb, hml, hown, hts⟩ (zd_beginning l v a b d) (va_cwS 4 hts gX1_count_X1_beginning rfl rfl rfl (by decide +kernel) ⟨Nat.le_of_ble_eq_true rfl, Nat.le_of_ble_eq_true rfl⟩) (preEq) rfl rfl hl.1 rfl (lv_room (Nat.le_of_ble_eq_true rfl)) dX1_count_29 ⟨Nat.zero_le _, Nat.zero_le _⟩) ?_
        refine lv_lstore (lv' := [(5, .long (zf_bg v a b d)), (0, .ref h0), (1, .int v), (2, .int a), (3, .int b), (4, .int d)]) hx hb dX1_count_32 hl (by decide) rfl (fun ls hl => ?_)
        refine lv_iconst (v := 0) hx hb dX1_count_34 (by decide) ?_
        refine zw_eqi (y := nI 0) (nI_0.symm) ?_
        refine lv_istore (lv' := [(7, .int (nI 0)), (5, .long (zf_bg v a b d)), (0, .ref h0), (1, .int v), (2, .int a), (3, .int b), (4, .int d)]) hx hb dX1_count_35 hl (by decide) rfl (fun ls hl => ?_)
        refine lv_iconst (v := 0) hx hb dX1_count_37 (by decide) ?_
        refine zw_eqi (y := nI 0) (nI_0.symm) ?_
        refine lv_istore (lv' := [(8, .int (nI 0)), (7, .int (nI 0)), (5, .long (zf_bg v a b d)), (0, .ref h0), (1, .int v), (2, .int a), (3, .int b), (4, .int d)]) hx hb dX1_count_38 hl (by decide) rfl (fun ls hl => ?_)
        have LOOP : ∀ (r j fd : Nat), j + r = ks.length → fd + (ks.drop j).countP (zk_m i a b d) = ks.countP (zk_m i a b d) → ∀ ls : Array Slot, lv_has ls 9 [(8, .int (nI j)), (7, .int (nI fd)), (5, .long (zf_bg v a b d)), (0, .ref h0), (1, .int v)] → W p l e (headSpec wsX1_count ({ frames := 2, cells := 0, slots := 0, locals := 48 })).room s m [.ref h0, .int v, .int a, .int b, .int d].toArray below meth c s.heap [] 0 0 (MQ below (zw_Q (some (.int (zs_count ks v a b d)))) [.ref h0, .int v, .int a, .int b, .int d].toArray s 0 0 (fun _ => False)) (F0 m 40 ls []) := by
          intro r
          induction r with
          | zero =>
            intro j fd h1 h2 ls hl
            rw [List.drop_eq_nil_of_le (by omega), List.countP_nil, Nat.add_zero] at h2
            refine lv_iload hx hb dX1_count_40 (lv_at hl 0 rfl) ?_
            refine lv_aload_n hx hb dX1_count_42 rfl (lv_at hl 3 rfl) ?_
            refine va_get (D := (dC, dI)) (ci := 1) (v := .int (nI ks.length)) (C := RX1) (T := TX1) (N := 4) hx hb hts (by decide +kernel) hown hK hP 0 rfl rfl 1 (by decide) (hts (.fieldLink RX1 40 "PageIndexModel" "size" "I") (by decide +kernel)) (fun _ h9 => h9) rfl dX1_count_43 ?_
            refine lv_icmp_ge (tgt := 82) hx hb dX1_count_46 (by decide) (fun c_46 => ?_) (fun c_46 => absurd (nI_le (by omega) (by omega)) c_46)
            refine lv_iload hx hb dX1_count_82 (lv_at hl 1 rfl) ?_
            refine zw_eqi (y := zs_count ks v a b d) (by rw [h2]; exact zs_count_nI hi ev) ?_
            exact W.iret hx hb hr (fun t ht hW => ⟨rfl, ht⟩) (fun q h => by cases h) dX1_count_84
          | succ r ih =>
            intro j fd h1 h2 ls hl
            have hjl : j < ks.length := by omega
            have hkb := h60 _ (zk_mem_getD hjl)
            have hfm := zk_fst_m (a := a) (b := b) (d := d) hi (ev ▸ c_19) hkb
            rw [← ev] at hfm
            rw [zk_drop_cons hjl, List.countP_cons] at h2
            refine lv_iload hx hb dX1_count_40 (lv_at hl 0 rfl) ?_
            refine lv_aload_n hx hb dX1_count_42 rfl (lv_at hl 3 rfl) ?_
            refine va_get (D := (dC, dI)) (ci := 1) (v := .int (nI ks.length)) (C := RX1) (T := TX1) (N := 4) hx hb hts (by decide +kernel) hown hK hP 0 rfl rfl 1 (by decide) (hts (.fieldLink RX1 40 "PageIndexModel" "size" "I") (by decide +kernel)) (fun _ h9 => h9) rfl dX1_count_43 ?_
            refine lv_icmp_ge (tgt := 82) hx hb dX1_count_46 (by decide) (fun c_46 => absurd c_46 (nI_ge hjl (by omega))) (fun c_46 => ?_)
            refine lv_iload hx hb dX1_count_49 (lv_at hl 1 rfl) ?_
            refine lv_aload_n hx hb dX1_count_51 rfl (lv_at hl 3 rfl) ?_
            refine va_get (D := (dC, dI)) (ci := 1) (v := .ref ha) (C := RX1) (T := TX1) (N := 4) hx hb hts (by decide +kernel) hown hK hP 0 rfl rfl 0 (by decide) (hts (.fieldLink RX1 7 "PageIndexModel" "keys" "[J") (by decide +kernel)) (fun _ h9 => h9) rfl dX1_count_52 ?_
            refine lv_iload hx hb dX1_count_55 (lv_at hl 0 rfl) ?_
            refine va_lald hx hb hK hP 1 0 rfl rfl (pk_in j 20000 (by omega) rfl (by omega)) dX1_count_57 ?_
            refine zw_eql (y := lN (ks.getD j 0)) (by rw [nI_clamp (by omega)]; exact hf _ hjl) ?_
            refine lv_iload_n hx hb dX1_count_58 rfl (lv_at hl 4 rfl) ?_
            refine zw_eqi (y := nI i) (ev) ?_
            refine zw_cl (va_runS (As := [.long (lN (ks.getD j 0)), .int (nI i)]) (rest := [.int (nI fd)]) ⟨hx, hb, hml, hown, hts⟩ (zd_first l (ks.getD j 0) i (hkb) (hi)) (va_cwS 2 hts gX1_count_X1_first rfl rfl rfl (by decide +kernel) ⟨Nat.le_of_ble_eq_true rfl, Nat.le_of_ble_eq_true rfl⟩) (preEq) rfl rfl hl.1 rfl (lv_room (Nat.le_of_ble_eq_true rfl)) dX1_count_59 ⟨Nat.zero_le _, Nat.zero_le _⟩) ?_
            refine lv_lload hx hb dX1_count_62 (lv_at hl 2 rfl) ?_
            refine W.lcmp hx hb dX1_count_64 ?_
            refine lv_if_ne (tgt := 72) hx hb dX1_count_65 (by decide) (fun c_65 => ?_) (fun c_65 => ?_)
            · rw [if_neg (fun z => c_65 ((lg_cmp_eq _ _).mpr (hfm.mpr z)))] at h2
              refine lv_iconst (v := 0) hx hb dX1_count_72 (by decide) ?_
              refine lv_iadd hx hb dX1_count_73 ?_
              refine zw_eqi (y := nI fd) (Int32.add_zero _) ?_
              refine lv_istore (lv' := [(7, .int (nI fd)), (8, .int (nI j)), (5, .long (zf_bg v a b d)), (0, .ref h0), (1, .int v)]) hx hb dX1_count_74 hl (by decide) rfl (fun ls hl => ?_)
              refine lv_iinc (v := nI (j + 1)) (lv' := [(8, .int (nI (j + 1))), (7, .int (nI fd)), (5, .long (zf_bg v a b d)), (0, .ref h0), (1, .int v)]) hx hb dX1_count_76 hl (k := 1) rfl (nI_1 _) (by decide) rfl (fun ls hl => ?_)
              refine lv_goto (tgt := 40) hx hb dX1_count_79 (by decide) ?_
              exact ih (j + 1) fd (by omega) (by omega) ls (lv_sub hl [0, 1, 2, 3, 4] rfl)
            · rw [if_pos (hfm.mp ((lg_cmp_eq _ _).mp c_65))] at h2
              refine lv_iconst (v := 1) hx hb dX1_count_68 (by decide) ?_
              refine lv_goto (tgt := 73) hx hb dX1_count_69 (by decide) ?_
              refine lv_iadd hx hb dX1_count_73 ?_
              refine zw_eqi (y := nI (fd + 1)) (nI_1 _) ?_
              refine lv_istore (lv' := [(7, .int (nI (fd + 1))), (8, .int (nI j)), (5, .long (zf_bg v a b d)), (0, .ref h0), (1, .int v)]) hx hb dX1_count_74 hl (by decide) rfl (fun ls hl => ?_)
              refine lv_iinc (v := nI (j + 1)) (lv' := [(8, .int (nI (j + 1))), (7, .int (nI (fd + 1))), (5, .long (zf_bg v a b d)), (0, .ref h0), (1, .int v)]) hx hb dX1_count_76 hl (k := 1) rfl (nI_1 _) (by decide) rfl (fun ls hl => ?_)
              refine lv_goto (tgt := 40) hx hb dX1_count_79 (by decide) ?_
              exact ih (j + 1) ((fd + 1)) (by omega) (by omega) ls (lv_sub hl [0, 1, 2, 3, 4] rfl)
        exact LOOP ks.length 0 0 (by omega) (by rw [List.drop_zero, Nat.zero_add]) ls (lv_sub hl [0, 1, 2, 3, 4] rfl)
      · refine lv_iconst (v := 0) hx hb dX1_count_22 (by decide) ?_
        refine zw_eqi (y := zs_count ks v a b d) (zs_count_no h60 hi ev c_19) ?_
        exact W.iret hx hb hr (fun t ht hW => ⟨rfl, ht⟩) (fun q h => by cases h) dX1_count_23
    · refine lv_iconst (v := (-1)) hx hb dX1_count_9 (by decide) ?_
      refine zw_eqi (y := zs_count ks v a b d) (zs_count_bad (Or.inr c_6)) ?_
      exact W.iret hx hb hr (fun t ht hW => ⟨rfl, ht⟩) (fun q h => by cases h) dX1_count_10
set_option maxHeartbeats 4000000 in
set_option maxRecDepth 100000 in
/-- different(v, a, b) -/
theorem zd_different (l : Launch) (dC : Nat → ClassId) (dI : Nat → Nat → Nat) (h0 ha : Nat) (cA : ClassId) (f : Nat → Int64) (o : Nat) (ks : List Nat) (cur : Int64) (v : Int32) (a : Int32) (b : Int32) (hG : zk_R ks f) : Met l yX1_different wsX1_different ({ frames := 2, cells := 0, slots := 0, locals := 48 }) (zw_P [.ref h0, .int v, .int a, .int b] (dC, dI) vwCl (zy_w h0 ha cA f o ks.length cur) [(cA, .long)]) (zw_Q (some (.int (zs_dif ks v a b)))) 0 0 (fun _ => False) := by
  refine Met.ofW (cc := cX1_different) (maxL := 12) (ret := (some .int)) (by decide) rfl ?_
  intro p e s m args below meth c s₁ B hml hv
  obtain ⟨rfl, hP, hK⟩ := hv
  have hx := B.exec
  have hb := B.bytes
  have hr := B.returns
  have hts := atoms_spec (ws := wsX1_different) B.pre
  have hown : s.vm.findClass RX1 = some m.cls := findClass_of_methodNamed B.named
  have hl := lv_entry ([.ref h0, .int v, .int a, .int b]) (n := 12) (Nat.le_of_ble_eq_true rfl)
  rw [lg_entry_eq]
  generalize (lg_sl ([.ref h0, .int v, .int a, .int b]) ++ List.replicate (12 - (lg_sl ([.ref h0, .int v, .int a, .int b])).length) Slot.unset).toArray = ls at hl ⊢
  have hl : lv_has ls 12 [(0, .ref h0), (1, .int v), (2, .int a), (3, .int b)] := hl
  have hP : va_P (dC, dI) vwCl (zy_w h0 ha cA f o ks.length cur) s.heap := hP
  have hG0 := hG
  obtain ⟨hs, h60, hn, hf⟩ := hG0
  refine lv_iload_n hx hb dX1_different_0 rfl (lv_at hl 1 rfl) ?_
  refine lv_if_lt (tgt := 9) hx hb dX1_different_1 (by decide) (fun c_1 => ?_) (fun c_1 => ?_)
  · refine lv_iconst (v := (-1)) hx hb dX1_different_9 (by decide) ?_
    refine zw_eqi (y := zs_dif ks v a b) (zs_dif_bad (Or.inl c_1)) ?_
    exact W.iret hx hb hr (fun t ht hW => ⟨rfl, ht⟩) (fun q h => by cases h) dX1_different_10
  · refine lv_iload_n hx hb dX1_different_4 rfl (lv_at hl 1 rfl) ?_
    refine lv_iconst (v := 2) hx hb dX1_different_5 (by decide) ?_
    refine lv_icmp_le (tgt := 11) hx hb dX1_different_6 (by decide) (fun c_6 => ?_) (fun c_6 => ?_)
    · obtain ⟨i, hi, ev⟩ := nI_of2 (x := v) (M := 2) (n := 2) (by decide) c_1 c_6
      refine lv_iload_n hx hb dX1_different_11 rfl (lv_at hl 1 rfl) ?_
      refine lv_iload_n hx hb dX1_different_12 rfl (lv_at hl 2 rfl) ?_
      refine lv_iload_n hx hb dX1_different_13 rfl (lv_at hl 3 rfl) ?_
      refine lv_iconst (v := 0) hx hb dX1_different_14 (by decide) ?_
      refine zw_ci (va_runS (As := [.int v, .int a, .int b, .int 0]) (rest := []) ⟨hx, hb, hml, hown, hts⟩ (zd_areNumbers l v a b 0) (va_cwS 4 hts gX1_different_X1_areNumbers rfl rfl rfl (by decide +kernel) ⟨Nat.le_of_ble_eq_true rfl, Nat.le_of_ble_eq_true rfl⟩) (preEq) rfl rfl hl.1 rfl (lv_room (Nat.le_of_ble_eq_true rfl)) dX1_different_15 ⟨Nat.zero_le _, Nat.zero_le _⟩) ?_
      refine zw_ifne (tgt := 23) hx hb dX1_different_18 (by decide) (fun c_18 => ?_) (fun c_18 => ?_)
      · refine lv_iload_n hx hb dX1_different_23 rfl (lv_at hl 1 rfl) ?_
        refine lv_iload_n hx hb dX1_different_24 rfl (lv_at hl 2 rfl) ?_
        refine lv_iload_n hx hb dX1_different_25 rfl (lv_at hl 3 rfl) ?_
        refine lv_iconst (v := 0) hx hb dX1_different_26 (by decide) ?_
        refine zw_cl (va_runS (As := [.int v, .int a, .int b, .int 0]) (rest := []) ⟨hx, hb, hml, hown, hts⟩ (zd_beginning l v a b 0) (va_cwS 4 hts gX1_different_X1_beginning rfl rfl rfl (by decide +kernel) ⟨Nat.le_of_ble_eq_true rfl, Nat.le_of_ble_eq_true rfl⟩) (preEq) rfl rfl hl.1 rfl (lv_room (Nat.le_of_ble_eq_true rfl)) dX1_different_27 ⟨Nat.zero_le _, Nat.zero_le _⟩) ?_
        refine lv_lstore (lv' := [(4, .long (zf_bg v a b 0)), (0, .ref h0), (1, .int v), (2, .int a), (3, .int b)]) hx hb dX1_different_30 hl (by decide) rfl (fun ls hl => ?_)
        refine lv_iconst (v := 0) hx hb dX1_different_32 (by decide) ?_
        refine zw_eqi (y := nI 0) (nI_0.symm) ?_
        refine lv_istore (lv' := [(6, .int (nI 0)), (4, .long (zf_bg v a b 0)), (0, .ref h0), (1, .int v), (2, .int a), (3, .int b)]) hx hb dX1_different_33 hl (by decide) rfl (fun ls hl => ?_)
        refine lv_ldc2 (v := (-1)) hx hb hown (hts (.constantLong RX1 13 (-1)) (by decide +kernel)) dX1_different_35 ?_
        refine zw_eql (y := zk_o none) (rfl) ?_
        refine lv_lstore (lv' := [(7, .long (zk_o none)), (6, .int (nI 0)), (4, .long (zf_bg v a b 0)), (0, .ref h0), (1, .int v), (2, .int a), (3, .int b)]) hx hb dX1_different_38 hl (by decide) rfl (fun ls hl => ?_)
        refine lv_iconst (v := 0) hx hb dX1_different_40 (by decide) ?_
        refine zw_eqi (y := nI 0) (nI_0.symm) ?_
        refine lv_istore (lv' := [(9, .int (nI 0)), (7, .long (zk_o none)), (6, .int (nI 0)), (4, .long (zf_bg v a b 0)), (0, .ref h0), (1, .int v), (2, .int a), (3, .int b)]) hx hb dX1_different_41 hl (by decide) rfl (fun ls hl => ?_)
        have LOOP : ∀ (r j fd : Nat) (lo : Option Nat), j + r = ks.length → (∀ z, lo = some z → z < 9223372036854775808) → fd + zk_ch lo (((ks.drop j).filter (zk_m i a b 0)).map (zk_fst (i + 1))) = zk_ch none ((ks.filter (zk_m i a b 0)).map (zk_fst (i + 1))) → ∀ ls : Array Slot, lv_has ls 12 [(9, .int (nI j)), (7, .long (zk_o lo)), (6, .int (nI fd)), (4, .long (zf_bg v a b 0)), (0, .ref h0), (1, .int v)] → W p l e (headSpec wsX1_different ({ frames := 2, cells := 0, slots := 0, locals := 48 })).room s m [.ref h0, .int v, .int a, .int b].toArray below meth c s.heap [] 0 0 (MQ below (zw_Q (some (.int (zs_dif ks v a b)))) [.ref h0, .int v, .int a, .int b].toArray s 0 0 (fun _ => False)) (F0 m 43 ls []) := by
          intro r
          induction r with
          | zero =>
            intro j fd lo h1 hlo h2 ls hl
            rw [List.drop_eq_nil_of_le (by omega)] at h2
            have h2 : fd + 0 = _ := h2
            refine lv_iload hx hb dX1_different_43 (lv_at hl 0 rfl) ?_
            refine lv_aload_n hx hb dX1_different_45 rfl (lv_at hl 4 rfl) ?_
            refine va_get (D := (dC, dI)) (ci := 1) (v := .int (nI ks.length)) (C := RX1) (T := TX1) (N := 4) hx hb hts (by decide +kernel) hown hK hP 0 rfl rfl 1 (by decide) (hts (.fieldLink RX1 40 "PageIndexModel" "size" "I") (by decide +kernel)) (fun _ h9 => h9) rfl dX1_different_46 ?_
            refine lv_icmp_ge (tgt := 108) hx hb dX1_different_49 (by decide) (fun c_49 => ?_) (fun c_49 => absurd (nI_le (by omega) (by omega)) c_49)
            refine lv_iload hx hb dX1_different_108 (lv_at hl 2 rfl) ?_
            refine zw_eqi (y := zs_dif ks v a b) (by rw [← zs_dif_nI hs h60 hi ev, ← h2, Nat.add_zero]) ?_
            exact W.iret hx hb hr (fun t ht hW => ⟨rfl, ht⟩) (fun q h => by cases h) dX1_different_110
          | succ r ih =>
            intro j fd lo h1 hlo h2 ls hl
            have hjl : j < ks.length := by omega
            have hkb := h60 _ (zk_mem_getD hjl)
            have hfm := zk_fst_m (a := a) (b := b) (d := 0) (show i ≤ 3 by omega) (ev ▸ c_18) hkb
            rw [← ev] at hfm
            have hfl := zk_fst_le (i + 1) (ks.getD j 0)
            have hoe := zk_o_eq (o := lo) (q := zk_fst (i + 1) (ks.getD j 0)) (by omega) hlo
            rw [zk_drop_cons hjl] at h2
            refine lv_iload hx hb dX1_different_43 (lv_at hl 0 rfl) ?_
            refine lv_aload_n hx hb dX1_different_45 rfl (lv_at hl 4 rfl) ?_
            refine va_get (D := (dC, dI)) (ci := 1) (v := .int (nI ks.length)) (C := RX1) (T := TX1) (N := 4) hx hb hts (by decide +kernel) hown hK hP 0 rfl rfl 1 (by decide) (hts (.fieldLink RX1 40 "PageIndexModel" "size" "I") (by decide +kernel)) (fun _ h9 => h9) rfl dX1_different_46 ?_
            refine lv_icmp_ge (tgt := 108) hx hb dX1_different_49 (by decide) (fun c_49 => absurd c_49 (nI_ge hjl (by omega))) (fun c_49 => ?_)
            refine lv_aload_n hx hb dX1_different_52 rfl (lv_at hl 4 rfl) ?_
            refine va_get (D := (dC, dI)) (ci := 1) (v := .ref ha) (C := RX1) (T := TX1) (N := 4) hx hb hts (by decide +kernel) hown hK hP 0 rfl rfl 0 (by decide) (hts (.fieldLink RX1 7 "PageIndexModel" "keys" "[J") (by decide +kernel)) (fun _ h9 => h9) rfl dX1_different_53 ?_
            refine lv_iload hx hb dX1_different_56 (lv_at hl 0 rfl) ?_
            refine va_lald hx hb hK hP 1 0 rfl rfl (pk_in j 20000 (by omega) rfl (by omega)) dX1_different_58 ?_
            refine zw_eql (y := lN (ks.getD j 0)) (by rw [nI_clamp (by omega)]; exact hf _ hjl) ?_
            refine lv_iload_n hx hb dX1_different_59 rfl (lv_at hl 5 rfl) ?_
            refine lv_iconst (v := 1) hx hb dX1_different_60 (by decide) ?_
            refine lv_iadd hx hb dX1_different_61 ?_
            refine zw_eqi (y := nI (i + 1)) (by rw [ev]; exact nI_1 _) ?_
            refine zw_cl (va_runS (As := [.long (lN (ks.getD j 0)), .int (nI (i + 1))]) (rest := []) ⟨hx, hb, hml, hown, hts⟩ (zd_first l (ks.getD j 0) (i + 1) (hkb) (by omega)) (va_cwS 2 hts gX1_different_X1_first rfl rfl rfl (by decide +kernel) ⟨Nat.le_of_ble_eq_true rfl, Nat.le_of_ble_eq_true rfl⟩) (preEq) rfl rfl hl.1 rfl (lv_room (Nat.le_of_ble_eq_true rfl)) dX1_different_62 ⟨Nat.zero_le _, Nat.zero_le _⟩) ?_
            refine lv_lstore (lv' := [(10, .long (lN (zk_fst (i + 1) (ks.getD j 0)))), (9, .int (nI j)), (7, .long (zk_o lo)), (6, .int (nI fd)), (4, .long (zf_bg v a b 0)), (0, .ref h0), (1, .int v)]) hx hb dX1_different_65 hl (by decide) rfl (fun ls hl => ?_)
            refine lv_aload_n hx hb dX1_different_67 rfl (lv_at hl 5 rfl) ?_
            refine va_get (D := (dC, dI)) (ci := 1) (v := .ref ha) (C := RX1) (T := TX1) (N := 4) hx hb hts (by decide +kernel) hown hK hP 0 rfl rfl 0 (by decide) (hts (.fieldLink RX1 7 "PageIndexModel" "keys" "[J") (by decide +kernel)) (fun _ h9 => h9) rfl dX1_different_68 ?_
            refine lv_iload hx hb dX1_different_71 (lv_at hl 1 rfl) ?_
            refine va_lald hx hb hK hP 1 0 rfl rfl (pk_in j 20000 (by omega) rfl (by omega)) dX1_different_73 ?_
            refine zw_eql (y := lN (ks.getD j 0)) (by rw [nI_clamp (by omega)]; exact hf _ hjl) ?_
            refine lv_iload_n hx hb dX1_different_74 rfl (lv_at hl 6 rfl) ?_
            refine zw_eqi (y := nI i) (ev) ?_
            refine zw_cl (va_runS (As := [.long (lN (ks.getD j 0)), .int (nI i)]) (rest := []) ⟨hx, hb, hml, hown, hts⟩ (zd_first l (ks.getD j 0) i (hkb) (by omega)) (va_cwS 2 hts gX1_different_X1_first rfl rfl rfl (by decide +kernel) ⟨Nat.le_of_ble_eq_true rfl, Nat.le_of_ble_eq_true rfl⟩) (preEq) rfl rfl hl.1 rfl (lv_room (Nat.le_of_ble_eq_true rfl)) dX1_different_75 ⟨Nat.zero_le _, Nat.zero_le _⟩) ?_
            refine lv_lload hx hb dX1_different_78 (lv_at hl 4 rfl) ?_
            refine W.lcmp hx hb dX1_different_80 ?_
            refine lv_if_ne (tgt := 102) hx hb dX1_different_81 (by decide) (fun c_81 => ?_) (fun c_81 => ?_)
            · rw [List.filter_cons_of_neg (fun z => c_81 ((lg_cmp_eq _ _).mpr (hfm.mpr z)))] at h2
              refine lv_iinc (v := nI (j + 1)) (lv' := [(9, .int (nI (j + 1))), (10, .long (lN (zk_fst (i + 1) (ks.getD j 0)))), (7, .long (zk_o lo)), (6, .int (nI fd)), (4, .long (zf_bg v a b 0)), (0, .ref h0), (1, .int v)]) hx hb dX1_different_102 hl (k := 1) rfl (nI_1 _) (by decide) rfl (fun ls hl => ?_)
              refine lv_goto (tgt := 43) hx hb dX1_different_105 (by decide) ?_
              exact ih (j + 1) fd lo (by omega) hlo (by omega) ls (lv_sub hl [0, 2, 3, 4, 5, 6] rfl)
            · rw [List.filter_cons_of_pos (hfm.mp ((lg_cmp_eq _ _).mp c_81)), List.map_cons, zk_ch] at h2
              refine lv_lload hx hb dX1_different_84 (lv_at hl 0 rfl) ?_
              refine lv_lload hx hb dX1_different_86 (lv_at hl 2 rfl) ?_
              refine W.lcmp hx hb dX1_different_88 ?_
              refine lv_if_ne (tgt := 95) hx hb dX1_different_89 (by decide) (fun c_89 => ?_) (fun c_89 => ?_)
              · rw [if_neg (fun z => c_89 ((lg_cmp_eq _ _).mpr (hoe.mpr z)))] at h2
                refine lv_iinc (v := nI (fd + 1)) (lv' := [(6, .int (nI (fd + 1))), (10, .long (lN (zk_fst (i + 1) (ks.getD j 0)))), (9, .int (nI j)), (7, .long (zk_o lo)), (4, .long (zf_bg v a b 0)), (0, .ref h0), (1, .int v)]) hx hb dX1_different_95 hl (k := 3) rfl (nI_1 _) (by decide) rfl (fun ls hl => ?_)
                refine lv_lload hx hb dX1_different_98 (lv_at hl 1 rfl) ?_
                refine zw_eql (y := zk_o (some (zk_fst (i + 1) (ks.getD j 0)))) (rfl) ?_
                refine lv_lstore (lv' := [(7, .long (zk_o (some (zk_fst (i + 1) (ks.getD j 0))))), (6, .int (nI (fd + 1))), (10, .long (lN (zk_fst (i + 1) (ks.getD j 0)))), (9, .int (nI j)), (4, .long (zf_bg v a b 0)), (0, .ref h0), (1, .int v)]) hx hb dX1_different_100 hl (by decide) rfl (fun ls hl => ?_)
                refine lv_iinc (v := nI (j + 1)) (lv' := [(9, .int (nI (j + 1))), (7, .long (zk_o (some (zk_fst (i + 1) (ks.getD j 0))))), (6, .int (nI (fd + 1))), (10, .long (lN (zk_fst (i + 1) (ks.getD j 0)))), (4, .long (zf_bg v a b 0)), (0, .ref h0), (1, .int v)]) hx hb dX1_different_102 hl (k := 3) rfl (nI_1 _) (by decide) rfl (fun ls hl => ?_)
                refine lv_goto (tgt := 43) hx hb dX1_different_105 (by decide) ?_
                exact ih (j + 1) ((fd + 1)) (some (zk_fst (i + 1) (ks.getD j 0))) (by omega) (fun z hz => by cases hz; omega) (by omega) ls (lv_sub hl [0, 1, 2, 4, 5, 6] rfl)
              · have e89 := hoe.mp ((lg_cmp_eq _ _).mp c_89)
                rw [if_pos e89, e89] at h2
                refine lv_goto (tgt := 102) hx hb dX1_different_92 (by decide) ?_
                refine lv_iinc (v := nI (j + 1)) (lv' := [(9, .int (nI (j + 1))), (10, .long (lN (zk_fst (i + 1) (ks.getD j 0)))), (7, .long (zk_o lo)), (6, .int (nI fd)), (4, .long (zf_bg v a b 0)), (0, .ref h0), (1, .int v)]) hx hb dX1_different_102 hl (k := 1) rfl (nI_1 _) (by decide) rfl (fun ls hl => ?_)
                refine lv_goto (tgt := 43) hx hb dX1_different_105 (by decide) ?_
                exact ih (j + 1) fd lo (by omega) hlo (by omega) ls (lv_sub hl [0, 2, 3, 4, 5, 6] rfl)
        exact LOOP ks.length 0 0 none (by omega) (fun z hz => by cases hz) (by rw [List.drop_zero, Nat.zero_add]) ls (lv_sub hl [0, 1, 2, 3, 4, 5] rfl)
      · refine lv_iconst (v := 0) hx hb dX1_different_21 (by decide) ?_
        refine zw_eqi (y := zs_dif ks v a b) (zs_dif_no hs h60 hi ev c_18) ?_
        exact W.iret hx hb hr (fun t ht hW => ⟨rfl, ht⟩) (fun q h => by cases h) dX1_different_22
    · refine lv_iconst (v := (-1)) hx hb dX1_different_9 (by decide) ?_
      refine zw_eqi (y := zs_dif ks v a b) (zs_dif_bad (Or.inr c_6)) ?_
      exact W.iret hx hb hr (fun t ht hW => ⟨rfl, ht⟩) (fun q h => by cases h) dX1_different_10
end
section
set_option maxHeartbeats 4000000 in
set_option maxRecDepth 100000 in
/-- stand(v) -/
theorem zd_stand (l : Launch) (dC : Nat → ClassId) (dI : Nat → Nat → Nat) (h0 ha : Nat) (cA : ClassId) (f : Nat → Int64) (o : Nat) (ks : List Nat) (cur : Int64) (sz : Nat) (v : Int32) (hG : zk_R ks f) : Met l yX1_stand wsX1_stand ({ frames := 0, cells := 0, slots := 0, locals := 0 }) (zw_Pw [.ref h0, .int v] (dC, dI) vwCl (zy_w h0 ha cA f o ks.length cur) [(cA, .long)] sz) (zy_Q dC dI h0 ha cA o (some (.int (zb_I (zs_at ks v).isSome))) (ks) (zk_o (zs_at ks v)) (va_A (zy_w h0 ha cA f o ks.length cur) sz)) 0 0 (va_A (zy_w h0 ha cA f o ks.length cur) sz) := by
  refine Met.ofW (cc := cX1_stand) (maxL := 3) (ret := (some .boolean)) (by decide) rfl ?_
  intro p e s m args below meth c s₁ B hml hv
  obtain ⟨rfl, hsz, hP, hK, hD0⟩ := hv
  have hx := B.exec
  have hb := B.bytes
  have hr := B.returns
  have hts := atoms_spec (ws := wsX1_stand) B.pre
  have hown : s.vm.findClass RX1 = some m.cls := findClass_of_methodNamed B.named
  subst hsz
  have hD := hD0.self (sz := s.heap.size)
  generalize hAe : va_A (zy_w h0 ha cA f o ks.length cur) s.heap.size = A at hD ⊢
  have hA : ∀ q : Nat, s.heap.size ≤ q → A q := fun q h => by rw [← hAe]; exact Or.inr h
  have hS : va_S A s.heap s.heap [] := va_S.rf
  have hP : va_P (dC, dI) vwCl (zy_w h0 ha cA f o ks.length cur) s.heap := hP
  have hl := lv_entry ([.ref h0, .int v]) (n := 3) (Nat.le_of_ble_eq_true rfl)
  rw [lg_entry_eq]
  generalize (lg_sl ([.ref h0, .int v]) ++ List.replicate (3 - (lg_sl ([.ref h0, .int v])).length) Slot.unset).toArray = ls at hl ⊢
  have hl : lv_has ls 3 [(0, .ref h0), (1, .int v)] := hl
  refine lv_iload_n hx hb dX1_stand_0 rfl (lv_at hl 1 rfl) ?_
  refine lv_if_lt (tgt := 16) hx hb dX1_stand_1 (by decide) (fun c_1 => ?_) (fun c_1 => ?_)
  · refine lv_iconst (v := 0) hx hb dX1_stand_16 (by decide) ?_
    refine lv_istore_n (lv' := [(2, .int 0), (0, .ref h0), (1, .int v)]) hx hb dX1_stand_17 rfl hl (by decide) rfl (fun ls hl => ?_)
    refine lv_aload_n hx hb dX1_stand_18 rfl (lv_at hl 1 rfl) ?_
    refine lv_iload_n hx hb dX1_stand_19 rfl (lv_at hl 0 rfl) ?_
    refine lv_if_eq (tgt := 32) hx hb dX1_stand_20 (by decide) (fun c_20 => ?_) (fun c_20 => absurd (rfl) c_20)
    refine lv_ldc2 (v := (-1)) hx hb hown (hts (.constantLong RX1 13 (-1)) (by decide +kernel)) dX1_stand_32 ?_
    have hat : none = zs_at ks v := zs_at_neg c_1
    refine zw_eql (y := zk_o (zs_at ks v)) (by rw [← hat]; rfl) ?_
    refine va_put (D := (dC, dI)) (ci := 1) (v := .long (zk_o (zs_at ks v))) (ty := .long) (C := RX1) (T := TX1) (N := 4) hx hb hts (by decide +kernel) tyX1 tyX1_ok nmX1 hown hK hP hD hS 0 rfl rfl 3 (by decide) (hts (.fieldLink RX1 15 "PageIndexModel" "cursor" "J") (by decide +kernel)) (fun _ h9 => h9) rfl (by decide +kernel) rfl rfl (Nat.le_of_ble_eq_true rfl) dX1_stand_35 (fun H locs hP hD hS => ?_)
    have hP : va_P (dC, dI) vwCl (zy_w h0 ha cA f o ks.length (zk_o (zs_at ks v))) H := hP
    have hD : va_D A (zy_w h0 ha cA f o ks.length (zk_o (zs_at ks v))) := hD
    refine lv_iload_n hx hb dX1_stand_38 rfl (lv_at hl 0 rfl) ?_
    refine zw_eqi (y := zb_I (zs_at ks v).isSome) (by rw [← hat]; rfl) ?_
    exact W.zret hx hb hr (zb_nar _) (fun t ht hW => ⟨⟨f, rfl, hG, by rw [ht]; exact hP, va_K.moved hW.alike hK, hD⟩, hS.F ht⟩) hS.2.2 dX1_stand_39
  · refine lv_iload_n hx hb dX1_stand_4 rfl (lv_at hl 1 rfl) ?_
    refine lv_aload_n hx hb dX1_stand_5 rfl (lv_at hl 0 rfl) ?_
    refine va_get (D := (dC, dI)) (ci := 1) (v := .int (nI ks.length)) (C := RX1) (T := TX1) (N := 4) hx hb hts (by decide +kernel) hown hK hP 0 rfl rfl 1 (by decide) (hts (.fieldLink RX1 40 "PageIndexModel" "size" "I") (by decide +kernel)) (fun _ h9 => h9) rfl dX1_stand_6 ?_
    refine lv_icmp_ge (tgt := 16) hx hb dX1_stand_9 (by decide) (fun c_9 => ?_) (fun c_9 => ?_)
    · refine lv_iconst (v := 0) hx hb dX1_stand_16 (by decide) ?_
      refine lv_istore_n (lv' := [(2, .int 0), (0, .ref h0), (1, .int v)]) hx hb dX1_stand_17 rfl hl (by decide) rfl (fun ls hl => ?_)
      refine lv_aload_n hx hb dX1_stand_18 rfl (lv_at hl 1 rfl) ?_
      refine lv_iload_n hx hb dX1_stand_19 rfl (lv_at hl 0 rfl) ?_
      refine lv_if_eq (tgt := 32) hx hb dX1_stand_20 (by decide) (fun c_20 => ?_) (fun c_20 => absurd (rfl) c_20)
      refine lv_ldc2 (v := (-1)) hx hb hown (hts (.constantLong RX1 13 (-1)) (by decide +kernel)) dX1_stand_32 ?_
      have hat : none = zs_at ks v := zs_at_out c_1 c_9 hG.2.2.1
      refine zw_eql (y := zk_o (zs_at ks v)) (by rw [← hat]; rfl) ?_
      refine va_put (D := (dC, dI)) (ci := 1) (v := .long (zk_o (zs_at ks v))) (ty := .long) (C := RX1) (T := TX1) (N := 4) hx hb hts (by decide +kernel) tyX1 tyX1_ok nmX1 hown hK hP hD hS 0 rfl rfl 3 (by decide) (hts (.fieldLink RX1 15 "PageIndexModel" "cursor" "J") (by decide +kernel)) (fun _ h9 => h9) rfl (by decide +kernel) rfl rfl (Nat.le_of_ble_eq_true rfl) dX1_stand_35 (fun H locs hP hD hS => ?_)
      have hP : va_P (dC, dI) vwCl (zy_w h0 ha cA f o ks.length (zk_o (zs_at ks v))) H := hP
      have hD : va_D A (zy_w h0 ha cA f o ks.length (zk_o (zs_at ks v))) := hD
      refine lv_iload_n hx hb dX1_stand_38 rfl (lv_at hl 0 rfl) ?_
      refine zw_eqi (y := zb_I (zs_at ks v).isSome) (by rw [← hat]; rfl) ?_
      exact W.zret hx hb hr (zb_nar _) (fun t ht hW => ⟨⟨f, rfl, hG, by rw [ht]; exact hP, va_K.moved hW.alike hK, hD⟩, hS.F ht⟩) hS.2.2 dX1_stand_39
    · obtain ⟨j, hj, ej, -⟩ := pk_mu c_1 c_9 (by have q := hG.2.2.1; omega)
      refine lv_iconst (v := 1) hx hb dX1_stand_12 (by decide) ?_
      refine lv_goto (tgt := 17) hx hb dX1_stand_13 (by decide) ?_
      refine lv_istore_n (lv' := [(2, .int 1), (0, .ref h0), (1, .int v)]) hx hb dX1_stand_17 rfl hl (by decide) rfl (fun ls hl => ?_)
      refine lv_aload_n hx hb dX1_stand_18 rfl (lv_at hl 1 rfl) ?_
      refine lv_iload_n hx hb dX1_stand_19 rfl (lv_at hl 0 rfl) ?_
      refine lv_if_eq (tgt := 32) hx hb dX1_stand_20 (by decide) (fun c_20 => absurd c_20 (by decide)) (fun c_20 => ?_)
      refine lv_aload_n hx hb dX1_stand_23 rfl (lv_at hl 1 rfl) ?_
      refine va_get (D := (dC, dI)) (ci := 1) (v := .ref ha) (C := RX1) (T := TX1) (N := 4) hx hb hts (by decide +kernel) hown hK hP 0 rfl rfl 0 (by decide) (hts (.fieldLink RX1 7 "PageIndexModel" "keys" "[J") (by decide +kernel)) (fun _ h9 => h9) rfl dX1_stand_24 ?_
      refine lv_iload_n hx hb dX1_stand_27 rfl (lv_at hl 2 rfl) ?_
      refine va_lald hx hb hK hP 1 0 rfl rfl (pk_in j 20000 (by have q := hG.2.2.1; omega) ej (by omega)) dX1_stand_28 ?_
      refine zw_eql (y := lN (ks.getD j 0)) (by rw [ej, nI_clamp (by have q := hG.2.2.1; omega)]; exact hG.2.2.2 _ hj) ?_
      refine lv_goto (tgt := 35) hx hb dX1_stand_29 (by decide) ?_
      have hat : some (ks.getD j 0) = zs_at ks v := zs_at_in ej hj hG.2.2.1
      refine zw_eql (y := zk_o (zs_at ks v)) (by rw [← hat]; rfl) ?_
      refine va_put (D := (dC, dI)) (ci := 1) (v := .long (zk_o (zs_at ks v))) (ty := .long) (C := RX1) (T := TX1) (N := 4) hx hb hts (by decide +kernel) tyX1 tyX1_ok nmX1 hown hK hP hD hS 0 rfl rfl 3 (by decide) (hts (.fieldLink RX1 15 "PageIndexModel" "cursor" "J") (by decide +kernel)) (fun _ h9 => h9) rfl (by decide +kernel) rfl rfl (Nat.le_of_ble_eq_true rfl) dX1_stand_35 (fun H locs hP hD hS => ?_)
      have hP : va_P (dC, dI) vwCl (zy_w h0 ha cA f o ks.length (zk_o (zs_at ks v))) H := hP
      have hD : va_D A (zy_w h0 ha cA f o ks.length (zk_o (zs_at ks v))) := hD
      refine lv_iload_n hx hb dX1_stand_38 rfl (lv_at hl 0 rfl) ?_
      refine zw_eqi (y := zb_I (zs_at ks v).isSome) (by rw [← hat]; rfl) ?_
      exact W.zret hx hb hr (zb_nar _) (fun t ht hW => ⟨⟨f, rfl, hG, by rw [ht]; exact hP, va_K.moved hW.alike hK, hD⟩, hS.F ht⟩) hS.2.2 dX1_stand_39
set_option maxHeartbeats 4000000 in
set_option maxRecDepth 100000 in
/-- choose(v) -/
theorem zd_choose (l : Launch) (dC : Nat → ClassId) (dI : Nat → Nat → Nat) (h0 ha : Nat) (cA : ClassId) (f : Nat → Int64) (o : Nat) (ks : List Nat) (cur : Int64) (sz : Nat) (v : Int32) (hG : zk_R ks f) : Met l yX1_choose wsX1_choose ({ frames := 1, cells := 0, slots := 0, locals := 22 }) (zw_Pw [.ref h0, .int v] (dC, dI) vwCl (zy_w h0 ha cA f o ks.length cur) [(cA, .long)] sz) (zy_Q dC dI h0 ha cA o (some (.int (zb_I (zs_at ks v).isSome))) (ks) (zk_o (zs_at ks v)) (va_A (zy_w h0 ha cA f o ks.length cur) sz)) 0 0 (va_A (zy_w h0 ha cA f o ks.length cur) sz) := by
  refine Met.ofW (cc := cX1_choose) (maxL := 2) (ret := (some .boolean)) (by decide) rfl ?_
  intro p e s m args below meth c s₁ B hml hv
  obtain ⟨rfl, hsz, hP, hK, hD0⟩ := hv
  have hx := B.exec
  have hb := B.bytes
  have hr := B.returns
  have hts := atoms_spec (ws := wsX1_choose) B.pre
  have hown : s.vm.findClass RX1 = some m.cls := findClass_of_methodNamed B.named
  subst hsz
  have hD := hD0.self (sz := s.heap.size)
  generalize hAe : va_A (zy_w h0 ha cA f o ks.length cur) s.heap.size = A at hD ⊢
  have hA : ∀ q : Nat, s.heap.size ≤ q → A q := fun q h => by rw [← hAe]; exact Or.inr h
  have hS : va_S A s.heap s.heap [] := va_S.rf
  have hP : va_P (dC, dI) vwCl (zy_w h0 ha cA f o ks.length cur) s.heap := hP
  have hl := lv_entry ([.ref h0, .int v]) (n := 2) (Nat.le_of_ble_eq_true rfl)
  rw [lg_entry_eq]
  generalize (lg_sl ([.ref h0, .int v]) ++ List.replicate (2 - (lg_sl ([.ref h0, .int v])).length) Slot.unset).toArray = ls at hl ⊢
  have hl : lv_has ls 2 [(0, .ref h0), (1, .int v)] := hl
  refine lv_aload_n hx hb dX1_choose_0 rfl (lv_at hl 0 rfl) ?_
  refine lv_iload_n hx hb dX1_choose_1 rfl (lv_at hl 1 rfl) ?_
  refine zw_callw (ws := zy_w h0 ha cA f o ks.length cur) (wc := zy_w h0 ha cA f o ks.length cur) (wr := []) (va_runV (As := [.int v]) (rest := []) ⟨hx, hb, hml, hown, hts⟩ (zd_stand l dC dI h0 ha cA f o ks cur s.heap.size v hG) (cwV 1 hts gX1_choose_X1_stand rfl rfl rfl (by decide +kernel) ⟨Nat.le_of_ble_eq_true rfl, Nat.le_of_ble_eq_true rfl⟩) (zw_preWV (ci := 1) (q0 := 0) hP hK hD rfl rfl) rfl rfl hl.1 rfl (lv_room (Nat.le_of_ble_eq_true rfl)) dX1_choose_2 ⟨Nat.le_of_ble_eq_true rfl, Nat.le_of_ble_eq_true rfl⟩) hP hD hS hA [0, 1] [] rfl rfl (by decide) (by decide) (fun u H locs hu hP hD hK hS => ?_)
  have hP : va_P (dC, dI) vwCl (zy_w h0 ha cA u o ks.length (zk_o (zs_at ks v))) H := hP
  have hD : va_D A (zy_w h0 ha cA u o ks.length (zk_o (zs_at ks v))) := hD
  refine W.eq (g2 := F0 m 5 ls (.int (zb_I (zs_at ks v).isSome) :: [])) rfl ?_
  exact W.zret hx hb hr (zb_nar _) (fun t ht hW => ⟨⟨u, rfl, hu, by rw [ht]; exact hP, va_K.moved hW.alike hK, hD⟩, hS.F ht⟩) hS.2.2 dX1_choose_5
set_option maxHeartbeats 4000000 in
set_option maxRecDepth 100000 in
/-- seek(a, b, d) -/
theorem zd_seek (l : Launch) (dC : Nat → ClassId) (dI : Nat → Nat → Nat) (h0 ha : Nat) (cA : ClassId) (f : Nat → Int64) (o : Nat) (ks : List Nat) (cur : Int64) (sz : Nat) (a : Int32) (b : Int32) (d : Int32) (k : Nat) (hk : zf_nn a b d = true → zf_pk (Int32.toInt64 a) (Int32.toInt64 b) (Int32.toInt64 d) = lN k ∧ k < 1152921504606846976) (hG : zk_R ks f) : Met l yX1_seek wsX1_seek ({ frames := 2, cells := 0, slots := 0, locals := 43 }) (zw_Pw [.ref h0, .int a, .int b, .int d] (dC, dI) vwCl (zy_w h0 ha cA f o ks.length cur) [(cA, .long)] sz) (zy_Q dC dI h0 ha cA o (some (.int (cond (zf_nn a b d) (zb_I (zs_at ks (nI (zk_c ks k))).isSome) 0))) (ks) (cond (zf_nn a b d) (zk_o (zs_at ks (nI (zk_c ks k)))) cur) (va_A (zy_w h0 ha cA f o ks.length cur) sz)) 0 0 (va_A (zy_w h0 ha cA f o ks.length cur) sz) := by
  refine Met.ofW (cc := cX1_seek) (maxL := 4) (ret := (some .boolean)) (by decide) rfl ?_
  intro p e s m args below meth c s₁ B hml hv
  obtain ⟨rfl, hsz, hP, hK, hD0⟩ := hv
  have hx := B.exec
  have hb := B.bytes
  have hr := B.returns
  have hts := atoms_spec (ws := wsX1_seek) B.pre
  have hown : s.vm.findClass RX1 = some m.cls := findClass_of_methodNamed B.named
  subst hsz
  have hD := hD0.self (sz := s.heap.size)
  generalize hAe : va_A (zy_w h0 ha cA f o ks.length cur) s.heap.size = A at hD ⊢
  have hA : ∀ q : Nat, s.heap.size ≤ q → A q := fun q h => by rw [← hAe]; exact Or.inr h
  have hS : va_S A s.heap s.heap [] := va_S.rf
  have hP : va_P (dC, dI) vwCl (zy_w h0 ha cA f o ks.length cur) s.heap := hP
  have hl := lv_entry ([.ref h0, .int a, .int b, .int d]) (n := 4) (Nat.le_of_ble_eq_true rfl)
  rw [lg_entry_eq]
  generalize (lg_sl ([.ref h0, .int a, .int b, .int d]) ++ List.replicate (4 - (lg_sl ([.ref h0, .int a, .int b, .int d])).length) Slot.unset).toArray = ls at hl ⊢
  have hl : lv_has ls 4 [(0, .ref h0), (1, .int a), (2, .int b), (3, .int d)] := hl
  cases hz : zf_nn a b d with
  | false =>
    refine lv_iconst (v := 3) hx hb dX1_seek_0 (by decide) ?_
    refine lv_iload_n hx hb dX1_seek_1 rfl (lv_at hl 1 rfl) ?_
    refine lv_iload_n hx hb dX1_seek_2 rfl (lv_at hl 2 rfl) ?_
    refine lv_iload_n hx hb dX1_seek_3 rfl (lv_at hl 3 rfl) ?_
    refine zw_ci (va_runS (As := [.int 3, .int a, .int b, .int d]) (rest := []) ⟨hx, hb, hml, hown, hts⟩ (zd_areNumbers l 3 a b d) (va_cwS 4 hts gX1_seek_X1_areNumbers rfl rfl rfl (by decide +kernel) ⟨Nat.le_of_ble_eq_true rfl, Nat.le_of_ble_eq_true rfl⟩) (preEq) rfl rfl hl.1 rfl (lv_room (Nat.le_of_ble_eq_true rfl)) dX1_seek_4 ⟨Nat.zero_le _, Nat.zero_le _⟩) ?_
    refine zw_eqi (y := zb_I (zf_nn a b d)) (by rw [zf_fn3]) ?_
    refine zw_ifeq (tgt := 34) hx hb dX1_seek_7 (by decide) (fun c_7 => ?_) (fun c_7 => absurd ((hz).symm.trans c_7) (by decide))
    refine lv_iconst (v := 0) hx hb dX1_seek_34 (by decide) ?_
    refine zw_eqi (y := zb_I false) rfl ?_
    exact W.zret hx hb hr (zb_nar _) (fun t ht hW => ⟨⟨f, rfl, hG, by rw [ht]; exact hP, va_K.moved hW.alike hK, hD⟩, hS.F ht⟩) hS.2.2 dX1_seek_35
  | true =>
    refine lv_iconst (v := 3) hx hb dX1_seek_0 (by decide) ?_
    refine lv_iload_n hx hb dX1_seek_1 rfl (lv_at hl 1 rfl) ?_
    refine lv_iload_n hx hb dX1_seek_2 rfl (lv_at hl 2 rfl) ?_
    refine lv_iload_n hx hb dX1_seek_3 rfl (lv_at hl 3 rfl) ?_
    refine zw_ci (va_runS (As := [.int 3, .int a, .int b, .int d]) (rest := []) ⟨hx, hb, hml, hown, hts⟩ (zd_areNumbers l 3 a b d) (va_cwS 4 hts gX1_seek_X1_areNumbers rfl rfl rfl (by decide +kernel) ⟨Nat.le_of_ble_eq_true rfl, Nat.le_of_ble_eq_true rfl⟩) (preEq) rfl rfl hl.1 rfl (lv_room (Nat.le_of_ble_eq_true rfl)) dX1_seek_4 ⟨Nat.zero_le _, Nat.zero_le _⟩) ?_
    refine zw_eqi (y := zb_I (zf_nn a b d)) (by rw [zf_fn3]) ?_
    refine zw_ifeq (tgt := 34) hx hb dX1_seek_7 (by decide) (fun c_7 => absurd ((hz).symm.trans c_7) (by decide)) (fun c_7 => ?_)
    refine lv_aload_n hx hb dX1_seek_10 rfl (lv_at hl 0 rfl) ?_
    refine lv_aload_n hx hb dX1_seek_11 rfl (lv_at hl 0 rfl) ?_
    refine lv_iload_n hx hb dX1_seek_12 rfl (lv_at hl 1 rfl) ?_
    refine lv_i2l (v := Int32.toInt64 a) hx hb dX1_seek_13 rfl ?_
    refine lv_iload_n hx hb dX1_seek_14 rfl (lv_at hl 2 rfl) ?_
    refine lv_i2l (v := Int32.toInt64 b) hx hb dX1_seek_15 rfl ?_
    refine lv_iload_n hx hb dX1_seek_16 rfl (lv_at hl 3 rfl) ?_
    refine lv_i2l (v := Int32.toInt64 d) hx hb dX1_seek_17 rfl ?_
    refine zw_cl (va_runS (As := [.long (Int32.toInt64 a), .long (Int32.toInt64 b), .long (Int32.toInt64 d)]) (rest := [.ref h0, .ref h0]) ⟨hx, hb, hml, hown, hts⟩ (zd_packed l (Int32.toInt64 a) (Int32.toInt64 b) (Int32.toInt64 d)) (va_cwS 3 hts gX1_seek_X1_packed rfl rfl rfl (by decide +kernel) ⟨Nat.le_of_ble_eq_true rfl, Nat.le_of_ble_eq_true rfl⟩) (preEq) rfl rfl hl.1 rfl (lv_room (Nat.le_of_ble_eq_true rfl)) dX1_seek_18 ⟨Nat.zero_le _, Nat.zero_le _⟩) ?_
    refine zw_eql (y := lN k) ((hk hz).1) ?_
    refine zw_ci (va_runV (As := [.long (lN k)]) (rest := [.ref h0]) ⟨hx, hb, hml, hown, hts⟩ (zd_below l dC dI h0 ha cA f o ks cur k (Nat.le_of_lt (hk hz).2) hG) (cwV 1 hts gX1_seek_X1_below rfl rfl rfl (by decide +kernel) ⟨Nat.le_of_ble_eq_true rfl, Nat.le_of_ble_eq_true rfl⟩) (zw_preV (ci := 1) (q0 := 0) hP hK rfl rfl) rfl rfl hl.1 rfl (lv_room (Nat.le_of_ble_eq_true rfl)) dX1_seek_21 ⟨Nat.zero_le _, Nat.zero_le _⟩) ?_
    refine zw_callw (ws := zy_w h0 ha cA f o ks.length cur) (wc := zy_w h0 ha cA f o ks.length cur) (wr := []) (va_runV (As := [.int (nI (zk_c ks k))]) (rest := []) ⟨hx, hb, hml, hown, hts⟩ (zd_stand l dC dI h0 ha cA f o ks cur s.heap.size (nI (zk_c ks k)) hG) (cwV 1 hts gX1_seek_X1_stand rfl rfl rfl (by decide +kernel) ⟨Nat.le_of_ble_eq_true rfl, Nat.le_of_ble_eq_true rfl⟩) (zw_preWV (ci := 1) (q0 := 0) hP hK hD rfl rfl) rfl rfl hl.1 rfl (lv_room (Nat.le_of_ble_eq_true rfl)) dX1_seek_24 ⟨Nat.le_of_ble_eq_true rfl, Nat.le_of_ble_eq_true rfl⟩) hP hD hS hA [0, 1] [] rfl rfl (by decide) (by decide) (fun u H locs hu hP hD hK hS => ?_)
    have hP : va_P (dC, dI) vwCl (zy_w h0 ha cA u o ks.length (zk_o (zs_at ks (nI (zk_c ks k))))) H := hP
    have hD : va_D A (zy_w h0 ha cA u o ks.length (zk_o (zs_at ks (nI (zk_c ks k))))) := hD
    refine W.eq (g2 := F0 m 27 ls (.int (zb_I (zs_at ks (nI (zk_c ks k))).isSome) :: [])) rfl ?_
    refine zw_ifeq (tgt := 34) hx hb dX1_seek_27 (by decide) (fun c_27 => ?_) (fun c_27 => ?_)
    · refine lv_iconst (v := 0) hx hb dX1_seek_34 (by decide) ?_
      refine zw_eqi (y := zb_I (zs_at ks (nI (zk_c ks k))).isSome) (by rw [c_27]; rfl) ?_
      exact W.zret hx hb hr (zb_nar _) (fun t ht hW => ⟨⟨u, rfl, hu, by rw [ht]; exact hP, va_K.moved hW.alike hK, hD⟩, hS.F ht⟩) hS.2.2 dX1_seek_35
    · refine lv_iconst (v := 1) hx hb dX1_seek_30 (by decide) ?_
      refine lv_goto (tgt := 35) hx hb dX1_seek_31 (by decide) ?_
      refine zw_eqi (y := zb_I (zs_at ks (nI (zk_c ks k))).isSome) (by rw [c_27]; rfl) ?_
      exact W.zret hx hb hr (zb_nar _) (fun t ht hW => ⟨⟨u, rfl, hu, by rw [ht]; exact hP, va_K.moved hW.alike hK, hD⟩, hS.F ht⟩) hS.2.2 dX1_seek_35
set_option maxHeartbeats 4000000 in
set_option maxRecDepth 100000 in
/-- next() -/
theorem zd_next (l : Launch) (dC : Nat → ClassId) (dI : Nat → Nat → Nat) (h0 ha : Nat) (cA : ClassId) (f : Nat → Int64) (o : Nat) (ks : List Nat) (cur : Int64) (sz : Nat) (oc : Option Nat) (hoc : ∀ z, oc = some z → z < 1152921504606846976) (ec : cur = zk_o oc) (hG : zk_R ks f) : Met l yX1_next wsX1_next ({ frames := 1, cells := 0, slots := 0, locals := 23 }) (zw_Pw [.ref h0] (dC, dI) vwCl (zy_w h0 ha cA f o ks.length cur) [(cA, .long)] sz) (zy_Q dC dI h0 ha cA o (some (.int (zb_I (zs_at ks (nI (zk_c ks (zk_nx oc)))).isSome))) (ks) (zk_o (zs_at ks (nI (zk_c ks (zk_nx oc))))) (va_A (zy_w h0 ha cA f o ks.length cur) sz)) 0 0 (va_A (zy_w h0 ha cA f o ks.length cur) sz) := by
  refine Met.ofW (cc := cX1_next) (maxL := 1) (ret := (some .boolean)) (by decide) rfl ?_
  intro p e s m args below meth c s₁ B hml hv
  obtain ⟨rfl, hsz, hP, hK, hD0⟩ := hv
  have hx := B.exec
  have hb := B.bytes
  have hr := B.returns
  have hts := atoms_spec (ws := wsX1_next) B.pre
  have hown : s.vm.findClass RX1 = some m.cls := findClass_of_methodNamed B.named
  subst hsz
  have hD := hD0.self (sz := s.heap.size)
  generalize hAe : va_A (zy_w h0 ha cA f o ks.length cur) s.heap.size = A at hD ⊢
  have hA : ∀ q : Nat, s.heap.size ≤ q → A q := fun q h => by rw [← hAe]; exact Or.inr h
  have hS : va_S A s.heap s.heap [] := va_S.rf
  have hP : va_P (dC, dI) vwCl (zy_w h0 ha cA f o ks.length cur) s.heap := hP
  have hl := lv_entry ([.ref h0]) (n := 1) (Nat.le_of_ble_eq_true rfl)
  rw [lg_entry_eq]
  generalize (lg_sl ([.ref h0]) ++ List.replicate (1 - (lg_sl ([.ref h0])).length) Slot.unset).toArray = ls at hl ⊢
  have hl : lv_has ls 1 [(0, .ref h0)] := hl
  refine lv_aload_n hx hb dX1_next_0 rfl (lv_at hl 0 rfl) ?_
  refine lv_aload_n hx hb dX1_next_1 rfl (lv_at hl 0 rfl) ?_
  refine lv_aload_n hx hb dX1_next_2 rfl (lv_at hl 0 rfl) ?_
  refine va_get (D := (dC, dI)) (ci := 1) (v := .long cur) (C := RX1) (T := TX1) (N := 4) hx hb hts (by decide +kernel) hown hK hP 0 rfl rfl 3 (by decide) (hts (.fieldLink RX1 15 "PageIndexModel" "cursor" "J") (by decide +kernel)) (fun _ h9 => h9) rfl dX1_next_3 ?_
  refine lv_lconst (v := 1) hx hb dX1_next_6 (by decide) ?_
  refine lv_ladd hx hb dX1_next_7 ?_
  refine zw_eql (y := lN (zk_nx oc)) (by rw [ec]; exact zk_o_succ oc) ?_
  refine zw_ci (va_runV (As := [.long (lN (zk_nx oc))]) (rest := [.ref h0]) ⟨hx, hb, hml, hown, hts⟩ (zd_below l dC dI h0 ha cA f o ks cur (zk_nx oc) (zk_nx_le hoc) hG) (cwV 1 hts gX1_next_X1_below rfl rfl rfl (by decide +kernel) ⟨Nat.le_of_ble_eq_true rfl, Nat.le_of_ble_eq_true rfl⟩) (zw_preV (ci := 1) (q0 := 0) hP hK rfl rfl) rfl rfl hl.1 rfl (lv_room (Nat.le_of_ble_eq_true rfl)) dX1_next_8 ⟨Nat.zero_le _, Nat.zero_le _⟩) ?_
  refine zw_callw (ws := zy_w h0 ha cA f o ks.length cur) (wc := zy_w h0 ha cA f o ks.length cur) (wr := []) (va_runV (As := [.int (nI (zk_c ks (zk_nx oc)))]) (rest := []) ⟨hx, hb, hml, hown, hts⟩ (zd_stand l dC dI h0 ha cA f o ks cur s.heap.size (nI (zk_c ks (zk_nx oc))) hG) (cwV 1 hts gX1_next_X1_stand rfl rfl rfl (by decide +kernel) ⟨Nat.le_of_ble_eq_true rfl, Nat.le_of_ble_eq_true rfl⟩) (zw_preWV (ci := 1) (q0 := 0) hP hK hD rfl rfl) rfl rfl hl.1 rfl (lv_room (Nat.le_of_ble_eq_true rfl)) dX1_next_11 ⟨Nat.le_of_ble_eq_true rfl, Nat.le_of_ble_eq_true rfl⟩) hP hD hS hA [0, 1] [] rfl rfl (by decide) (by decide) (fun u H locs hu hP hD hK hS => ?_)
  have hP : va_P (dC, dI) vwCl (zy_w h0 ha cA u o ks.length (zk_o (zs_at ks (nI (zk_c ks (zk_nx oc)))))) H := hP
  have hD : va_D A (zy_w h0 ha cA u o ks.length (zk_o (zs_at ks (nI (zk_c ks (zk_nx oc)))))) := hD
  refine W.eq (g2 := F0 m 14 ls (.int (zb_I (zs_at ks (nI (zk_c ks (zk_nx oc)))).isSome) :: [])) rfl ?_
  exact W.zret hx hb hr (zb_nar _) (fun t ht hW => ⟨⟨u, rfl, hu, by rw [ht]; exact hP, va_K.moved hW.alike hK, hD⟩, hS.F ht⟩) hS.2.2 dX1_next_14
set_option maxHeartbeats 4000000 in
set_option maxRecDepth 100000 in
/-- previous() -/
theorem zd_previous (l : Launch) (dC : Nat → ClassId) (dI : Nat → Nat → Nat) (h0 ha : Nat) (cA : ClassId) (f : Nat → Int64) (o : Nat) (ks : List Nat) (cur : Int64) (sz : Nat) (oc : Option Nat) (hoc : ∀ z, oc = some z → z < 1152921504606846976) (ec : cur = zk_o oc) (hG : zk_R ks f) : Met l yX1_previous wsX1_previous ({ frames := 1, cells := 0, slots := 0, locals := 23 }) (zw_Pw [.ref h0] (dC, dI) vwCl (zy_w h0 ha cA f o ks.length cur) [(cA, .long)] sz) (zy_Q dC dI h0 ha cA o (some (.int (zb_I (zs_at ks (nI (zk_pv ks oc) - 1)).isSome))) (ks) (zk_o (zs_at ks (nI (zk_pv ks oc) - 1))) (va_A (zy_w h0 ha cA f o ks.length cur) sz)) 0 0 (va_A (zy_w h0 ha cA f o ks.length cur) sz) := by
  refine Met.ofW (cc := cX1_previous) (maxL := 1) (ret := (some .boolean)) (by decide) rfl ?_
  intro p e s m args below meth c s₁ B hml hv
  obtain ⟨rfl, hsz, hP, hK, hD0⟩ := hv
  have hx := B.exec
  have hb := B.bytes
  have hr := B.returns
  have hts := atoms_spec (ws := wsX1_previous) B.pre
  have hown : s.vm.findClass RX1 = some m.cls := findClass_of_methodNamed B.named
  subst hsz
  have hD := hD0.self (sz := s.heap.size)
  generalize hAe : va_A (zy_w h0 ha cA f o ks.length cur) s.heap.size = A at hD ⊢
  have hA : ∀ q : Nat, s.heap.size ≤ q → A q := fun q h => by rw [← hAe]; exact Or.inr h
  have hS : va_S A s.heap s.heap [] := va_S.rf
  have hP : va_P (dC, dI) vwCl (zy_w h0 ha cA f o ks.length cur) s.heap := hP
  have hl := lv_entry ([.ref h0]) (n := 1) (Nat.le_of_ble_eq_true rfl)
  rw [lg_entry_eq]
  generalize (lg_sl ([.ref h0]) ++ List.replicate (1 - (lg_sl ([.ref h0])).length) Slot.unset).toArray = ls at hl ⊢
  have hl : lv_has ls 1 [(0, .ref h0)] := hl
  cases oc with
  | none =>
    refine lv_aload_n hx hb dX1_previous_0 rfl (lv_at hl 0 rfl) ?_
    refine lv_aload_n hx hb dX1_previous_1 rfl (lv_at hl 0 rfl) ?_
    refine va_get (D := (dC, dI)) (ci := 1) (v := .long cur) (C := RX1) (T := TX1) (N := 4) hx hb hts (by decide +kernel) hown hK hP 0 rfl rfl 3 (by decide) (hts (.fieldLink RX1 15 "PageIndexModel" "cursor" "J") (by decide +kernel)) (fun _ h9 => h9) rfl dX1_previous_2 ?_
    refine lv_ldc2 (v := (-1)) hx hb hown (hts (.constantLong RX1 13 (-1)) (by decide +kernel)) dX1_previous_5 ?_
    refine W.lcmp hx hb dX1_previous_8 ?_
    refine lv_if_ne (tgt := 21) hx hb dX1_previous_9 (by decide) (fun c_9 => absurd ((lg_cmp_eq _ _).mpr ec) c_9) (fun c_9 => ?_)
    refine lv_aload_n hx hb dX1_previous_12 rfl (lv_at hl 0 rfl) ?_
    refine va_get (D := (dC, dI)) (ci := 1) (v := .int (nI ks.length)) (C := RX1) (T := TX1) (N := 4) hx hb hts (by decide +kernel) hown hK hP 0 rfl rfl 1 (by decide) (hts (.fieldLink RX1 40 "PageIndexModel" "size" "I") (by decide +kernel)) (fun _ h9 => h9) rfl dX1_previous_13 ?_
    refine lv_iconst (v := 1) hx hb dX1_previous_16 (by decide) ?_
    refine lv_isub hx hb dX1_previous_17 ?_
    refine lv_goto (tgt := 31) hx hb dX1_previous_18 (by decide) ?_
    refine zw_callw (ws := zy_w h0 ha cA f o ks.length cur) (wc := zy_w h0 ha cA f o ks.length cur) (wr := []) (va_runV (As := [.int ((nI ks.length) - 1)]) (rest := []) ⟨hx, hb, hml, hown, hts⟩ (zd_stand l dC dI h0 ha cA f o ks cur s.heap.size ((nI ks.length) - 1) hG) (cwV 1 hts gX1_previous_X1_stand rfl rfl rfl (by decide +kernel) ⟨Nat.le_of_ble_eq_true rfl, Nat.le_of_ble_eq_true rfl⟩) (zw_preWV (ci := 1) (q0 := 0) hP hK hD rfl rfl) rfl rfl hl.1 rfl (lv_room (Nat.le_of_ble_eq_true rfl)) dX1_previous_31 ⟨Nat.le_of_ble_eq_true rfl, Nat.le_of_ble_eq_true rfl⟩) hP hD hS hA [0, 1] [] rfl rfl (by decide) (by decide) (fun u H locs hu hP hD hK hS => ?_)
    have hP : va_P (dC, dI) vwCl (zy_w h0 ha cA u o ks.length (zk_o (zs_at ks ((nI ks.length) - 1)))) H := hP
    have hD : va_D A (zy_w h0 ha cA u o ks.length (zk_o (zs_at ks ((nI ks.length) - 1)))) := hD
    refine W.eq (g2 := F0 m 34 ls (.int (zb_I (zs_at ks ((nI ks.length) - 1)).isSome) :: [])) rfl ?_
    exact W.zret hx hb hr (zb_nar _) (fun t ht hW => ⟨⟨u, rfl, hu, by rw [ht]; exact hP, va_K.moved hW.alike hK, hD⟩, hS.F ht⟩) hS.2.2 dX1_previous_34
  | some z =>
    refine lv_aload_n hx hb dX1_previous_0 rfl (lv_at hl 0 rfl) ?_
    refine lv_aload_n hx hb dX1_previous_1 rfl (lv_at hl 0 rfl) ?_
    refine va_get (D := (dC, dI)) (ci := 1) (v := .long cur) (C := RX1) (T := TX1) (N := 4) hx hb hts (by decide +kernel) hown hK hP 0 rfl rfl 3 (by decide) (hts (.fieldLink RX1 15 "PageIndexModel" "cursor" "J") (by decide +kernel)) (fun _ h9 => h9) rfl dX1_previous_2 ?_
    refine lv_ldc2 (v := (-1)) hx hb hown (hts (.constantLong RX1 13 (-1)) (by decide +kernel)) dX1_previous_5 ?_
    refine W.lcmp hx hb dX1_previous_8 ?_
    refine lv_if_ne (tgt := 21) hx hb dX1_previous_9 (by decide) (fun c_9 => ?_) (fun c_9 => absurd c_9 (fun q => zk_o_ne (hoc z rfl) (ec.symm.trans ((lg_cmp_eq _ _).mp q))))
    refine lv_aload_n hx hb dX1_previous_21 rfl (lv_at hl 0 rfl) ?_
    refine lv_aload_n hx hb dX1_previous_22 rfl (lv_at hl 0 rfl) ?_
    refine va_get (D := (dC, dI)) (ci := 1) (v := .long cur) (C := RX1) (T := TX1) (N := 4) hx hb hts (by decide +kernel) hown hK hP 0 rfl rfl 3 (by decide) (hts (.fieldLink RX1 15 "PageIndexModel" "cursor" "J") (by decide +kernel)) (fun _ h9 => h9) rfl dX1_previous_23 ?_
    refine zw_eql (y := lN z) (ec) ?_
    refine zw_ci (va_runV (As := [.long (lN z)]) (rest := [.ref h0]) ⟨hx, hb, hml, hown, hts⟩ (zd_below l dC dI h0 ha cA f o ks cur z (Nat.le_of_lt (hoc z rfl)) hG) (cwV 1 hts gX1_previous_X1_below rfl rfl rfl (by decide +kernel) ⟨Nat.le_of_ble_eq_true rfl, Nat.le_of_ble_eq_true rfl⟩) (zw_preV (ci := 1) (q0 := 0) hP hK rfl rfl) rfl rfl hl.1 rfl (lv_room (Nat.le_of_ble_eq_true rfl)) dX1_previous_26 ⟨Nat.zero_le _, Nat.zero_le _⟩) ?_
    refine lv_iconst (v := 1) hx hb dX1_previous_29 (by decide) ?_
    refine lv_isub hx hb dX1_previous_30 ?_
    refine zw_callw (ws := zy_w h0 ha cA f o ks.length cur) (wc := zy_w h0 ha cA f o ks.length cur) (wr := []) (va_runV (As := [.int ((nI (zk_c ks z)) - 1)]) (rest := []) ⟨hx, hb, hml, hown, hts⟩ (zd_stand l dC dI h0 ha cA f o ks cur s.heap.size ((nI (zk_c ks z)) - 1) hG) (cwV 1 hts gX1_previous_X1_stand rfl rfl rfl (by decide +kernel) ⟨Nat.le_of_ble_eq_true rfl, Nat.le_of_ble_eq_true rfl⟩) (zw_preWV (ci := 1) (q0 := 0) hP hK hD rfl rfl) rfl rfl hl.1 rfl (lv_room (Nat.le_of_ble_eq_true rfl)) dX1_previous_31 ⟨Nat.le_of_ble_eq_true rfl, Nat.le_of_ble_eq_true rfl⟩) hP hD hS hA [0, 1] [] rfl rfl (by decide) (by decide) (fun u H locs hu hP hD hK hS => ?_)
    have hP : va_P (dC, dI) vwCl (zy_w h0 ha cA u o ks.length (zk_o (zs_at ks ((nI (zk_c ks z)) - 1)))) H := hP
    have hD : va_D A (zy_w h0 ha cA u o ks.length (zk_o (zs_at ks ((nI (zk_c ks z)) - 1)))) := hD
    refine W.eq (g2 := F0 m 34 ls (.int (zb_I (zs_at ks ((nI (zk_c ks z)) - 1)).isSome) :: [])) rfl ?_
    exact W.zret hx hb hr (zb_nar _) (fun t ht hW => ⟨⟨u, rfl, hu, by rw [ht]; exact hP, va_K.moved hW.alike hK, hD⟩, hS.F ht⟩) hS.2.2 dX1_previous_34
end
section
set_option maxHeartbeats 4000000 in
set_option maxRecDepth 100000 in
/-- take(C) -/
theorem zd_take (l : Launch) (dC : Nat → ClassId) (dI : Nat → Nat → Nat) (h0 ha : Nat) (cA : ClassId) (f : Nat → Int64) (o : Nat) (ks : List Nat) (cur : Int64) (sz : Nat) (C : Nat) (hC : C < ks.length) (hG : zk_R ks f) : Met l yX1_take wsX1_take ({ frames := 0, cells := 0, slots := 0, locals := 0 }) (zw_Pw [.ref h0, .int (nI C)] (dC, dI) vwCl (zy_w h0 ha cA f o ks.length cur) [(cA, .long)] sz) (zy_Q dC dI h0 ha cA o (none) (zk_del ks C (C + 1)) (cur) (va_A (zy_w h0 ha cA f o ks.length cur) sz)) 0 0 (va_A (zy_w h0 ha cA f o ks.length cur) sz) := by
  refine Met.ofW (cc := cX1_take) (maxL := 3) (ret := none) (by decide) rfl ?_
  intro p e s m args below meth c s₁ B hml hv
  obtain ⟨rfl, hsz, hP, hK, hD0⟩ := hv
  have hx := B.exec
  have hb := B.bytes
  have hr := B.returns
  have hts := atoms_spec (ws := wsX1_take) B.pre
  have hown : s.vm.findClass RX1 = some m.cls := findClass_of_methodNamed B.named
  subst hsz
  have hD := hD0.self (sz := s.heap.size)
  generalize hAe : va_A (zy_w h0 ha cA f o ks.length cur) s.heap.size = A at hD ⊢
  have hA : ∀ q : Nat, s.heap.size ≤ q → A q := fun q h => by rw [← hAe]; exact Or.inr h
  have hS : va_S A s.heap s.heap [] := va_S.rf
  have hP : va_P (dC, dI) vwCl (zy_w h0 ha cA f o ks.length cur) s.heap := hP
  have hl := lv_entry ([.ref h0, .int (nI C)]) (n := 3) (Nat.le_of_ble_eq_true rfl)
  rw [lg_entry_eq]
  generalize (lg_sl ([.ref h0, .int (nI C)]) ++ List.replicate (3 - (lg_sl ([.ref h0, .int (nI C)])).length) Slot.unset).toArray = ls at hl ⊢
  have hl : lv_has ls 3 [(0, .ref h0), (1, .int (nI C))] := hl
  have hn3 := hG.2.2.1
  refine lv_aload_n hx hb dX1_take_0 rfl (lv_at hl 0 rfl) ?_
  refine lv_dup hx hb dX1_take_1 rfl ?_
  refine va_get (D := (dC, dI)) (ci := 1) (v := .int (nI ks.length)) (C := RX1) (T := TX1) (N := 4) hx hb hts (by decide +kernel) hown hK hP 0 rfl rfl 1 (by decide) (hts (.fieldLink RX1 40 "PageIndexModel" "size" "I") (by decide +kernel)) (fun _ h9 => h9) rfl dX1_take_2 ?_
  refine lv_iconst (v := 1) hx hb dX1_take_5 (by decide) ?_
  refine lv_isub hx hb dX1_take_6 ?_
  refine zw_eqi (y := nI (ks.length - 1)) (pk_sub (b := 1) (by omega)) ?_
  refine va_put (D := (dC, dI)) (ci := 1) (v := .int (nI (ks.length - 1))) (ty := .int) (C := RX1) (T := TX1) (N := 4) hx hb hts (by decide +kernel) tyX1 tyX1_ok nmX1 hown hK hP hD hS 0 rfl rfl 1 (by decide) (hts (.fieldLink RX1 40 "PageIndexModel" "size" "I") (by decide +kernel)) (fun _ h9 => h9) rfl (by decide +kernel) rfl rfl (Nat.le_of_ble_eq_true rfl) dX1_take_7 (fun H locs hP hD hS => ?_)
  have hP : va_P (dC, dI) vwCl (zy_w h0 ha cA f o ((ks.length - 1)) cur) H := hP
  have hD : va_D A (zy_w h0 ha cA f o ((ks.length - 1)) cur) := hD
  refine lv_iload_n hx hb dX1_take_10 rfl (lv_at hl 1 rfl) ?_
  refine lv_istore_n (lv' := [(2, .int (nI C)), (0, .ref h0), (1, .int (nI C))]) hx hb dX1_take_11 rfl hl (by decide) rfl (fun ls hl => ?_)
  have LOOP : ∀ (r i : Nat), C ≤ i → i + r = ks.length - 1 → ∀ (H : Heap) (locs : List Loc), va_P (dC, dI) vwCl (zy_w h0 ha cA (va_cpy f f (C + 1) C (i - C)) o (ks.length - 1) cur) H → va_D A (zy_w h0 ha cA (va_cpy f f (C + 1) C (i - C)) o (ks.length - 1) cur) → va_S A s.heap H locs → ∀ ls : Array Slot, lv_has ls 3 [(2, .int (nI i)), (0, .ref h0)] → W p l e (headSpec wsX1_take ({ frames := 0, cells := 0, slots := 0, locals := 0 })).room s m [.ref h0, .int (nI C)].toArray below meth c H locs 0 0 (MQ below (zy_Q dC dI h0 ha cA o (none) (zk_del ks C (C + 1)) (cur) A) [.ref h0, .int (nI C)].toArray s 0 0 A) (F0 m 12 ls []) := by
    intro r
    induction r with
    | zero =>
      intro i h0i h1 H locs hP hD hS ls hl
      rw [show i - C = ks.length - (C + 1) by omega, show ks.length - 1 = (zk_del ks C (C + 1)).length by rw [zk_del_len (Nat.le_succ _) hC]; omega] at hP hD
      refine lv_iload_n hx hb dX1_take_12 rfl (lv_at hl 0 rfl) ?_
      refine lv_aload_n hx hb dX1_take_13 rfl (lv_at hl 1 rfl) ?_
      refine va_get (D := (dC, dI)) (ci := 1) (v := .int (nI ((zk_del ks C (C + 1)).length))) (C := RX1) (T := TX1) (N := 4) hx hb hts (by decide +kernel) hown hK hP 0 rfl rfl 1 (by decide) (hts (.fieldLink RX1 40 "PageIndexModel" "size" "I") (by decide +kernel)) (fun _ h9 => h9) rfl dX1_take_14 ?_
      refine lv_icmp_ge (tgt := 40) hx hb dX1_take_17 (by decide) (fun c_17 => ?_) (fun c_17 => absurd (nI_le (by rw [zk_del_len (Nat.le_succ _) hC]; omega) (by omega)) c_17)
      exact W.vret hx hb hr (fun t ht hW => ⟨⟨va_cpy f f (C + 1) C (ks.length - (C + 1)), rfl, zk_R_del hG (Nat.le_succ _) hC, by rw [ht]; exact hP, va_K.moved hW.alike hK, hD⟩, hS.F ht⟩) hS.2.2 dX1_take_40
    | succ r ih =>
      intro i h0i h1 H locs hP hD hS ls hl
      refine lv_iload_n hx hb dX1_take_12 rfl (lv_at hl 0 rfl) ?_
      refine lv_aload_n hx hb dX1_take_13 rfl (lv_at hl 1 rfl) ?_
      refine va_get (D := (dC, dI)) (ci := 1) (v := .int (nI (ks.length - 1))) (C := RX1) (T := TX1) (N := 4) hx hb hts (by decide +kernel) hown hK hP 0 rfl rfl 1 (by decide) (hts (.fieldLink RX1 40 "PageIndexModel" "size" "I") (by decide +kernel)) (fun _ h9 => h9) rfl dX1_take_14 ?_
      refine lv_icmp_ge (tgt := 40) hx hb dX1_take_17 (by decide) (fun c_17 => absurd c_17 (nI_ge (by omega) (by omega))) (fun c_17 => ?_)
      refine lv_aload_n hx hb dX1_take_20 rfl (lv_at hl 1 rfl) ?_
      refine va_get (D := (dC, dI)) (ci := 1) (v := .ref ha) (C := RX1) (T := TX1) (N := 4) hx hb hts (by decide +kernel) hown hK hP 0 rfl rfl 0 (by decide) (hts (.fieldLink RX1 7 "PageIndexModel" "keys" "[J") (by decide +kernel)) (fun _ h9 => h9) rfl dX1_take_21 ?_
      refine lv_iload_n hx hb dX1_take_24 rfl (lv_at hl 0 rfl) ?_
      refine lv_aload_n hx hb dX1_take_25 rfl (lv_at hl 1 rfl) ?_
      refine va_get (D := (dC, dI)) (ci := 1) (v := .ref ha) (C := RX1) (T := TX1) (N := 4) hx hb hts (by decide +kernel) hown hK hP 0 rfl rfl 0 (by decide) (hts (.fieldLink RX1 7 "PageIndexModel" "keys" "[J") (by decide +kernel)) (fun _ h9 => h9) rfl dX1_take_26 ?_
      refine lv_iload_n hx hb dX1_take_29 rfl (lv_at hl 0 rfl) ?_
      refine lv_iconst (v := 1) hx hb dX1_take_30 (by decide) ?_
      refine lv_iadd hx hb dX1_take_31 ?_
      refine zw_eqi (y := nI (i + 1)) (nI_1 _) ?_
      refine va_lald hx hb hK hP 1 0 rfl rfl (pk_in (i + 1) 20000 (by omega) rfl (by omega)) dX1_take_32 ?_
      refine zw_eql (y := va_cpy f f (C + 1) C (i - C) (i + 1)) (by rw [nI_clamp (by omega)]) ?_
      refine va_last hx hb hK hP hD hS 1 0 rfl rfl (pk_in i 20000 (by omega) rfl (by omega)) dX1_take_33 (fun H locs hP hD hS => ?_)
      rw [nI_clamp (n := i) (by omega), zk_down h0i] at hP hD
      have hP : va_P (dC, dI) vwCl (zy_w h0 ha cA (va_cpy f f (C + 1) C (i + 1 - C)) o (ks.length - 1) cur) H := hP
      have hD : va_D A (zy_w h0 ha cA (va_cpy f f (C + 1) C (i + 1 - C)) o (ks.length - 1) cur) := hD
      refine lv_iinc (v := nI (i + 1)) (lv' := [(2, .int (nI (i + 1))), (0, .ref h0)]) hx hb dX1_take_34 hl (k := 0) rfl (nI_1 _) (by decide) rfl (fun ls hl => ?_)
      refine lv_goto (tgt := 12) hx hb dX1_take_37 (by decide) ?_
      exact ih (i + 1) (by omega) (by omega) H locs hP hD hS ls (lv_sub hl [0, 1] rfl)
  have hP : va_P (dC, dI) vwCl (zy_w h0 ha cA (va_cpy f f (C + 1) C (C - C)) o (ks.length - 1) cur) H := by rw [Nat.sub_self, zk_cpy0]; exact hP
  have hD : va_D A (zy_w h0 ha cA (va_cpy f f (C + 1) C (C - C)) o (ks.length - 1) cur) := by rw [Nat.sub_self, zk_cpy0]; exact hD
  exact LOOP (ks.length - 1 - C) C (Nat.le_refl _) (by omega) H locs hP hD hS ls (lv_sub hl [0, 1] rfl)
set_option maxHeartbeats 4000000 in
set_option maxRecDepth 100000 in
/-- remove(x, y, z) -/
theorem zd_remove (l : Launch) (dC : Nat → ClassId) (dI : Nat → Nat → Nat) (h0 ha : Nat) (cA : ClassId) (f : Nat → Int64) (o : Nat) (ks : List Nat) (cur : Int64) (sz : Nat) (x : Int32) (y : Int32) (z : Int32) (ho : o < 6) (k : Nat) (hk : zf_nn x y z = true → zf_ky o x y z = lN k ∧ k < 1152921504606846976) (hG : zk_R ks f) : Met l yX1_remove wsX1_remove ({ frames := 2, cells := 0, slots := 0, locals := 48 }) (zw_Pw [.ref h0, .int x, .int y, .int z] (dC, dI) vwCl (zy_w h0 ha cA f o ks.length cur) [(cA, .long)] sz) (zy_Q dC dI h0 ha cA o (some (.int (cond (zf_nn x y z) (cond (decide (k ∈ ks)) 1 0) (-1)))) (cond (zf_nn x y z) (cond (decide (k ∈ ks)) (zk_del ks (zk_c ks k) (zk_c ks k + 1)) ks) ks) (cur) (va_A (zy_w h0 ha cA f o ks.length cur) sz)) 0 0 (va_A (zy_w h0 ha cA f o ks.length cur) sz) := by
  refine Met.ofW (cc := cX1_remove) (maxL := 7) (ret := (some .int)) (by decide) rfl ?_
  intro p e s m args below meth c s₁ B hml hv
  obtain ⟨rfl, hsz, hP, hK, hD0⟩ := hv
  have hx := B.exec
  have hb := B.bytes
  have hr := B.returns
  have hts := atoms_spec (ws := wsX1_remove) B.pre
  have hown : s.vm.findClass RX1 = some m.cls := findClass_of_methodNamed B.named
  subst hsz
  have hD := hD0.self (sz := s.heap.size)
  generalize hAe : va_A (zy_w h0 ha cA f o ks.length cur) s.heap.size = A at hD ⊢
  have hA : ∀ q : Nat, s.heap.size ≤ q → A q := fun q h => by rw [← hAe]; exact Or.inr h
  have hS : va_S A s.heap s.heap [] := va_S.rf
  have hP : va_P (dC, dI) vwCl (zy_w h0 ha cA f o ks.length cur) s.heap := hP
  have hl := lv_entry ([.ref h0, .int x, .int y, .int z]) (n := 7) (Nat.le_of_ble_eq_true rfl)
  rw [lg_entry_eq]
  generalize (lg_sl ([.ref h0, .int x, .int y, .int z]) ++ List.replicate (7 - (lg_sl ([.ref h0, .int x, .int y, .int z])).length) Slot.unset).toArray = ls at hl ⊢
  have hl : lv_has ls 7 [(0, .ref h0), (1, .int x), (2, .int y), (3, .int z)] := hl
  cases hz : zf_nn x y z with
  | false =>
    refine lv_iconst (v := 3) hx hb dX1_remove_0 (by decide) ?_
    refine lv_iload_n hx hb dX1_remove_1 rfl (lv_at hl 1 rfl) ?_
    refine lv_iload_n hx hb dX1_remove_2 rfl (lv_at hl 2 rfl) ?_
    refine lv_iload_n hx hb dX1_remove_3 rfl (lv_at hl 3 rfl) ?_
    refine zw_ci (va_runS (As := [.int 3, .int x, .int y, .int z]) (rest := []) ⟨hx, hb, hml, hown, hts⟩ (zd_areNumbers l 3 x y z) (va_cwS 4 hts gX1_remove_X1_areNumbers rfl rfl rfl (by decide +kernel) ⟨Nat.le_of_ble_eq_true rfl, Nat.le_of_ble_eq_true rfl⟩) (preEq) rfl rfl hl.1 rfl (lv_room (Nat.le_of_ble_eq_true rfl)) dX1_remove_4 ⟨Nat.zero_le _, Nat.zero_le _⟩) ?_
    refine zw_eqi (y := zb_I (zf_nn x y z)) (by rw [zf_fn3]) ?_
    refine zw_ifne (tgt := 12) hx hb dX1_remove_7 (by decide) (fun c_7 => absurd ((hz).symm.trans c_7) (by decide)) (fun c_7 => ?_)
    refine lv_iconst (v := (-1)) hx hb dX1_remove_10 (by decide) ?_
    exact W.iret hx hb hr (fun t ht hW => ⟨⟨f, rfl, hG, by rw [ht]; exact hP, va_K.moved hW.alike hK, hD⟩, hS.F ht⟩) hS.2.2 dX1_remove_11
  | true =>
    cases hm : decide (k ∈ ks) with
    | false =>
      refine lv_iconst (v := 3) hx hb dX1_remove_0 (by decide) ?_
      refine lv_iload_n hx hb dX1_remove_1 rfl (lv_at hl 1 rfl) ?_
      refine lv_iload_n hx hb dX1_remove_2 rfl (lv_at hl 2 rfl) ?_
      refine lv_iload_n hx hb dX1_remove_3 rfl (lv_at hl 3 rfl) ?_
      refine zw_ci (va_runS (As := [.int 3, .int x, .int y, .int z]) (rest := []) ⟨hx, hb, hml, hown, hts⟩ (zd_areNumbers l 3 x y z) (va_cwS 4 hts gX1_remove_X1_areNumbers rfl rfl rfl (by decide +kernel) ⟨Nat.le_of_ble_eq_true rfl, Nat.le_of_ble_eq_true rfl⟩) (preEq) rfl rfl hl.1 rfl (lv_room (Nat.le_of_ble_eq_true rfl)) dX1_remove_4 ⟨Nat.zero_le _, Nat.zero_le _⟩) ?_
      refine zw_eqi (y := zb_I (zf_nn x y z)) (by rw [zf_fn3]) ?_
      refine zw_ifne (tgt := 12) hx hb dX1_remove_7 (by decide) (fun c_7 => ?_) (fun c_7 => absurd ((hz).symm.trans c_7) (by decide))
      refine lv_aload_n hx hb dX1_remove_12 rfl (lv_at hl 0 rfl) ?_
      refine lv_iload_n hx hb dX1_remove_13 rfl (lv_at hl 1 rfl) ?_
      refine lv_iload_n hx hb dX1_remove_14 rfl (lv_at hl 2 rfl) ?_
      refine lv_iload_n hx hb dX1_remove_15 rfl (lv_at hl 3 rfl) ?_
      refine zw_cl (va_runV (As := [.int x, .int y, .int z]) (rest := []) ⟨hx, hb, hml, hown, hts⟩ (zd_key l dC dI h0 ha cA f o ks cur x y z ho) (cwV 3 hts gX1_remove_X1_key rfl rfl rfl (by decide +kernel) ⟨Nat.le_of_ble_eq_true rfl, Nat.le_of_ble_eq_true rfl⟩) (zw_preV (ci := 1) (q0 := 0) hP hK rfl rfl) rfl rfl hl.1 rfl (lv_room (Nat.le_of_ble_eq_true rfl)) dX1_remove_16 ⟨Nat.zero_le _, Nat.zero_le _⟩) ?_
      refine zw_eql (y := lN k) ((hk hz).1) ?_
      refine lv_lstore (lv' := [(4, .long (lN k)), (0, .ref h0), (1, .int x), (2, .int y), (3, .int z)]) hx hb dX1_remove_19 hl (by decide) rfl (fun ls hl => ?_)
      refine lv_aload_n hx hb dX1_remove_21 rfl (lv_at hl 1 rfl) ?_
      refine lv_lload hx hb dX1_remove_22 (lv_at hl 0 rfl) ?_
      refine zw_ci (va_runV (As := [.long (lN k)]) (rest := []) ⟨hx, hb, hml, hown, hts⟩ (zd_below l dC dI h0 ha cA f o ks cur k (Nat.le_of_lt (hk hz).2) hG) (cwV 1 hts gX1_remove_X1_below rfl rfl rfl (by decide +kernel) ⟨Nat.le_of_ble_eq_true rfl, Nat.le_of_ble_eq_true rfl⟩) (zw_preV (ci := 1) (q0 := 0) hP hK rfl rfl) rfl rfl hl.1 rfl (lv_room (Nat.le_of_ble_eq_true rfl)) dX1_remove_24 ⟨Nat.zero_le _, Nat.zero_le _⟩) ?_
      refine lv_istore (lv' := [(6, .int (nI (zk_c ks k))), (4, .long (lN k)), (0, .ref h0), (1, .int x), (2, .int y), (3, .int z)]) hx hb dX1_remove_27 hl (by decide) rfl (fun ls hl => ?_)
      refine lv_aload_n hx hb dX1_remove_29 rfl (lv_at hl 2 rfl) ?_
      refine lv_iload hx hb dX1_remove_30 (lv_at hl 0 rfl) ?_
      refine lv_lload hx hb dX1_remove_32 (lv_at hl 1 rfl) ?_
      refine zw_ci (va_runV (As := [.int (nI (zk_c ks k)), .long (lN k)]) (rest := []) ⟨hx, hb, hml, hown, hts⟩ (zd_isThere l dC dI h0 ha cA f o ks cur (zk_c ks k) k (zk_c_le ks k) (Nat.le_of_lt (hk hz).2) hG) (cwV 2 hts gX1_remove_X1_isThere rfl rfl rfl (by decide +kernel) ⟨Nat.le_of_ble_eq_true rfl, Nat.le_of_ble_eq_true rfl⟩) (zw_preV (ci := 1) (q0 := 0) hP hK rfl rfl) rfl rfl hl.1 rfl (lv_room (Nat.le_of_ble_eq_true rfl)) dX1_remove_34 ⟨Nat.zero_le _, Nat.zero_le _⟩) ?_
      refine zw_eqi (y := zb_I (decide (k ∈ ks))) (by rw [zk_mem_b hG.1]) ?_
      refine zw_ifne (tgt := 42) hx hb dX1_remove_37 (by decide) (fun c_37 => absurd ((hm).symm.trans c_37) (by decide)) (fun c_37 => ?_)
      refine lv_iconst (v := 0) hx hb dX1_remove_40 (by decide) ?_
      exact W.iret hx hb hr (fun t ht hW => ⟨⟨f, rfl, hG, by rw [ht]; exact hP, va_K.moved hW.alike hK, hD⟩, hS.F ht⟩) hS.2.2 dX1_remove_41
    | true =>
      have hc1 := ((zk_mem_iff hG.1).mp (of_decide_eq_true hm)).1
      refine lv_iconst (v := 3) hx hb dX1_remove_0 (by decide) ?_
      refine lv_iload_n hx hb dX1_remove_1 rfl (lv_at hl 1 rfl) ?_
      refine lv_iload_n hx hb dX1_remove_2 rfl (lv_at hl 2 rfl) ?_
      refine lv_iload_n hx hb dX1_remove_3 rfl (lv_at hl 3 rfl) ?_
      refine zw_ci (va_runS (As := [.int 3, .int x, .int y, .int z]) (rest := []) ⟨hx, hb, hml, hown, hts⟩ (zd_areNumbers l 3 x y z) (va_cwS 4 hts gX1_remove_X1_areNumbers rfl rfl rfl (by decide +kernel) ⟨Nat.le_of_ble_eq_true rfl, Nat.le_of_ble_eq_true rfl⟩) (preEq) rfl rfl hl.1 rfl (lv_room (Nat.le_of_ble_eq_true rfl)) dX1_remove_4 ⟨Nat.zero_le _, Nat.zero_le _⟩) ?_
      refine zw_eqi (y := zb_I (zf_nn x y z)) (by rw [zf_fn3]) ?_
      refine zw_ifne (tgt := 12) hx hb dX1_remove_7 (by decide) (fun c_7 => ?_) (fun c_7 => absurd ((hz).symm.trans c_7) (by decide))
      refine lv_aload_n hx hb dX1_remove_12 rfl (lv_at hl 0 rfl) ?_
      refine lv_iload_n hx hb dX1_remove_13 rfl (lv_at hl 1 rfl) ?_
      refine lv_iload_n hx hb dX1_remove_14 rfl (lv_at hl 2 rfl) ?_
      refine lv_iload_n hx hb dX1_remove_15 rfl (lv_at hl 3 rfl) ?_
      refine zw_cl (va_runV (As := [.int x, .int y, .int z]) (rest := []) ⟨hx, hb, hml, hown, hts⟩ (zd_key l dC dI h0 ha cA f o ks cur x y z ho) (cwV 3 hts gX1_remove_X1_key rfl rfl rfl (by decide +kernel) ⟨Nat.le_of_ble_eq_true rfl, Nat.le_of_ble_eq_true rfl⟩) (zw_preV (ci := 1) (q0 := 0) hP hK rfl rfl) rfl rfl hl.1 rfl (lv_room (Nat.le_of_ble_eq_true rfl)) dX1_remove_16 ⟨Nat.zero_le _, Nat.zero_le _⟩) ?_
      refine zw_eql (y := lN k) ((hk hz).1) ?_
      refine lv_lstore (lv' := [(4, .long (lN k)), (0, .ref h0), (1, .int x), (2, .int y), (3, .int z)]) hx hb dX1_remove_19 hl (by decide) rfl (fun ls hl => ?_)
      refine lv_aload_n hx hb dX1_remove_21 rfl (lv_at hl 1 rfl) ?_
      refine lv_lload hx hb dX1_remove_22 (lv_at hl 0 rfl) ?_
      refine zw_ci (va_runV (As := [.long (lN k)]) (rest := []) ⟨hx, hb, hml, hown, hts⟩ (zd_below l dC dI h0 ha cA f o ks cur k (Nat.le_of_lt (hk hz).2) hG) (cwV 1 hts gX1_remove_X1_below rfl rfl rfl (by decide +kernel) ⟨Nat.le_of_ble_eq_true rfl, Nat.le_of_ble_eq_true rfl⟩) (zw_preV (ci := 1) (q0 := 0) hP hK rfl rfl) rfl rfl hl.1 rfl (lv_room (Nat.le_of_ble_eq_true rfl)) dX1_remove_24 ⟨Nat.zero_le _, Nat.zero_le _⟩) ?_
      refine lv_istore (lv' := [(6, .int (nI (zk_c ks k))), (4, .long (lN k)), (0, .ref h0), (1, .int x), (2, .int y), (3, .int z)]) hx hb dX1_remove_27 hl (by decide) rfl (fun ls hl => ?_)
      refine lv_aload_n hx hb dX1_remove_29 rfl (lv_at hl 2 rfl) ?_
      refine lv_iload hx hb dX1_remove_30 (lv_at hl 0 rfl) ?_
      refine lv_lload hx hb dX1_remove_32 (lv_at hl 1 rfl) ?_
      refine zw_ci (va_runV (As := [.int (nI (zk_c ks k)), .long (lN k)]) (rest := []) ⟨hx, hb, hml, hown, hts⟩ (zd_isThere l dC dI h0 ha cA f o ks cur (zk_c ks k) k (zk_c_le ks k) (Nat.le_of_lt (hk hz).2) hG) (cwV 2 hts gX1_remove_X1_isThere rfl rfl rfl (by decide +kernel) ⟨Nat.le_of_ble_eq_true rfl, Nat.le_of_ble_eq_true rfl⟩) (zw_preV (ci := 1) (q0 := 0) hP hK rfl rfl) rfl rfl hl.1 rfl (lv_room (Nat.le_of_ble_eq_true rfl)) dX1_remove_34 ⟨Nat.zero_le _, Nat.zero_le _⟩) ?_
      refine zw_eqi (y := zb_I (decide (k ∈ ks))) (by rw [zk_mem_b hG.1]) ?_
      refine zw_ifne (tgt := 42) hx hb dX1_remove_37 (by decide) (fun c_37 => ?_) (fun c_37 => absurd ((hm).symm.trans c_37) (by decide))
      refine lv_aload_n hx hb dX1_remove_42 rfl (lv_at hl 2 rfl) ?_
      refine lv_iload hx hb dX1_remove_43 (lv_at hl 0 rfl) ?_
      refine zw_callw (ws := zy_w h0 ha cA f o ks.length cur) (wc := zy_w h0 ha cA f o ks.length cur) (wr := []) (va_runV (As := [.int (nI (zk_c ks k))]) (rest := []) ⟨hx, hb, hml, hown, hts⟩ (zd_take l dC dI h0 ha cA f o ks cur s.heap.size (zk_c ks k) hc1 hG) (cwV 1 hts gX1_remove_X1_take rfl rfl rfl (by decide +kernel) ⟨Nat.le_of_ble_eq_true rfl, Nat.le_of_ble_eq_true rfl⟩) (zw_preWV (ci := 1) (q0 := 0) hP hK hD rfl rfl) rfl rfl hl.1 rfl (lv_room (Nat.le_of_ble_eq_true rfl)) dX1_remove_45 ⟨Nat.le_of_ble_eq_true rfl, Nat.le_of_ble_eq_true rfl⟩) hP hD hS hA [0, 1] [] rfl rfl (by decide) (by decide) (fun u H locs hu hP hD hK hS => ?_)
      have hP : va_P (dC, dI) vwCl (zy_w h0 ha cA u o ((zk_del ks (zk_c ks k) (zk_c ks k + 1)).length) cur) H := hP
      have hD : va_D A (zy_w h0 ha cA u o ((zk_del ks (zk_c ks k) (zk_c ks k + 1)).length) cur) := hD
      refine W.eq (g2 := F0 m 48 ls []) rfl ?_
      refine lv_iconst (v := 1) hx hb dX1_remove_48 (by decide) ?_
      exact W.iret hx hb hr (fun t ht hW => ⟨⟨u, rfl, hu, by rw [ht]; exact hP, va_K.moved hW.alike hK, hD⟩, hS.F ht⟩) hS.2.2 dX1_remove_49
set_option maxHeartbeats 4000000 in
set_option maxRecDepth 100000 in
/-- insert(x, y, z) -/
theorem zd_insert (l : Launch) (dC : Nat → ClassId) (dI : Nat → Nat → Nat) (h0 ha : Nat) (cA : ClassId) (f : Nat → Int64) (o : Nat) (ks : List Nat) (cur : Int64) (sz : Nat) (x : Int32) (y : Int32) (z : Int32) (ho : o < 6) (k : Nat) (hk : zf_nn x y z = true → zf_ky o x y z = lN k ∧ k < 1152921504606846976) (hlen : ks.length < 512) (hG : zk_R ks f) : Met l yX1_insert wsX1_insert ({ frames := 2, cells := 0, slots := 0, locals := 48 }) (zw_Pw [.ref h0, .int x, .int y, .int z] (dC, dI) vwCl (zy_w h0 ha cA f o ks.length cur) [(cA, .long)] sz) (zy_Q dC dI h0 ha cA o (some (.int (cond (zf_nn x y z) (cond (decide (k ∈ ks)) 0 1) (-1)))) (cond (zf_nn x y z) (cond (decide (k ∈ ks)) ks (zk_ins ks k)) ks) (cur) (va_A (zy_w h0 ha cA f o ks.length cur) sz)) 0 0 (va_A (zy_w h0 ha cA f o ks.length cur) sz) := by
  refine Met.ofW (cc := cX1_insert) (maxL := 8) (ret := (some .int)) (by decide) rfl ?_
  intro p e s m args below meth c s₁ B hml hv
  obtain ⟨rfl, hsz, hP, hK, hD0⟩ := hv
  have hx := B.exec
  have hb := B.bytes
  have hr := B.returns
  have hts := atoms_spec (ws := wsX1_insert) B.pre
  have hown : s.vm.findClass RX1 = some m.cls := findClass_of_methodNamed B.named
  subst hsz
  have hD := hD0.self (sz := s.heap.size)
  generalize hAe : va_A (zy_w h0 ha cA f o ks.length cur) s.heap.size = A at hD ⊢
  have hA : ∀ q : Nat, s.heap.size ≤ q → A q := fun q h => by rw [← hAe]; exact Or.inr h
  have hS : va_S A s.heap s.heap [] := va_S.rf
  have hP : va_P (dC, dI) vwCl (zy_w h0 ha cA f o ks.length cur) s.heap := hP
  have hl := lv_entry ([.ref h0, .int x, .int y, .int z]) (n := 8) (Nat.le_of_ble_eq_true rfl)
  rw [lg_entry_eq]
  generalize (lg_sl ([.ref h0, .int x, .int y, .int z]) ++ List.replicate (8 - (lg_sl ([.ref h0, .int x, .int y, .int z])).length) Slot.unset).toArray = ls at hl ⊢
  have hl : lv_has ls 8 [(0, .ref h0), (1, .int x), (2, .int y), (3, .int z)] := hl
  cases hz : zf_nn x y z with
  | false =>
    refine lv_iconst (v := 3) hx hb dX1_insert_0 (by decide) ?_
    refine lv_iload_n hx hb dX1_insert_1 rfl (lv_at hl 1 rfl) ?_
    refine lv_iload_n hx hb dX1_insert_2 rfl (lv_at hl 2 rfl) ?_
    refine lv_iload_n hx hb dX1_insert_3 rfl (lv_at hl 3 rfl) ?_
    refine zw_ci (va_runS (As := [.int 3, .int x, .int y, .int z]) (rest := []) ⟨hx, hb, hml, hown, hts⟩ (zd_areNumbers l 3 x y z) (va_cwS 4 hts gX1_insert_X1_areNumbers rfl rfl rfl (by decide +kernel) ⟨Nat.le_of_ble_eq_true rfl, Nat.le_of_ble_eq_true rfl⟩) (preEq) rfl rfl hl.1 rfl (lv_room (Nat.le_of_ble_eq_true rfl)) dX1_insert_4 ⟨Nat.zero_le _, Nat.zero_le _⟩) ?_
    refine zw_eqi (y := zb_I (zf_nn x y z)) (by rw [zf_fn3]) ?_
    refine zw_ifne (tgt := 12) hx hb dX1_insert_7 (by decide) (fun c_7 => absurd ((hz).symm.trans c_7) (by decide)) (fun c_7 => ?_)
    refine lv_iconst (v := (-1)) hx hb dX1_insert_10 (by decide) ?_
    exact W.iret hx hb hr (fun t ht hW => ⟨⟨f, rfl, hG, by rw [ht]; exact hP, va_K.moved hW.alike hK, hD⟩, hS.F ht⟩) hS.2.2 dX1_insert_11
  | true =>
    cases hm : decide (k ∈ ks) with
    | true =>
      refine lv_iconst (v := 3) hx hb dX1_insert_0 (by decide) ?_
      refine lv_iload_n hx hb dX1_insert_1 rfl (lv_at hl 1 rfl) ?_
      refine lv_iload_n hx hb dX1_insert_2 rfl (lv_at hl 2 rfl) ?_
      refine lv_iload_n hx hb dX1_insert_3 rfl (lv_at hl 3 rfl) ?_
      refine zw_ci (va_runS (As := [.int 3, .int x, .int y, .int z]) (rest := []) ⟨hx, hb, hml, hown, hts⟩ (zd_areNumbers l 3 x y z) (va_cwS 4 hts gX1_insert_X1_areNumbers rfl rfl rfl (by decide +kernel) ⟨Nat.le_of_ble_eq_true rfl, Nat.le_of_ble_eq_true rfl⟩) (preEq) rfl rfl hl.1 rfl (lv_room (Nat.le_of_ble_eq_true rfl)) dX1_insert_4 ⟨Nat.zero_le _, Nat.zero_le _⟩) ?_
      refine zw_eqi (y := zb_I (zf_nn x y z)) (by rw [zf_fn3]) ?_
      refine zw_ifne (tgt := 12) hx hb dX1_insert_7 (by decide) (fun c_7 => ?_) (fun c_7 => absurd ((hz).symm.trans c_7) (by decide))
      refine lv_aload_n hx hb dX1_insert_12 rfl (lv_at hl 0 rfl) ?_
      refine lv_iload_n hx hb dX1_insert_13 rfl (lv_at hl 1 rfl) ?_
      refine lv_iload_n hx hb dX1_insert_14 rfl (lv_at hl 2 rfl) ?_
      refine lv_iload_n hx hb dX1_insert_15 rfl (lv_at hl 3 rfl) ?_
      refine zw_cl (va_runV (As := [.int x, .int y, .int z]) (rest := []) ⟨hx, hb, hml, hown, hts⟩ (zd_key l dC dI h0 ha cA f o ks cur x y z ho) (cwV 3 hts gX1_insert_X1_key rfl rfl rfl (by decide +kernel) ⟨Nat.le_of_ble_eq_true rfl, Nat.le_of_ble_eq_true rfl⟩) (zw_preV (ci := 1) (q0 := 0) hP hK rfl rfl) rfl rfl hl.1 rfl (lv_room (Nat.le_of_ble_eq_true rfl)) dX1_insert_16 ⟨Nat.zero_le _, Nat.zero_le _⟩) ?_
      refine zw_eql (y := lN k) ((hk hz).1) ?_
      refine lv_lstore (lv' := [(4, .long (lN k)), (0, .ref h0), (1, .int x), (2, .int y), (3, .int z)]) hx hb dX1_insert_19 hl (by decide) rfl (fun ls hl => ?_)
      refine lv_aload_n hx hb dX1_insert_21 rfl (lv_at hl 1 rfl) ?_
      refine lv_lload hx hb dX1_insert_22 (lv_at hl 0 rfl) ?_
      refine zw_ci (va_runV (As := [.long (lN k)]) (rest := []) ⟨hx, hb, hml, hown, hts⟩ (zd_below l dC dI h0 ha cA f o ks cur k (Nat.le_of_lt (hk hz).2) hG) (cwV 1 hts gX1_insert_X1_below rfl rfl rfl (by decide +kernel) ⟨Nat.le_of_ble_eq_true rfl, Nat.le_of_ble_eq_true rfl⟩) (zw_preV (ci := 1) (q0 := 0) hP hK rfl rfl) rfl rfl hl.1 rfl (lv_room (Nat.le_of_ble_eq_true rfl)) dX1_insert_24 ⟨Nat.zero_le _, Nat.zero_le _⟩) ?_
      refine lv_istore (lv' := [(6, .int (nI (zk_c ks k))), (4, .long (lN k)), (0, .ref h0), (1, .int x), (2, .int y), (3, .int z)]) hx hb dX1_insert_27 hl (by decide) rfl (fun ls hl => ?_)
      refine lv_aload_n hx hb dX1_insert_29 rfl (lv_at hl 2 rfl) ?_
      refine lv_iload hx hb dX1_insert_30 (lv_at hl 0 rfl) ?_
      refine lv_lload hx hb dX1_insert_32 (lv_at hl 1 rfl) ?_
      refine zw_ci (va_runV (As := [.int (nI (zk_c ks k)), .long (lN k)]) (rest := []) ⟨hx, hb, hml, hown, hts⟩ (zd_isThere l dC dI h0 ha cA f o ks cur (zk_c ks k) k (zk_c_le ks k) (Nat.le_of_lt (hk hz).2) hG) (cwV 2 hts gX1_insert_X1_isThere rfl rfl rfl (by decide +kernel) ⟨Nat.le_of_ble_eq_true rfl, Nat.le_of_ble_eq_true rfl⟩) (zw_preV (ci := 1) (q0 := 0) hP hK rfl rfl) rfl rfl hl.1 rfl (lv_room (Nat.le_of_ble_eq_true rfl)) dX1_insert_34 ⟨Nat.zero_le _, Nat.zero_le _⟩) ?_
      refine zw_eqi (y := zb_I (decide (k ∈ ks))) (by rw [zk_mem_b hG.1]) ?_
      refine zw_ifeq (tgt := 42) hx hb dX1_insert_37 (by decide) (fun c_37 => absurd ((hm).symm.trans c_37) (by decide)) (fun c_37 => ?_)
      refine lv_iconst (v := 0) hx hb dX1_insert_40 (by decide) ?_
      exact W.iret hx hb hr (fun t ht hW => ⟨⟨f, rfl, hG, by rw [ht]; exact hP, va_K.moved hW.alike hK, hD⟩, hS.F ht⟩) hS.2.2 dX1_insert_41
    | false =>
      have hkn := of_decide_eq_false hm
      have hn3 := hG.2.2.1
      have hCl := zk_c_le ks k
      generalize hCe : zk_c ks k = C at hCl
      refine lv_iconst (v := 3) hx hb dX1_insert_0 (by decide) ?_
      refine lv_iload_n hx hb dX1_insert_1 rfl (lv_at hl 1 rfl) ?_
      refine lv_iload_n hx hb dX1_insert_2 rfl (lv_at hl 2 rfl) ?_
      refine lv_iload_n hx hb dX1_insert_3 rfl (lv_at hl 3 rfl) ?_
      refine zw_ci (va_runS (As := [.int 3, .int x, .int y, .int z]) (rest := []) ⟨hx, hb, hml, hown, hts⟩ (zd_areNumbers l 3 x y z) (va_cwS 4 hts gX1_insert_X1_areNumbers rfl rfl rfl (by decide +kernel) ⟨Nat.le_of_ble_eq_true rfl, Nat.le_of_ble_eq_true rfl⟩) (preEq) rfl rfl hl.1 rfl (lv_room (Nat.le_of_ble_eq_true rfl)) dX1_insert_4 ⟨Nat.zero_le _, Nat.zero_le _⟩) ?_
      refine zw_eqi (y := zb_I (zf_nn x y z)) (by rw [zf_fn3]) ?_
      refine zw_ifne (tgt := 12) hx hb dX1_insert_7 (by decide) (fun c_7 => ?_) (fun c_7 => absurd ((hz).symm.trans c_7) (by decide))
      refine lv_aload_n hx hb dX1_insert_12 rfl (lv_at hl 0 rfl) ?_
      refine lv_iload_n hx hb dX1_insert_13 rfl (lv_at hl 1 rfl) ?_
      refine lv_iload_n hx hb dX1_insert_14 rfl (lv_at hl 2 rfl) ?_
      refine lv_iload_n hx hb dX1_insert_15 rfl (lv_at hl 3 rfl) ?_
      refine zw_cl (va_runV (As := [.int x, .int y, .int z]) (rest := []) ⟨hx, hb, hml, hown, hts⟩ (zd_key l dC dI h0 ha cA f o ks cur x y z ho) (cwV 3 hts gX1_insert_X1_key rfl rfl rfl (by decide +kernel) ⟨Nat.le_of_ble_eq_true rfl, Nat.le_of_ble_eq_true rfl⟩) (zw_preV (ci := 1) (q0 := 0) hP hK rfl rfl) rfl rfl hl.1 rfl (lv_room (Nat.le_of_ble_eq_true rfl)) dX1_insert_16 ⟨Nat.zero_le _, Nat.zero_le _⟩) ?_
      refine zw_eql (y := lN k) ((hk hz).1) ?_
      refine lv_lstore (lv' := [(4, .long (lN k)), (0, .ref h0), (1, .int x), (2, .int y), (3, .int z)]) hx hb dX1_insert_19 hl (by decide) rfl (fun ls hl => ?_)
      refine lv_aload_n hx hb dX1_insert_21 rfl (lv_at hl 1 rfl) ?_
      refine lv_lload hx hb dX1_insert_22 (lv_at hl 0 rfl) ?_
      refine zw_ci (va_runV (As := [.long (lN k)]) (rest := []) ⟨hx, hb, hml, hown, hts⟩ (zd_below l dC dI h0 ha cA f o ks cur k (Nat.le_of_lt (hk hz).2) hG) (cwV 1 hts gX1_insert_X1_below rfl rfl rfl (by decide +kernel) ⟨Nat.le_of_ble_eq_true rfl, Nat.le_of_ble_eq_true rfl⟩) (zw_preV (ci := 1) (q0 := 0) hP hK rfl rfl) rfl rfl hl.1 rfl (lv_room (Nat.le_of_ble_eq_true rfl)) dX1_insert_24 ⟨Nat.zero_le _, Nat.zero_le _⟩) ?_
      refine zw_eqi (y := nI C) (by rw [hCe]) ?_
      refine lv_istore (lv' := [(6, .int (nI C)), (4, .long (lN k)), (0, .ref h0), (1, .int x), (2, .int y), (3, .int z)]) hx hb dX1_insert_27 hl (by decide) rfl (fun ls hl => ?_)
      refine lv_aload_n hx hb dX1_insert_29 rfl (lv_at hl 2 rfl) ?_
      refine lv_iload hx hb dX1_insert_30 (lv_at hl 0 rfl) ?_
      refine lv_lload hx hb dX1_insert_32 (lv_at hl 1 rfl) ?_
      refine zw_ci (va_runV (As := [.int (nI C), .long (lN k)]) (rest := []) ⟨hx, hb, hml, hown, hts⟩ (zd_isThere l dC dI h0 ha cA f o ks cur C k hCl (Nat.le_of_lt (hk hz).2) hG) (cwV 2 hts gX1_insert_X1_isThere rfl rfl rfl (by decide +kernel) ⟨Nat.le_of_ble_eq_true rfl, Nat.le_of_ble_eq_true rfl⟩) (zw_preV (ci := 1) (q0 := 0) hP hK rfl rfl) rfl rfl hl.1 rfl (lv_room (Nat.le_of_ble_eq_true rfl)) dX1_insert_34 ⟨Nat.zero_le _, Nat.zero_le _⟩) ?_
      refine zw_eqi (y := zb_I (decide (k ∈ ks))) (by rw [← hCe, zk_mem_b hG.1]) ?_
      refine zw_ifeq (tgt := 42) hx hb dX1_insert_37 (by decide) (fun c_37 => ?_) (fun c_37 => absurd ((hm).symm.trans c_37) (by decide))
      refine lv_aload_n hx hb dX1_insert_42 rfl (lv_at hl 2 rfl) ?_
      refine va_get (D := (dC, dI)) (ci := 1) (v := .int (nI ks.length)) (C := RX1) (T := TX1) (N := 4) hx hb hts (by decide +kernel) hown hK hP 0 rfl rfl 1 (by decide) (hts (.fieldLink RX1 40 "PageIndexModel" "size" "I") (by decide +kernel)) (fun _ h9 => h9) rfl dX1_insert_43 ?_
      refine lv_sipush (v := 20000) hx hb dX1_insert_46 (by decide) ?_
      refine lv_icmp_ne (tgt := 55) hx hb dX1_insert_49 (by decide) (fun c_49 => ?_) (fun c_49 => absurd c_49 (fun q => absurd ((nI_eq (b := 20000) (by omega) (by omega)).mp q) (by omega)))
      refine lv_aload_n hx hb dX1_insert_55 rfl (lv_at hl 2 rfl) ?_
      refine va_get (D := (dC, dI)) (ci := 1) (v := .int (nI ks.length)) (C := RX1) (T := TX1) (N := 4) hx hb hts (by decide +kernel) hown hK hP 0 rfl rfl 1 (by decide) (hts (.fieldLink RX1 40 "PageIndexModel" "size" "I") (by decide +kernel)) (fun _ h9 => h9) rfl dX1_insert_56 ?_
      refine lv_istore (lv' := [(7, .int (nI ks.length)), (6, .int (nI C)), (4, .long (lN k)), (0, .ref h0), (1, .int x), (2, .int y), (3, .int z)]) hx hb dX1_insert_59 hl (by decide) rfl (fun ls hl => ?_)
      have LOOP : ∀ (r i : Nat), C + r = i → i ≤ ks.length → ∀ (H : Heap) (locs : List Loc), va_P (dC, dI) vwCl (zy_w h0 ha cA (va_cpy f f i (i + 1) (ks.length - i)) o ks.length cur) H → va_D A (zy_w h0 ha cA (va_cpy f f i (i + 1) (ks.length - i)) o ks.length cur) → va_S A s.heap H locs → ∀ ls : Array Slot, lv_has ls 8 [(7, .int (nI i)), (6, .int (nI C)), (4, .long (lN k)), (0, .ref h0)] → W p l e (headSpec wsX1_insert ({ frames := 2, cells := 0, slots := 0, locals := 48 })).room s m [.ref h0, .int x, .int y, .int z].toArray below meth c H locs 0 0 (MQ below (zy_Q dC dI h0 ha cA o (some (.int (cond true (cond false 0 1) (-1)))) (cond true (cond false ks (zk_ins ks k)) ks) (cur) A) [.ref h0, .int x, .int y, .int z].toArray s 0 0 A) (F0 m 61 ls []) := by
        intro r
        induction r with
        | zero =>
          intro i h1 h2 H locs hP hD hS ls hl
          have ei : i = C := by omega
          subst ei
          refine lv_iload hx hb dX1_insert_61 (lv_at hl 0 rfl) ?_
          refine lv_iload hx hb dX1_insert_63 (lv_at hl 1 rfl) ?_
          refine lv_icmp_le (tgt := 90) hx hb dX1_insert_65 (by decide) (fun c_65 => ?_) (fun c_65 => absurd (nI_le (Nat.le_refl _) (by omega)) c_65)
          refine lv_aload_n hx hb dX1_insert_90 rfl (lv_at hl 3 rfl) ?_
          refine va_get (D := (dC, dI)) (ci := 1) (v := .ref ha) (C := RX1) (T := TX1) (N := 4) hx hb hts (by decide +kernel) hown hK hP 0 rfl rfl 0 (by decide) (hts (.fieldLink RX1 7 "PageIndexModel" "keys" "[J") (by decide +kernel)) (fun _ h9 => h9) rfl dX1_insert_91 ?_
          refine lv_iload hx hb dX1_insert_94 (lv_at hl 1 rfl) ?_
          refine lv_lload hx hb dX1_insert_96 (lv_at hl 2 rfl) ?_
          refine va_last hx hb hK hP hD hS 1 0 rfl rfl (pk_in i 20000 (by omega) rfl (by omega)) dX1_insert_98 (fun H locs hP hD hS => ?_)
          rw [nI_clamp (n := i) (by omega)] at hP hD
          have hP : va_P (dC, dI) vwCl (zy_w h0 ha cA (vp_updL (va_cpy f f i (i + 1) (ks.length - i)) i (lN k)) o ks.length cur) H := hP
          have hD : va_D A (zy_w h0 ha cA (vp_updL (va_cpy f f i (i + 1) (ks.length - i)) i (lN k)) o ks.length cur) := hD
          refine lv_aload_n hx hb dX1_insert_99 rfl (lv_at hl 3 rfl) ?_
          refine lv_dup hx hb dX1_insert_100 rfl ?_
          refine va_get (D := (dC, dI)) (ci := 1) (v := .int (nI ks.length)) (C := RX1) (T := TX1) (N := 4) hx hb hts (by decide +kernel) hown hK hP 0 rfl rfl 1 (by decide) (hts (.fieldLink RX1 40 "PageIndexModel" "size" "I") (by decide +kernel)) (fun _ h9 => h9) rfl dX1_insert_101 ?_
          refine lv_iconst (v := 1) hx hb dX1_insert_104 (by decide) ?_
          refine lv_iadd hx hb dX1_insert_105 ?_
          refine zw_eqi (y := nI (zk_ins ks k).length) (by rw [zk_ins_len]; exact nI_1 _) ?_
          refine va_put (D := (dC, dI)) (ci := 1) (v := .int (nI (zk_ins ks k).length)) (ty := .int) (C := RX1) (T := TX1) (N := 4) hx hb hts (by decide +kernel) tyX1 tyX1_ok nmX1 hown hK hP hD hS 0 rfl rfl 1 (by decide) (hts (.fieldLink RX1 40 "PageIndexModel" "size" "I") (by decide +kernel)) (fun _ h9 => h9) rfl (by decide +kernel) rfl rfl (Nat.le_of_ble_eq_true rfl) dX1_insert_106 (fun H locs hP hD hS => ?_)
          have hP : va_P (dC, dI) vwCl (zy_w h0 ha cA (vp_updL (va_cpy f f i (i + 1) (ks.length - i)) i (lN k)) o ((zk_ins ks k).length) cur) H := hP
          have hD : va_D A (zy_w h0 ha cA (vp_updL (va_cpy f f i (i + 1) (ks.length - i)) i (lN k)) o ((zk_ins ks k).length) cur) := hD
          refine lv_iconst (v := 1) hx hb dX1_insert_109 (by decide) ?_
          exact W.iret hx hb hr (fun t ht hW => ⟨⟨vp_updL (va_cpy f f i (i + 1) (ks.length - i)) i (lN k), rfl, by rw [← hCe]; exact zk_R_ins hG hkn (hk hz).2 (by omega), by rw [ht]; exact hP, va_K.moved hW.alike hK, hD⟩, hS.F ht⟩) hS.2.2 dX1_insert_110
        | succ r ih =>
          intro i h1 h2 H locs hP hD hS ls hl
          refine lv_iload hx hb dX1_insert_61 (lv_at hl 0 rfl) ?_
          refine lv_iload hx hb dX1_insert_63 (lv_at hl 1 rfl) ?_
          refine lv_icmp_le (tgt := 90) hx hb dX1_insert_65 (by decide) (fun c_65 => absurd c_65 (fun q => absurd ((nI_leI (by omega) (by omega)).mp q) (by omega))) (fun c_65 => ?_)
          refine lv_aload_n hx hb dX1_insert_68 rfl (lv_at hl 3 rfl) ?_
          refine va_get (D := (dC, dI)) (ci := 1) (v := .ref ha) (C := RX1) (T := TX1) (N := 4) hx hb hts (by decide +kernel) hown hK hP 0 rfl rfl 0 (by decide) (hts (.fieldLink RX1 7 "PageIndexModel" "keys" "[J") (by decide +kernel)) (fun _ h9 => h9) rfl dX1_insert_69 ?_
          refine lv_iload hx hb dX1_insert_72 (lv_at hl 0 rfl) ?_
          refine lv_aload_n hx hb dX1_insert_74 rfl (lv_at hl 3 rfl) ?_
          refine va_get (D := (dC, dI)) (ci := 1) (v := .ref ha) (C := RX1) (T := TX1) (N := 4) hx hb hts (by decide +kernel) hown hK hP 0 rfl rfl 0 (by decide) (hts (.fieldLink RX1 7 "PageIndexModel" "keys" "[J") (by decide +kernel)) (fun _ h9 => h9) rfl dX1_insert_75 ?_
          refine lv_iload hx hb dX1_insert_78 (lv_at hl 0 rfl) ?_
          refine lv_iconst (v := 1) hx hb dX1_insert_80 (by decide) ?_
          refine lv_isub hx hb dX1_insert_81 ?_
          refine zw_eqi (y := nI (i - 1)) (pk_sub (b := 1) (by omega)) ?_
          refine va_lald hx hb hK hP 1 0 rfl rfl (pk_in (i - 1) 20000 (by omega) rfl (by omega)) dX1_insert_82 ?_
          refine zw_eql (y := va_cpy f f i (i + 1) (ks.length - i) (i - 1)) (by rw [nI_clamp (by omega)]) ?_
          refine va_last hx hb hK hP hD hS 1 0 rfl rfl (pk_in i 20000 (by omega) rfl (by omega)) dX1_insert_83 (fun H locs hP hD hS => ?_)
          rw [nI_clamp (n := i) (by omega), zk_upw (by omega) h2] at hP hD
          have hP : va_P (dC, dI) vwCl (zy_w h0 ha cA (va_cpy f f (i - 1) ((i - 1) + 1) (ks.length - ((i - 1)))) o ks.length cur) H := hP
          have hD : va_D A (zy_w h0 ha cA (va_cpy f f (i - 1) ((i - 1) + 1) (ks.length - ((i - 1)))) o ks.length cur) := hD
          refine lv_iinc (v := nI (i - 1)) (lv' := [(7, .int (nI (i - 1))), (6, .int (nI C)), (4, .long (lN k)), (0, .ref h0)]) hx hb dX1_insert_84 hl (k := 0) rfl (sb_m1 (by omega)) (by decide) rfl (fun ls hl => ?_)
          refine lv_goto (tgt := 61) hx hb dX1_insert_87 (by decide) ?_
          exact ih (i - 1) (by omega) (by omega) H locs hP hD hS ls (lv_sub hl [0, 1, 2, 3] rfl)
      have hP : va_P (dC, dI) vwCl (zy_w h0 ha cA (va_cpy f f ks.length (ks.length + 1) (ks.length - ks.length)) o ks.length cur) s.heap := by rw [Nat.sub_self, zk_cpy0]; exact hP
      have hD : va_D A (zy_w h0 ha cA (va_cpy f f ks.length (ks.length + 1) (ks.length - ks.length)) o ks.length cur) := by rw [Nat.sub_self, zk_cpy0]; exact hD
      exact LOOP (ks.length - C) ks.length (by omega) (Nat.le_refl _) s.heap [] hP hD hS ls (lv_sub hl [0, 1, 2, 3] rfl)
end
section
set_option maxHeartbeats 4000000 in
set_option maxRecDepth 100000 in
/-- cut(v, a, b, d) -/
theorem zd_cut (l : Launch) (dC : Nat → ClassId) (dI : Nat → Nat → Nat) (h0 ha : Nat) (cA : ClassId) (f : Nat → Int64) (o : Nat) (ks : List Nat) (cur : Int64) (sz : Nat) (v : Int32) (a : Int32) (b : Int32) (d : Int32) (hG : zk_R ks f) : Met l yX1_cut wsX1_cut ({ frames := 2, cells := 0, slots := 0, locals := 48 }) (zw_Pw [.ref h0, .int v, .int a, .int b, .int d] (dC, dI) vwCl (zy_w h0 ha cA f o ks.length cur) [(cA, .long)] sz) (zy_Q dC dI h0 ha cA o (some (.int (cond (zs_bad v) (-1) (nI (zk_en ks v a b d) - nI (zk_st ks v a b d))))) (cond (zs_bad v) ks (zk_del ks (zk_st ks v a b d) (zk_en ks v a b d))) (cur) (va_A (zy_w h0 ha cA f o ks.length cur) sz)) 0 0 (va_A (zy_w h0 ha cA f o ks.length cur) sz) := by
  refine Met.ofW (cc := cX1_cut) (maxL := 9) (ret := (some .int)) (by decide) rfl ?_
  intro p e s m args below meth c s₁ B hml hv
  obtain ⟨rfl, hsz, hP, hK, hD0⟩ := hv
  have hx := B.exec
  have hb := B.bytes
  have hr := B.returns
  have hts := atoms_spec (ws := wsX1_cut) B.pre
  have hown : s.vm.findClass RX1 = some m.cls := findClass_of_methodNamed B.named
  subst hsz
  have hD := hD0.self (sz := s.heap.size)
  generalize hAe : va_A (zy_w h0 ha cA f o ks.length cur) s.heap.size = A at hD ⊢
  have hA : ∀ q : Nat, s.heap.size ≤ q → A q := fun q h => by rw [← hAe]; exact Or.inr h
  have hS : va_S A s.heap s.heap [] := va_S.rf
  have hP : va_P (dC, dI) vwCl (zy_w h0 ha cA f o ks.length cur) s.heap := hP
  have hl := lv_entry ([.ref h0, .int v, .int a, .int b, .int d]) (n := 9) (Nat.le_of_ble_eq_true rfl)
  rw [lg_entry_eq]
  generalize (lg_sl ([.ref h0, .int v, .int a, .int b, .int d]) ++ List.replicate (9 - (lg_sl ([.ref h0, .int v, .int a, .int b, .int d])).length) Slot.unset).toArray = ls at hl ⊢
  have hl : lv_has ls 9 [(0, .ref h0), (1, .int v), (2, .int a), (3, .int b), (4, .int d)] := hl
  cases hz : zs_bad v with
  | true =>
    refine lv_iload_n hx hb dX1_cut_0 rfl (lv_at hl 1 rfl) ?_
    refine lv_if_lt (tgt := 9) hx hb dX1_cut_1 (by decide) (fun c_1 => ?_) (fun c_1 => ?_)
    · refine lv_iconst (v := (-1)) hx hb dX1_cut_9 (by decide) ?_
      exact W.iret hx hb hr (fun t ht hW => ⟨⟨f, rfl, hG, by rw [ht]; exact hP, va_K.moved hW.alike hK, hD⟩, hS.F ht⟩) hS.2.2 dX1_cut_10
    · refine lv_iload_n hx hb dX1_cut_4 rfl (lv_at hl 1 rfl) ?_
      refine lv_iconst (v := 3) hx hb dX1_cut_5 (by decide) ?_
      refine lv_icmp_le (tgt := 11) hx hb dX1_cut_6 (by decide) (fun c_6 => ?_) (fun c_6 => ?_)
      · exact absurd hz (by simp [zs_bad, c_1, c_6])
      · refine lv_iconst (v := (-1)) hx hb dX1_cut_9 (by decide) ?_
        exact W.iret hx hb hr (fun t ht hW => ⟨⟨f, rfl, hG, by rw [ht]; exact hP, va_K.moved hW.alike hK, hD⟩, hS.F ht⟩) hS.2.2 dX1_cut_10
  | false =>
    have c1 : ¬ v < 0 := by intro q; simp [zs_bad, q] at hz
    have c6 : v ≤ 3 := by
      rcases Decidable.em (v ≤ 3) with q | q
      · exact q
      · exact absurd hz (by simp [zs_bad, q])
    obtain ⟨i, hi, ev⟩ := nI_of2 (x := v) (M := 3) (n := 3) (by decide) c1 c6
    have hG0 := hG
    obtain ⟨hs, h60, hn, hf⟩ := hG0
    have hse := zk_se hs h60 (i := i) (v := v) (a := a) (b := b) (d := d) hi ev
    have hcv : nI (zk_en ks v a b d) - nI (zk_st ks v a b d) = nI (ks.countP (zk_m i a b d)) := by rw [pk_sub hse.1, hse.2.2.1]
    cases hfn : zf_fn v a b d with
    | false =>
      have hk0 := zk_cut_no h60 hi ev hfn
      refine lv_iload_n hx hb dX1_cut_0 rfl (lv_at hl 1 rfl) ?_
      refine lv_if_lt (tgt := 9) hx hb dX1_cut_1 (by decide) (fun c_1 => absurd c_1 (c1)) (fun c_1 => ?_)
      refine lv_iload_n hx hb dX1_cut_4 rfl (lv_at hl 1 rfl) ?_
      refine lv_iconst (v := 3) hx hb dX1_cut_5 (by decide) ?_
      refine lv_icmp_le (tgt := 11) hx hb dX1_cut_6 (by decide) (fun c_6 => ?_) (fun c_6 => absurd (c6) c_6)
      refine lv_iload_n hx hb dX1_cut_11 rfl (lv_at hl 1 rfl) ?_
      refine lv_iload_n hx hb dX1_cut_12 rfl (lv_at hl 2 rfl) ?_
      refine lv_iload_n hx hb dX1_cut_13 rfl (lv_at hl 3 rfl) ?_
      refine lv_iload hx hb dX1_cut_14 (lv_at hl 4 rfl) ?_
      refine zw_ci (va_runS (As := [.int v, .int a, .int b, .int d]) (rest := []) ⟨hx, hb, hml, hown, hts⟩ (zd_areNumbers l v a b d) (va_cwS 4 hts gX1_cut_X1_areNumbers rfl rfl rfl (by decide +kernel) ⟨Nat.le_of_ble_eq_true rfl, Nat.le_of_ble_eq_true rfl⟩) (preEq) rfl rfl hl.1 rfl (lv_room (Nat.le_of_ble_eq_true rfl)) dX1_cut_16 ⟨Nat.zero_le _, Nat.zero_le _⟩) ?_
      refine zw_ifne (tgt := 24) hx hb dX1_cut_19 (by decide) (fun c_19 => absurd ((hfn).symm.trans c_19) (by decide)) (fun c_19 => ?_)
      refine lv_iconst (v := 0) hx hb dX1_cut_22 (by decide) ?_
      have hP : va_P (dC, dI) vwCl (zy_w h0 ha cA f o (zk_del ks (zk_st ks v a b d) (zk_en ks v a b d)).length cur) s.heap := by rw [show zk_del ks (zk_st ks v a b d) (zk_en ks v a b d) = ks from hse.2.2.2.1.trans hk0.1]; exact hP
      have hD : va_D A (zy_w h0 ha cA f o (zk_del ks (zk_st ks v a b d) (zk_en ks v a b d)).length cur) := by rw [show zk_del ks (zk_st ks v a b d) (zk_en ks v a b d) = ks from hse.2.2.2.1.trans hk0.1]; exact hD
      refine zw_eqi (y := nI (zk_en ks v a b d) - nI (zk_st ks v a b d)) (by rw [hcv, hk0.2]; rfl) ?_
      exact W.iret hx hb hr (fun t ht hW => ⟨⟨f, rfl, by rw [show zk_del ks (zk_st ks v a b d) (zk_en ks v a b d) = ks from hse.2.2.2.1.trans hk0.1]; exact hG, by rw [ht]; exact hP, va_K.moved hW.alike hK, hD⟩, hS.F ht⟩) hS.2.2 dX1_cut_23
    | true =>
      refine lv_iload_n hx hb dX1_cut_0 rfl (lv_at hl 1 rfl) ?_
      refine lv_if_lt (tgt := 9) hx hb dX1_cut_1 (by decide) (fun c_1 => absurd c_1 (c1)) (fun c_1 => ?_)
      refine lv_iload_n hx hb dX1_cut_4 rfl (lv_at hl 1 rfl) ?_
      refine lv_iconst (v := 3) hx hb dX1_cut_5 (by decide) ?_
      refine lv_icmp_le (tgt := 11) hx hb dX1_cut_6 (by decide) (fun c_6 => ?_) (fun c_6 => absurd (c6) c_6)
      refine lv_iload_n hx hb dX1_cut_11 rfl (lv_at hl 1 rfl) ?_
      refine lv_iload_n hx hb dX1_cut_12 rfl (lv_at hl 2 rfl) ?_
      refine lv_iload_n hx hb dX1_cut_13 rfl (lv_at hl 3 rfl) ?_
      refine lv_iload hx hb dX1_cut_14 (lv_at hl 4 rfl) ?_
      refine zw_ci (va_runS (As := [.int v, .int a, .int b, .int d]) (rest := []) ⟨hx, hb, hml, hown, hts⟩ (zd_areNumbers l v a b d) (va_cwS 4 hts gX1_cut_X1_areNumbers rfl rfl rfl (by decide +kernel) ⟨Nat.le_of_ble_eq_true rfl, Nat.le_of_ble_eq_true rfl⟩) (preEq) rfl rfl hl.1 rfl (lv_room (Nat.le_of_ble_eq_true rfl)) dX1_cut_16 ⟨Nat.zero_le _, Nat.zero_le _⟩) ?_
      refine zw_ifne (tgt := 24) hx hb dX1_cut_19 (by decide) (fun c_19 => ?_) (fun c_19 => absurd ((hfn).symm.trans c_19) (by decide))
      refine lv_iload_n hx hb dX1_cut_24 rfl (lv_at hl 1 rfl) ?_
      refine lv_iload_n hx hb dX1_cut_25 rfl (lv_at hl 2 rfl) ?_
      refine lv_iload_n hx hb dX1_cut_26 rfl (lv_at hl 3 rfl) ?_
      refine lv_iload hx hb dX1_cut_27 (lv_at hl 4 rfl) ?_
      refine zw_cl (va_runS (As := [.int v, .int a, .int b, .int d]) (rest := []) ⟨hx, hb, hml, hown, hts⟩ (zd_beginning l v a b d) (va_cwS 4 hts gX1_cut_X1_beginning rfl rfl rfl (by decide +kernel) ⟨Nat.le_of_ble_eq_true rfl, Nat.le_of_ble_eq_true rfl⟩) (preEq) rfl rfl hl.1 rfl (lv_room (Nat.le_of_ble_eq_true rfl)) dX1_cut_29 ⟨Nat.zero_le _, Nat.zero_le _⟩) ?_
      refine lv_lstore (lv' := [(5, .long (zf_bg v a b d)), (0, .ref h0), (1, .int v), (2, .int a), (3, .int b), (4, .int d)]) hx hb dX1_cut_32 hl (by decide) rfl (fun ls hl => ?_)
      refine lv_iconst (v := 0) hx hb dX1_cut_34 (by decide) ?_
      refine zw_eqi (y := nI 0) (nI_0.symm) ?_
      refine lv_istore (lv' := [(7, .int (nI 0)), (5, .long (zf_bg v a b d)), (0, .ref h0), (1, .int v), (2, .int a), (3, .int b), (4, .int d)]) hx hb dX1_cut_35 hl (by decide) rfl (fun ls hl => ?_)
      refine lv_iconst (v := 0) hx hb dX1_cut_37 (by decide) ?_
      refine zw_eqi (y := nI 0) (nI_0.symm) ?_
      refine lv_istore (lv' := [(8, .int (nI 0)), (7, .int (nI 0)), (5, .long (zf_bg v a b d)), (0, .ref h0), (1, .int v), (2, .int a), (3, .int b), (4, .int d)]) hx hb dX1_cut_38 hl (by decide) rfl (fun ls hl => ?_)
      have LOOP : ∀ (r j kp : Nat) (fk : Nat → Int64), j + r = ks.length → zk_cu ks (zk_m i a b d) f fk j kp → ∀ (H : Heap) (locs : List Loc), va_P (dC, dI) vwCl (zy_w h0 ha cA fk o ks.length cur) H → va_D A (zy_w h0 ha cA fk o ks.length cur) → va_S A s.heap H locs → ∀ ls : Array Slot, lv_has ls 9 [(8, .int (nI j)), (7, .int (nI kp)), (5, .long (zf_bg v a b d)), (0, .ref h0), (1, .int v)] → W p l e (headSpec wsX1_cut ({ frames := 2, cells := 0, slots := 0, locals := 48 })).room s m [.ref h0, .int v, .int a, .int b, .int d].toArray below meth c H locs 0 0 (MQ below (zy_Q dC dI h0 ha cA o (some (.int (cond false (-1) (nI (zk_en ks v a b d) - nI (zk_st ks v a b d))))) (cond false ks (zk_del ks (zk_st ks v a b d) (zk_en ks v a b d))) (cur) A) [.ref h0, .int v, .int a, .int b, .int d].toArray s 0 0 A) (F0 m 40 ls []) := by
        intro r
        induction r with
        | zero =>
          intro j kp fk h1 hu H locs hP hD hS ls hl
          have ej : j = ks.length := by omega
          have hce := zk_cu_end hG (ej ▸ hu)
          have hkpj := zk_cu_le hu
          have hde := hse.2.2.2.1
          refine lv_iload hx hb dX1_cut_40 (lv_at hl 0 rfl) ?_
          refine lv_aload_n hx hb dX1_cut_42 rfl (lv_at hl 3 rfl) ?_
          refine va_get (D := (dC, dI)) (ci := 1) (v := .int (nI ks.length)) (C := RX1) (T := TX1) (N := 4) hx hb hts (by decide +kernel) hown hK hP 0 rfl rfl 1 (by decide) (hts (.fieldLink RX1 40 "PageIndexModel" "size" "I") (by decide +kernel)) (fun _ h9 => h9) rfl dX1_cut_43 ?_
          refine lv_icmp_ge (tgt := 92) hx hb dX1_cut_46 (by decide) (fun c_46 => ?_) (fun c_46 => absurd (nI_le (by omega) (by omega)) c_46)
          refine lv_aload_n hx hb dX1_cut_92 rfl (lv_at hl 3 rfl) ?_
          refine va_get (D := (dC, dI)) (ci := 1) (v := .int (nI ks.length)) (C := RX1) (T := TX1) (N := 4) hx hb hts (by decide +kernel) hown hK hP 0 rfl rfl 1 (by decide) (hts (.fieldLink RX1 40 "PageIndexModel" "size" "I") (by decide +kernel)) (fun _ h9 => h9) rfl dX1_cut_93 ?_
          refine lv_iload hx hb dX1_cut_96 (lv_at hl 1 rfl) ?_
          refine lv_isub hx hb dX1_cut_98 ?_
          refine zw_eqi (y := nI (zk_en ks v a b d) - nI (zk_st ks v a b d)) (by rw [hcv, pk_sub (by omega), hce.2.1]) ?_
          refine lv_istore (lv' := [(8, .int (nI (zk_en ks v a b d) - nI (zk_st ks v a b d))), (7, .int (nI kp)), (5, .long (zf_bg v a b d)), (0, .ref h0), (1, .int v)]) hx hb dX1_cut_99 hl (by decide) rfl (fun ls hl => ?_)
          refine lv_aload_n hx hb dX1_cut_101 rfl (lv_at hl 3 rfl) ?_
          refine lv_iload hx hb dX1_cut_102 (lv_at hl 1 rfl) ?_
          refine zw_eqi (y := nI (zk_del ks (zk_st ks v a b d) (zk_en ks v a b d)).length) (by rw [hde, ← hce.1]) ?_
          refine va_put (D := (dC, dI)) (ci := 1) (v := .int (nI (zk_del ks (zk_st ks v a b d) (zk_en ks v a b d)).length)) (ty := .int) (C := RX1) (T := TX1) (N := 4) hx hb hts (by decide +kernel) tyX1 tyX1_ok nmX1 hown hK hP hD hS 0 rfl rfl 1 (by decide) (hts (.fieldLink RX1 40 "PageIndexModel" "size" "I") (by decide +kernel)) (fun _ h9 => h9) rfl (by decide +kernel) rfl rfl (Nat.le_of_ble_eq_true rfl) dX1_cut_104 (fun H locs hP hD hS => ?_)
          have hP : va_P (dC, dI) vwCl (zy_w h0 ha cA fk o ((zk_del ks (zk_st ks v a b d) (zk_en ks v a b d)).length) cur) H := hP
          have hD : va_D A (zy_w h0 ha cA fk o ((zk_del ks (zk_st ks v a b d) (zk_en ks v a b d)).length) cur) := hD
          refine lv_iload hx hb dX1_cut_107 (lv_at hl 0 rfl) ?_
          exact W.iret hx hb hr (fun t ht hW => ⟨⟨fk, rfl, by rw [hde]; exact hce.2.2, by rw [ht]; exact hP, va_K.moved hW.alike hK, hD⟩, hS.F ht⟩) hS.2.2 dX1_cut_109
        | succ r ih =>
          intro j kp fk h1 hu H locs hP hD hS ls hl
          have hjl : j < ks.length := by omega
          have hkb := h60 _ (zk_mem_getD hjl)
          have hfm := zk_fst_m (a := a) (b := b) (d := d) hi (ev ▸ hfn) hkb
          rw [← ev] at hfm
          have hkpj := zk_cu_le hu
          have hfj : fk j = lN (ks.getD j 0) := (hu.2.2 j (Nat.le_refl _)).trans (hf j hjl)
          refine lv_iload hx hb dX1_cut_40 (lv_at hl 0 rfl) ?_
          refine lv_aload_n hx hb dX1_cut_42 rfl (lv_at hl 3 rfl) ?_
          refine va_get (D := (dC, dI)) (ci := 1) (v := .int (nI ks.length)) (C := RX1) (T := TX1) (N := 4) hx hb hts (by decide +kernel) hown hK hP 0 rfl rfl 1 (by decide) (hts (.fieldLink RX1 40 "PageIndexModel" "size" "I") (by decide +kernel)) (fun _ h9 => h9) rfl dX1_cut_43 ?_
          refine lv_icmp_ge (tgt := 92) hx hb dX1_cut_46 (by decide) (fun c_46 => absurd c_46 (nI_ge hjl (by omega))) (fun c_46 => ?_)
          refine lv_aload_n hx hb dX1_cut_49 rfl (lv_at hl 3 rfl) ?_
          refine va_get (D := (dC, dI)) (ci := 1) (v := .ref ha) (C := RX1) (T := TX1) (N := 4) hx hb hts (by decide +kernel) hown hK hP 0 rfl rfl 0 (by decide) (hts (.fieldLink RX1 7 "PageIndexModel" "keys" "[J") (by decide +kernel)) (fun _ h9 => h9) rfl dX1_cut_50 ?_
          refine lv_iload hx hb dX1_cut_53 (lv_at hl 0 rfl) ?_
          refine va_lald hx hb hK hP 1 0 rfl rfl (pk_in j 20000 (by omega) rfl (by omega)) dX1_cut_55 ?_
          refine zw_eql (y := lN (ks.getD j 0)) (by rw [nI_clamp (by omega)]; exact hfj) ?_
          refine lv_iload_n hx hb dX1_cut_56 rfl (lv_at hl 4 rfl) ?_
          refine zw_eqi (y := nI i) (ev) ?_
          refine zw_cl (va_runS (As := [.long (lN (ks.getD j 0)), .int (nI i)]) (rest := []) ⟨hx, hb, hml, hown, hts⟩ (zd_first l (ks.getD j 0) i (hkb) (hi)) (va_cwS 2 hts gX1_cut_X1_first rfl rfl rfl (by decide +kernel) ⟨Nat.le_of_ble_eq_true rfl, Nat.le_of_ble_eq_true rfl⟩) (preEq) rfl rfl hl.1 rfl (lv_room (Nat.le_of_ble_eq_true rfl)) dX1_cut_57 ⟨Nat.zero_le _, Nat.zero_le _⟩) ?_
          refine lv_lload hx hb dX1_cut_60 (lv_at hl 2 rfl) ?_
          refine W.lcmp hx hb dX1_cut_62 ?_
          refine lv_if_ne (tgt := 69) hx hb dX1_cut_63 (by decide) (fun c_63 => ?_) (fun c_63 => ?_)
          · have hmm : zk_m i a b d (ks.getD j 0) = false := by
              cases hq : zk_m i a b d (ks.getD j 0) with
              | false => rfl
              | true => exact absurd ((lg_cmp_eq _ _).mpr (hfm.mpr hq)) c_63
            refine lv_aload_n hx hb dX1_cut_69 rfl (lv_at hl 3 rfl) ?_
            refine va_get (D := (dC, dI)) (ci := 1) (v := .ref ha) (C := RX1) (T := TX1) (N := 4) hx hb hts (by decide +kernel) hown hK hP 0 rfl rfl 0 (by decide) (hts (.fieldLink RX1 7 "PageIndexModel" "keys" "[J") (by decide +kernel)) (fun _ h9 => h9) rfl dX1_cut_70 ?_
            refine lv_iload hx hb dX1_cut_73 (lv_at hl 1 rfl) ?_
            refine lv_aload_n hx hb dX1_cut_75 rfl (lv_at hl 3 rfl) ?_
            refine va_get (D := (dC, dI)) (ci := 1) (v := .ref ha) (C := RX1) (T := TX1) (N := 4) hx hb hts (by decide +kernel) hown hK hP 0 rfl rfl 0 (by decide) (hts (.fieldLink RX1 7 "PageIndexModel" "keys" "[J") (by decide +kernel)) (fun _ h9 => h9) rfl dX1_cut_76 ?_
            refine lv_iload hx hb dX1_cut_79 (lv_at hl 0 rfl) ?_
            refine va_lald hx hb hK hP 1 0 rfl rfl (pk_in j 20000 (by omega) rfl (by omega)) dX1_cut_81 ?_
            refine zw_eql (y := lN (ks.getD j 0)) (by rw [nI_clamp (by omega)]; exact hfj) ?_
            refine va_last hx hb hK hP hD hS 1 0 rfl rfl (pk_in kp 20000 (by omega) rfl (by omega)) dX1_cut_82 (fun H locs hP hD hS => ?_)
            rw [nI_clamp (n := kp) (by omega)] at hP hD
            have hP : va_P (dC, dI) vwCl (zy_w h0 ha cA (vp_updL fk kp (lN (ks.getD j 0))) o ks.length cur) H := hP
            have hD : va_D A (zy_w h0 ha cA (vp_updL fk kp (lN (ks.getD j 0))) o ks.length cur) := hD
            refine lv_iinc (v := nI (kp + 1)) (lv' := [(7, .int (nI (kp + 1))), (8, .int (nI j)), (5, .long (zf_bg v a b d)), (0, .ref h0), (1, .int v)]) hx hb dX1_cut_83 hl (k := 1) rfl (nI_1 _) (by decide) rfl (fun ls hl => ?_)
            refine lv_iinc (v := nI (j + 1)) (lv' := [(8, .int (nI (j + 1))), (7, .int (nI (kp + 1))), (5, .long (zf_bg v a b d)), (0, .ref h0), (1, .int v)]) hx hb dX1_cut_86 hl (k := 1) rfl (nI_1 _) (by decide) rfl (fun ls hl => ?_)
            refine lv_goto (tgt := 40) hx hb dX1_cut_89 (by decide) ?_
            exact ih (j + 1) ((kp + 1)) (vp_updL fk kp (lN (ks.getD j 0))) (by omega) (zk_cu_keep hu hjl hmm) H locs hP hD hS ls (lv_sub hl [0, 1, 2, 3, 4] rfl)
          · have hmm := hfm.mp ((lg_cmp_eq _ _).mp c_63)
            refine lv_goto (tgt := 86) hx hb dX1_cut_66 (by decide) ?_
            refine lv_iinc (v := nI (j + 1)) (lv' := [(8, .int (nI (j + 1))), (7, .int (nI kp)), (5, .long (zf_bg v a b d)), (0, .ref h0), (1, .int v)]) hx hb dX1_cut_86 hl (k := 0) rfl (nI_1 _) (by decide) rfl (fun ls hl => ?_)
            refine lv_goto (tgt := 40) hx hb dX1_cut_89 (by decide) ?_
            exact ih (j + 1) kp fk (by omega) (zk_cu_skip hu hjl hmm) H locs hP hD hS ls (lv_sub hl [0, 1, 2, 3, 4] rfl)
      exact LOOP ks.length 0 0 f (by omega) (zk_cu_0 ks _ f) s.heap [] hP hD hS ls (lv_sub hl [0, 1, 2, 3, 4] rfl)
end
section
/-! THE CLAIM OUT OF ONE WALK OF THE LAW'S BODY. Your part is whole_start (and what it stands on); all else here is the same for every law, but numbers. -/
def R_law : String := "PageIndexLaw"
def lw_P (b : Addr) (xs : List Int32) (args : Array Value) (s : State) : Prop := args = #[.ref b] ∧ s.IntsAt b xs ∧ xs.length ≤ 2561 ∧ (Jvm.Cond.and given_1 narrow_1).before args s = true
def lw_Q (_ : Array Value) (s : State) (o : Outcome) (t : State) : Prop := o = .returned (some (.int 1)) ∧ Framed s o t [] 600000 7302250
def lw_Z (below : List Frame) (a : Array Value) (s : State) : State → Prop := fun t => ∃ o, t.status = .running ∧ Ended t below o ∧ lw_Q a s o t
/-- the law's own end, with 1 on the stack, nothing written that was there before, its room as the claim has it -/
theorem lw_ret {p : Program} {l : Launch} {e : Env} {s : State} {m : MethodId} {below : List Frame} {meth : Method} {c : Code} {b : Nat} (hx : p.tables.exec = Jvm.exec) (hb : c.code = code) (hr : meth.sig.returnType = ret) (hlocks : meth.locks = false) {pc : Nat} {H : Heap} {ls : Array Slot} (hdg : decode code pc = .ok (.ireturn, 1)) : W p l e room_1 s m #[Value.ref b] below meth c H [] 600000 7302250 (lw_Z below #[Value.ref b] s) (F0 m pc ls [.int 1]) := by
  intro T hT X
  obtain ⟨fs, hret, hrun, hended, hW, hframe⟩ := X.leave (v := some (.int 1)) (hlocks := hlocks) (fun h => by rw [hr] at h; cases h)
  have hmeth' : T.vm.method? m = some meth := X.method'
  refine ⟨T.setFrames fs, ?_, .returned (some (.int 1)), hrun, hended, rfl, ⟨_, rfl⟩, hW, hframe⟩
  jvm_step X.here [X.here.top, hx, hb, hdg, hmeth', hr, ret, narrow_b1]
  (try refine ⟨rfl, ?_⟩); (try refine ⟨rfl, ?_⟩)
  first | (intro acts; rw [hret _ acts rfl rfl rfl]) | rw [hret _ _ rfl rfl rfl]
  exact Steps.refl _
/-- what holds at the law's entry: the machine, the code, the tables' words (any of lw_tbl by 'hts w (by decide +kernel)'), the script of L ints xs at the cell b, what the Statement gives of the start (any of its parts by flat_of_before) -/
def lw_At (p : Program) (s : State) (m : MethodId) (meth : Method) (c : Code) (b L : Nat) (xs : Nat → Int32) : Prop :=
  p.tables.exec = Jvm.exec ∧ c.code = code ∧ meth.sig.returnType = ret ∧ c.maxLocals = 4 ∧ s.vm.findClass R_law = some m.cls ∧ (∀ w ∈ lw_tbl, w.before #[Value.ref b] s = true) ∧ va_X b L xs s s.heap ∧ b < s.heap.size ∧ meth.locks = false ∧ (Jvm.Cond.and given_1 narrow_1).before #[Value.ref b] s = true
end
section
/-! Own rows: what the law's cases need of the two objects -/
theorem zl_key {o : Nat} (ho : o < 6) (x y z : Int32) : ∃ k : Nat, (zf_nn x y z = true → zf_kt (nI (zk_px o)) (nI (zk_py o)) (nI (zk_pz o)) x y z = lN k ∧ k < 1152921504606846976) ∧ (zf_nn x y z = true → zf_ky o x y z = lN k ∧ k < 1152921504606846976) := by
  cases h : zf_nn x y z with
  | false => exact ⟨0, fun q => (by cases q), fun q => (by cases q)⟩
  | true =>
    unfold zf_nn at h
    rw [Bool.and_eq_true, Bool.and_eq_true] at h
    obtain ⟨a, ha, rfl⟩ := zf_n_of h.1
    obtain ⟨b, hb, rfl⟩ := zf_n_of h.2.1
    obtain ⟨d, hd, rfl⟩ := zf_n_of h.2.2
    exact ⟨zk_key o a b d, fun _ => ⟨zf_kt_nI ho ha hb hd, zk_key_lt ha hb hd⟩, fun _ => ⟨zf_ky_nI ho ha hb hd, zk_key_lt ha hb hd⟩⟩
theorem zl_pk (x y z : Int32) : ∃ k : Nat, (zf_nn x y z = true → zf_key x y z = lN k ∧ k < 1152921504606846976) ∧ (zf_nn x y z = true → zf_pk (Int32.toInt64 x) (Int32.toInt64 y) (Int32.toInt64 z) = lN k ∧ k < 1152921504606846976) := by
  cases h : zf_nn x y z with
  | false => exact ⟨0, fun q => (by cases q), fun q => (by cases q)⟩
  | true =>
    unfold zf_nn at h
    rw [Bool.and_eq_true, Bool.and_eq_true] at h
    obtain ⟨a, ha, rfl⟩ := zf_n_of h.1
    obtain ⟨b, hb, rfl⟩ := zf_n_of h.2.1
    obtain ⟨d, hd, rfl⟩ := zf_n_of h.2.2
    exact ⟨zk_K a b d, fun _ => ⟨zf_key_nI ha hb hd, zk_K_lt ha hb hd⟩, fun _ => ⟨zf_pk_nI ha hb hd, zk_K_lt ha hb hd⟩⟩
theorem zl_cur {oc : Option Nat} (h : ∀ z, oc = some z → z < 1152921504606846976) : ∃ k : Nat, (¬ zk_o oc = -1 → zk_o oc = lN k ∧ k < 1152921504606846976) ∧ (¬ zk_o oc = -1 → ∃ z, z < 1152921504606846976 ∧ zk_o oc = lN z) := by
  cases oc with
  | none => exact ⟨0, fun q => absurd rfl q, fun q => absurd rfl q⟩
  | some z => exact ⟨z, fun _ => ⟨rfl, h z rfl⟩, fun _ => ⟨z, h z rfl, rfl⟩⟩
theorem zl_at {ks : List Nat} {v : Int32} (h60 : ∀ k ∈ ks, k < 1152921504606846976) : ∀ z, zs_at ks v = some z → z < 1152921504606846976 := by
  intro z h
  unfold zs_at at h
  split at h
  · cases h
  · exact h60 z (List.mem_of_getElem? h)
theorem zl_cond {b : Bool} {x y : Option Nat} : cond b (zk_o x) (zk_o y) = zk_o (cond b x y) := by cases b <;> rfl
theorem zl_condlt {b : Bool} {x y : Option Nat} (hx : ∀ z, x = some z → z < 1152921504606846976) (hy : ∀ z, y = some z → z < 1152921504606846976) : ∀ z, cond b x y = some z → z < 1152921504606846976 := by
  cases b
  · exact hy
  · exact hx
theorem zl_len1 {ks : List Nat} {k t : Nat} {b d : Bool} (h : ks.length ≤ t) : (cond b (cond d ks (zk_ins ks k)) ks).length ≤ t + 1 := by
  have e := zk_ins_len ks k
  cases b <;> cases d <;> simp only [cond_true, cond_false] <;> omega
theorem zl_del_le {ks : List Nat} {a b : Nat} (h : a ≤ b) : (zk_del ks a b).length ≤ ks.length := by
  unfold zk_del
  rw [List.length_append, List.length_take, List.length_drop]
  omega
theorem zl_len2 {ks : List Nat} {a b t : Nat} {x y : Bool} (hab : a ≤ b) (h : ks.length ≤ t) : (cond x (cond y (zk_del ks a b) ks) ks).length ≤ t + 1 := by
  have e := zl_del_le (ks := ks) hab
  cases x <;> cases y <;> simp only [cond_true, cond_false] <;> omega
theorem zl_len3 {ks : List Nat} {t : Nat} {v a b d : Int32} (hs : ks.Pairwise (· < ·)) (h60 : ∀ k ∈ ks, k < 1152921504606846976) (h : ks.length ≤ t) : (cond (zs_bad v) ks (zk_del ks (zk_st ks v a b d) (zk_en ks v a b d))).length ≤ t + 1 := by
  cases hz : zs_bad v with
  | true => exact Nat.le_succ_of_le h
  | false =>
    have c1 : ¬ v < 0 := by intro q; simp [zs_bad, q] at hz
    have c6 : v ≤ 3 := by
      rcases Decidable.em (v ≤ 3) with q | q
      · exact q
      · exact absurd hz (by simp [zs_bad, q])
    obtain ⟨i, hi, ev⟩ := nI_of2 (x := v) (M := 3) (n := 3) (by decide) c1 c6
    have hse := zk_se hs h60 (i := i) (v := v) (a := a) (b := b) (d := d) hi ev
    exact Nat.le_succ_of_le (Nat.le_trans (zl_del_le hse.1) h)
abbrev zl_w (q0 : Nat) (u : zx_S) (r0 ma : Nat) (cB : ClassId) (g : Nat → Int64) (o : Nat) (ks : List Nat) (cur : Int64) : va_W := [(q0, .inr (0, [.int (nI (zk_px o)), .int (nI (zk_py o)), .int (nI (zk_pz o)), .ref u.1, .int (nI ks.length), .long cur])), (u.1, .inl (u.2.1, u.2.2.1, .inr (.inl u.2.2.2))), (r0, .inr (1, [.ref ma, .int (nI ks.length), .int (nI o), .long cur])), (ma, .inl (cB, 20000, .inr (.inl g)))]
/-- the law goes on behind a case, from its counter's step on -/
def zl_K (p : Program) (l : Launch) (e : Env) (s : State) (m : MethodId) (below : List Frame) (meth : Method) (c : Code) (dC : Nat → ClassId) (dI : Nat → Nat → Nat) (b q0 r0 ma : Nat) (cB : ClassId) (o t : Nat) (ls : Array Slot) : Prop := ∀ (ks : List Nat) (oc : Option Nat) (u : zx_S) (g : Nat → Int64) (H : Heap) (locs : List Loc), zk_G ks u.2.2.1 u.2.2.2 → zk_R ks g → (∀ z, oc = some z → z < 1152921504606846976) → ks.length ≤ t + 1 → va_K (dC, dI) vwCl [(u.2.1, .long), (cB, .long)] s → va_P (dC, dI) vwCl (zl_w q0 u r0 ma cB g o ks (zk_o oc)) H → va_D (fun q : Nat => s.heap.size ≤ q) (zl_w q0 u r0 ma cB g o ks (zk_o oc)) → va_S (fun q : Nat => s.heap.size ≤ q) s.heap H locs → W p l e room_1 s m #[Value.ref b] below meth c H locs (4 + (t + 1)) (20074 + 1024 * (t + 1)) (lw_Z below #[Value.ref b] s) (F0 m 574 ls [])
end
section
set_option maxHeartbeats 4000000 in
set_option maxRecDepth 100000 in
/-- the law at a call of has -/
theorem zl_has {p : Program} {l : Launch} {e : Env} {s : State} {m : MethodId} {below : List Frame} {meth : Method} {c : Code} {dC : Nat → ClassId} {dI : Nat → Nat → Nat} {b L : Nat} {xs : Nat → Int32} (C0 : lw_At p s m meth c b L xs) {q0 r0 ma : Nat} {cB : ClassId} {o : Nat} (ho : o < 6) {t : Nat} (ht : t < 512) (hiL : 1 + 5 * t + 5 ≤ L) (hL : L ≤ 2561) {ks : List Nat} {oc : Option Nat} {u : zx_S} {g : Nat → Int64} {H : Heap} {locs : List Loc} (hG : zk_G ks u.2.2.1 u.2.2.2) (hR : zk_R ks g) (hoc : ∀ z, oc = some z → z < 1152921504606846976) (hlen : ks.length ≤ t) (hK : va_K (dC, dI) vwCl [(u.2.1, .long), (cB, .long)] s) (hP : va_P (dC, dI) vwCl (zl_w q0 u r0 ma cB g o ks (zk_o oc)) H) (hD : va_D (fun q : Nat => s.heap.size ≤ q) (zl_w q0 u r0 ma cB g o ks (zk_o oc))) (hS : va_S (fun q : Nat => s.heap.size ≤ q) s.heap H locs) {ls : Array Slot} (hl : lv_has ls 4 [(3, .int (nI (1 + 5 * t))), (2, .ref r0), (1, .ref q0), (0, .ref b)]) (K : zl_K p l e s m below meth c dC dI b q0 r0 ma cB o t ls) : W p l e room_1 s m #[Value.ref b] below meth c H locs (4 + t) (20074 + 1024 * t) (lw_Z below #[Value.ref b] s) (F0 m 198 ls []) := by
  obtain ⟨hx, hb, hr, hml, hown, hts, hX, hbl, hlocks, hgv⟩ := C0
  have hA : ∀ q : Nat, s.heap.size ≤ q → (fun q : Nat => s.heap.size ≤ q) q := fun _ h => h
  have hbA : ¬ (fun q : Nat => s.heap.size ≤ q) b := Nat.not_le.mpr hbl
  have hown : s.vm.findClass RL = some m.cls := hown
  have htsL : ∀ w ∈ wsL_law, w.before #[Value.ref b] s = true := fun w h => hts w (wsL_law_in w h)
  have hPx := hP.sub (ws' := zx_wu q0 (nI (zk_px o)) (nI (zk_py o)) (nI (zk_pz o)) ks (zk_o oc) u) [0, 1] rfl
  have hKx := hK.sub (tys' := [(u.2.1, .long)]) [0] rfl
  have hPy := hP.sub (ws' := zy_w r0 ma cB g o ks.length (zk_o oc)) [2, 3] rfl
  have hKy := hK.sub (tys' := [(cB, .long)]) [1] rfl
  have hr1 : 4 + t + 0 ≤ room_1.cells ∧ 20074 + 1024 * t + 0 ≤ room_1.slots := ⟨by show 4 + t + 0 ≤ 600000; omega, by show 20074 + 1024 * t + 0 ≤ 7302250; omega⟩
  obtain ⟨x1, ex1⟩ : ∃ y : Int32, y = xs (1 + 5 * t + 1) := ⟨_, rfl⟩
  obtain ⟨x2, ex2⟩ : ∃ y : Int32, y = xs (1 + 5 * t + 2) := ⟨_, rfl⟩
  obtain ⟨x3, ex3⟩ : ∃ y : Int32, y = xs (1 + 5 * t + 3) := ⟨_, rfl⟩
  obtain ⟨k, hk0, hk1⟩ := zl_key ho x1 x2 x3
  refine lv_aload_n hx hb dL_law_198 rfl (lv_at hl 2 rfl) ?_
  refine lv_aload_n hx hb dL_law_199 rfl (lv_at hl 3 rfl) ?_
  refine lv_iload_n hx hb dL_law_200 rfl (lv_at hl 0 rfl) ?_
  refine lv_iconst (v := 1) hx hb dL_law_201 (by decide) ?_
  refine lv_iadd hx hb dL_law_202 ?_
  refine zw_eqi (y := nI (1 + 5 * t + 1)) (nI_add _ 1) ?_
  refine va_sld hx hb hX hbl hbA hS (pk_in (1 + 5 * t + 1) L (by omega) rfl (by omega)) dL_law_203 ?_
  refine zw_eqi (y := x1) (by rw [nI_clamp (by omega), ex1]) ?_
  refine lv_aload_n hx hb dL_law_204 rfl (lv_at hl 3 rfl) ?_
  refine lv_iload_n hx hb dL_law_205 rfl (lv_at hl 0 rfl) ?_
  refine lv_iconst (v := 2) hx hb dL_law_206 (by decide) ?_
  refine lv_iadd hx hb dL_law_207 ?_
  refine zw_eqi (y := nI (1 + 5 * t + 2)) (nI_add _ 2) ?_
  refine va_sld hx hb hX hbl hbA hS (pk_in (1 + 5 * t + 2) L (by omega) rfl (by omega)) dL_law_208 ?_
  refine zw_eqi (y := x2) (by rw [nI_clamp (by omega), ex2]) ?_
  refine lv_aload_n hx hb dL_law_209 rfl (lv_at hl 3 rfl) ?_
  refine lv_iload_n hx hb dL_law_210 rfl (lv_at hl 0 rfl) ?_
  refine lv_iconst (v := 3) hx hb dL_law_211 (by decide) ?_
  refine lv_iadd hx hb dL_law_212 ?_
  refine zw_eqi (y := nI (1 + 5 * t + 3)) (nI_add _ 3) ?_
  refine va_sld hx hb hX hbl hbA hS (pk_in (1 + 5 * t + 3) L (by omega) rfl (by omega)) dL_law_213 ?_
  refine zw_eqi (y := x3) (by rw [nI_clamp (by omega), ex3]) ?_
  refine zw_ci (r := if zf_nn x1 x2 x3 then zb_I (decide (k ∈ ks)) else -1) (va_runV (As := [.int x1, .int x2, .int x3]) (rest := []) ⟨hx, hb, hml, hown, htsL⟩ (zc_has l dC dI q0 u.1 u.2.1 u.2.2.1 u.2.2.2 (nI (zk_px o)) (nI (zk_py o)) (nI (zk_pz o)) ks (zk_o oc) x1 x2 x3 k hk0 hG) (cwV 3 htsL gL_law_X0_has rfl rfl rfl (by decide +kernel) ⟨Nat.le_of_ble_eq_true rfl, Nat.le_of_ble_eq_true rfl⟩) (zw_preV (ci := 0) (q0 := 0) hPx hKx rfl rfl) rfl rfl hl.1 rfl (lv_room (Nat.le_of_ble_eq_true rfl)) dL_law_214 hr1) ?_
  refine lv_aload_n hx hb dL_law_217 rfl (lv_at hl 1 rfl) ?_
  refine lv_aload_n hx hb dL_law_218 rfl (lv_at hl 3 rfl) ?_
  refine lv_iload_n hx hb dL_law_219 rfl (lv_at hl 0 rfl) ?_
  refine lv_iconst (v := 1) hx hb dL_law_220 (by decide) ?_
  refine lv_iadd hx hb dL_law_221 ?_
  refine zw_eqi (y := nI (1 + 5 * t + 1)) (nI_add _ 1) ?_
  refine va_sld hx hb hX hbl hbA hS (pk_in (1 + 5 * t + 1) L (by omega) rfl (by omega)) dL_law_222 ?_
  refine zw_eqi (y := x1) (by rw [nI_clamp (by omega), ex1]) ?_
  refine lv_aload_n hx hb dL_law_223 rfl (lv_at hl 3 rfl) ?_
  refine lv_iload_n hx hb dL_law_224 rfl (lv_at hl 0 rfl) ?_
  refine lv_iconst (v := 2) hx hb dL_law_225 (by decide) ?_
  refine lv_iadd hx hb dL_law_226 ?_
  refine zw_eqi (y := nI (1 + 5 * t + 2)) (nI_add _ 2) ?_
  refine va_sld hx hb hX hbl hbA hS (pk_in (1 + 5 * t + 2) L (by omega) rfl (by omega)) dL_law_227 ?_
  refine zw_eqi (y := x2) (by rw [nI_clamp (by omega), ex2]) ?_
  refine lv_aload_n hx hb dL_law_228 rfl (lv_at hl 3 rfl) ?_
  refine lv_iload_n hx hb dL_law_229 rfl (lv_at hl 0 rfl) ?_
  refine lv_iconst (v := 3) hx hb dL_law_230 (by decide) ?_
  refine lv_iadd hx hb dL_law_231 ?_
  refine zw_eqi (y := nI (1 + 5 * t + 3)) (nI_add _ 3) ?_
  refine va_sld hx hb hX hbl hbA hS (pk_in (1 + 5 * t + 3) L (by omega) rfl (by omega)) dL_law_232 ?_
  refine zw_eqi (y := x3) (by rw [nI_clamp (by omega), ex3]) ?_
  refine zw_ci (r := if zf_nn x1 x2 x3 then zb_I (decide (k ∈ ks)) else -1) (va_runV (As := [.int x1, .int x2, .int x3]) (rest := [.int (if zf_nn x1 x2 x3 then zb_I (decide (k ∈ ks)) else -1)]) ⟨hx, hb, hml, hown, hts⟩ (zd_has l dC dI r0 ma cB g o ks (zk_o oc) x1 x2 x3 ho k hk1 hR) (cwV 3 hts gL_law_X1_has rfl rfl rfl (by decide +kernel) ⟨Nat.le_of_ble_eq_true rfl, Nat.le_of_ble_eq_true rfl⟩) (zw_preV (ci := 1) (q0 := 0) hPy hKy rfl rfl) rfl rfl hl.1 rfl (lv_room (Nat.le_of_ble_eq_true rfl)) dL_law_233 hr1) ?_
  refine lv_icmp_eq (tgt := 574) hx hb dL_law_236 (by decide) (fun c_236 => ?_) (fun c_236 => absurd (rfl) c_236)
  refine W.widen (k := 4 + (t + 1)) (n := 20074 + 1024 * (t + 1)) (by omega) (by omega) ?_
  exact K ks oc u g H locs hG hR hoc (by omega) hK hP hD hS
set_option maxHeartbeats 4000000 in
set_option maxRecDepth 100000 in
/-- the law at a call of count -/
theorem zl_count {p : Program} {l : Launch} {e : Env} {s : State} {m : MethodId} {below : List Frame} {meth : Method} {c : Code} {dC : Nat → ClassId} {dI : Nat → Nat → Nat} {b L : Nat} {xs : Nat → Int32} (C0 : lw_At p s m meth c b L xs) {q0 r0 ma : Nat} {cB : ClassId} {o : Nat} (ho : o < 6) {t : Nat} (ht : t < 512) (hiL : 1 + 5 * t + 5 ≤ L) (hL : L ≤ 2561) {ks : List Nat} {oc : Option Nat} {u : zx_S} {g : Nat → Int64} {H : Heap} {locs : List Loc} (hG : zk_G ks u.2.2.1 u.2.2.2) (hR : zk_R ks g) (hoc : ∀ z, oc = some z → z < 1152921504606846976) (hlen : ks.length ≤ t) (hK : va_K (dC, dI) vwCl [(u.2.1, .long), (cB, .long)] s) (hP : va_P (dC, dI) vwCl (zl_w q0 u r0 ma cB g o ks (zk_o oc)) H) (hD : va_D (fun q : Nat => s.heap.size ≤ q) (zl_w q0 u r0 ma cB g o ks (zk_o oc))) (hS : va_S (fun q : Nat => s.heap.size ≤ q) s.heap H locs) {ls : Array Slot} (hl : lv_has ls 4 [(3, .int (nI (1 + 5 * t))), (2, .ref r0), (1, .ref q0), (0, .ref b)]) (K : zl_K p l e s m below meth c dC dI b q0 r0 ma cB o t ls) : W p l e room_1 s m #[Value.ref b] below meth c H locs (4 + t) (20074 + 1024 * t) (lw_Z below #[Value.ref b] s) (F0 m 241 ls []) := by
  obtain ⟨hx, hb, hr, hml, hown, hts, hX, hbl, hlocks, hgv⟩ := C0
  have hA : ∀ q : Nat, s.heap.size ≤ q → (fun q : Nat => s.heap.size ≤ q) q := fun _ h => h
  have hbA : ¬ (fun q : Nat => s.heap.size ≤ q) b := Nat.not_le.mpr hbl
  have hown : s.vm.findClass RL = some m.cls := hown
  have htsL : ∀ w ∈ wsL_law, w.before #[Value.ref b] s = true := fun w h => hts w (wsL_law_in w h)
  have hPx := hP.sub (ws' := zx_wu q0 (nI (zk_px o)) (nI (zk_py o)) (nI (zk_pz o)) ks (zk_o oc) u) [0, 1] rfl
  have hKx := hK.sub (tys' := [(u.2.1, .long)]) [0] rfl
  have hPy := hP.sub (ws' := zy_w r0 ma cB g o ks.length (zk_o oc)) [2, 3] rfl
  have hKy := hK.sub (tys' := [(cB, .long)]) [1] rfl
  have hr1 : 4 + t + 0 ≤ room_1.cells ∧ 20074 + 1024 * t + 0 ≤ room_1.slots := ⟨by show 4 + t + 0 ≤ 600000; omega, by show 20074 + 1024 * t + 0 ≤ 7302250; omega⟩
  obtain ⟨x1, ex1⟩ : ∃ y : Int32, y = xs (1 + 5 * t + 1) := ⟨_, rfl⟩
  obtain ⟨x2, ex2⟩ : ∃ y : Int32, y = xs (1 + 5 * t + 2) := ⟨_, rfl⟩
  obtain ⟨x3, ex3⟩ : ∃ y : Int32, y = xs (1 + 5 * t + 3) := ⟨_, rfl⟩
  obtain ⟨x4, ex4⟩ : ∃ y : Int32, y = xs (1 + 5 * t + 4) := ⟨_, rfl⟩
  refine lv_aload_n hx hb dL_law_241 rfl (lv_at hl 2 rfl) ?_
  refine lv_aload_n hx hb dL_law_242 rfl (lv_at hl 3 rfl) ?_
  refine lv_iload_n hx hb dL_law_243 rfl (lv_at hl 0 rfl) ?_
  refine lv_iconst (v := 1) hx hb dL_law_244 (by decide) ?_
  refine lv_iadd hx hb dL_law_245 ?_
  refine zw_eqi (y := nI (1 + 5 * t + 1)) (nI_add _ 1) ?_
  refine va_sld hx hb hX hbl hbA hS (pk_in (1 + 5 * t + 1) L (by omega) rfl (by omega)) dL_law_246 ?_
  refine zw_eqi (y := x1) (by rw [nI_clamp (by omega), ex1]) ?_
  refine lv_aload_n hx hb dL_law_247 rfl (lv_at hl 3 rfl) ?_
  refine lv_iload_n hx hb dL_law_248 rfl (lv_at hl 0 rfl) ?_
  refine lv_iconst (v := 2) hx hb dL_law_249 (by decide) ?_
  refine lv_iadd hx hb dL_law_250 ?_
  refine zw_eqi (y := nI (1 + 5 * t + 2)) (nI_add _ 2) ?_
  refine va_sld hx hb hX hbl hbA hS (pk_in (1 + 5 * t + 2) L (by omega) rfl (by omega)) dL_law_251 ?_
  refine zw_eqi (y := x2) (by rw [nI_clamp (by omega), ex2]) ?_
  refine lv_aload_n hx hb dL_law_252 rfl (lv_at hl 3 rfl) ?_
  refine lv_iload_n hx hb dL_law_253 rfl (lv_at hl 0 rfl) ?_
  refine lv_iconst (v := 3) hx hb dL_law_254 (by decide) ?_
  refine lv_iadd hx hb dL_law_255 ?_
  refine zw_eqi (y := nI (1 + 5 * t + 3)) (nI_add _ 3) ?_
  refine va_sld hx hb hX hbl hbA hS (pk_in (1 + 5 * t + 3) L (by omega) rfl (by omega)) dL_law_256 ?_
  refine zw_eqi (y := x3) (by rw [nI_clamp (by omega), ex3]) ?_
  refine lv_aload_n hx hb dL_law_257 rfl (lv_at hl 3 rfl) ?_
  refine lv_iload_n hx hb dL_law_258 rfl (lv_at hl 0 rfl) ?_
  refine lv_iconst (v := 4) hx hb dL_law_259 (by decide) ?_
  refine lv_iadd hx hb dL_law_260 ?_
  refine zw_eqi (y := nI (1 + 5 * t + 4)) (nI_add _ 4) ?_
  refine va_sld hx hb hX hbl hbA hS (pk_in (1 + 5 * t + 4) L (by omega) rfl (by omega)) dL_law_261 ?_
  refine zw_eqi (y := x4) (by rw [nI_clamp (by omega), ex4]) ?_
  refine zw_ci (r := zs_count ks x1 x2 x3 x4) (va_runV (As := [.int x1, .int x2, .int x3, .int x4]) (rest := []) ⟨hx, hb, hml, hown, htsL⟩ (zc_count l dC dI q0 u.1 u.2.1 u.2.2.1 u.2.2.2 (nI (zk_px o)) (nI (zk_py o)) (nI (zk_pz o)) ks (zk_o oc) x1 x2 x3 x4 hG) (cwV 4 htsL gL_law_X0_count rfl rfl rfl (by decide +kernel) ⟨Nat.le_of_ble_eq_true rfl, Nat.le_of_ble_eq_true rfl⟩) (zw_preV (ci := 0) (q0 := 0) hPx hKx rfl rfl) rfl rfl hl.1 rfl (lv_room (Nat.le_of_ble_eq_true rfl)) dL_law_262 hr1) ?_
  refine lv_aload_n hx hb dL_law_265 rfl (lv_at hl 1 rfl) ?_
  refine lv_aload_n hx hb dL_law_266 rfl (lv_at hl 3 rfl) ?_
  refine lv_iload_n hx hb dL_law_267 rfl (lv_at hl 0 rfl) ?_
  refine lv_iconst (v := 1) hx hb dL_law_268 (by decide) ?_
  refine lv_iadd hx hb dL_law_269 ?_
  refine zw_eqi (y := nI (1 + 5 * t + 1)) (nI_add _ 1) ?_
  refine va_sld hx hb hX hbl hbA hS (pk_in (1 + 5 * t + 1) L (by omega) rfl (by omega)) dL_law_270 ?_
  refine zw_eqi (y := x1) (by rw [nI_clamp (by omega), ex1]) ?_
  refine lv_aload_n hx hb dL_law_271 rfl (lv_at hl 3 rfl) ?_
  refine lv_iload_n hx hb dL_law_272 rfl (lv_at hl 0 rfl) ?_
  refine lv_iconst (v := 2) hx hb dL_law_273 (by decide) ?_
  refine lv_iadd hx hb dL_law_274 ?_
  refine zw_eqi (y := nI (1 + 5 * t + 2)) (nI_add _ 2) ?_
  refine va_sld hx hb hX hbl hbA hS (pk_in (1 + 5 * t + 2) L (by omega) rfl (by omega)) dL_law_275 ?_
  refine zw_eqi (y := x2) (by rw [nI_clamp (by omega), ex2]) ?_
  refine lv_aload_n hx hb dL_law_276 rfl (lv_at hl 3 rfl) ?_
  refine lv_iload_n hx hb dL_law_277 rfl (lv_at hl 0 rfl) ?_
  refine lv_iconst (v := 3) hx hb dL_law_278 (by decide) ?_
  refine lv_iadd hx hb dL_law_279 ?_
  refine zw_eqi (y := nI (1 + 5 * t + 3)) (nI_add _ 3) ?_
  refine va_sld hx hb hX hbl hbA hS (pk_in (1 + 5 * t + 3) L (by omega) rfl (by omega)) dL_law_280 ?_
  refine zw_eqi (y := x3) (by rw [nI_clamp (by omega), ex3]) ?_
  refine lv_aload_n hx hb dL_law_281 rfl (lv_at hl 3 rfl) ?_
  refine lv_iload_n hx hb dL_law_282 rfl (lv_at hl 0 rfl) ?_
  refine lv_iconst (v := 4) hx hb dL_law_283 (by decide) ?_
  refine lv_iadd hx hb dL_law_284 ?_
  refine zw_eqi (y := nI (1 + 5 * t + 4)) (nI_add _ 4) ?_
  refine va_sld hx hb hX hbl hbA hS (pk_in (1 + 5 * t + 4) L (by omega) rfl (by omega)) dL_law_285 ?_
  refine zw_eqi (y := x4) (by rw [nI_clamp (by omega), ex4]) ?_
  refine zw_ci (r := zs_count ks x1 x2 x3 x4) (va_runV (As := [.int x1, .int x2, .int x3, .int x4]) (rest := [.int (zs_count ks x1 x2 x3 x4)]) ⟨hx, hb, hml, hown, hts⟩ (zd_count l dC dI r0 ma cB g o ks (zk_o oc) x1 x2 x3 x4 hR) (cwV 4 hts gL_law_X1_count rfl rfl rfl (by decide +kernel) ⟨Nat.le_of_ble_eq_true rfl, Nat.le_of_ble_eq_true rfl⟩) (zw_preV (ci := 1) (q0 := 0) hPy hKy rfl rfl) rfl rfl hl.1 rfl (lv_room (Nat.le_of_ble_eq_true rfl)) dL_law_286 hr1) ?_
  refine lv_icmp_eq (tgt := 574) hx hb dL_law_289 (by decide) (fun c_289 => ?_) (fun c_289 => absurd (rfl) c_289)
  refine W.widen (k := 4 + (t + 1)) (n := 20074 + 1024 * (t + 1)) (by omega) (by omega) ?_
  exact K ks oc u g H locs hG hR hoc (by omega) hK hP hD hS
set_option maxHeartbeats 4000000 in
set_option maxRecDepth 100000 in
/-- the law at a call of different -/
theorem zl_different {p : Program} {l : Launch} {e : Env} {s : State} {m : MethodId} {below : List Frame} {meth : Method} {c : Code} {dC : Nat → ClassId} {dI : Nat → Nat → Nat} {b L : Nat} {xs : Nat → Int32} (C0 : lw_At p s m meth c b L xs) {q0 r0 ma : Nat} {cB : ClassId} {o : Nat} (ho : o < 6) {t : Nat} (ht : t < 512) (hiL : 1 + 5 * t + 5 ≤ L) (hL : L ≤ 2561) {ks : List Nat} {oc : Option Nat} {u : zx_S} {g : Nat → Int64} {H : Heap} {locs : List Loc} (hG : zk_G ks u.2.2.1 u.2.2.2) (hR : zk_R ks g) (hoc : ∀ z, oc = some z → z < 1152921504606846976) (hlen : ks.length ≤ t) (hK : va_K (dC, dI) vwCl [(u.2.1, .long), (cB, .long)] s) (hP : va_P (dC, dI) vwCl (zl_w q0 u r0 ma cB g o ks (zk_o oc)) H) (hD : va_D (fun q : Nat => s.heap.size ≤ q) (zl_w q0 u r0 ma cB g o ks (zk_o oc))) (hS : va_S (fun q : Nat => s.heap.size ≤ q) s.heap H locs) {ls : Array Slot} (hl : lv_has ls 4 [(3, .int (nI (1 + 5 * t))), (2, .ref r0), (1, .ref q0), (0, .ref b)]) (K : zl_K p l e s m below meth c dC dI b q0 r0 ma cB o t ls) : W p l e room_1 s m #[Value.ref b] below meth c H locs (4 + t) (20074 + 1024 * t) (lw_Z below #[Value.ref b] s) (F0 m 294 ls []) := by
  obtain ⟨hx, hb, hr, hml, hown, hts, hX, hbl, hlocks, hgv⟩ := C0
  have hA : ∀ q : Nat, s.heap.size ≤ q → (fun q : Nat => s.heap.size ≤ q) q := fun _ h => h
  have hbA : ¬ (fun q : Nat => s.heap.size ≤ q) b := Nat.not_le.mpr hbl
  have hown : s.vm.findClass RL = some m.cls := hown
  have htsL : ∀ w ∈ wsL_law, w.before #[Value.ref b] s = true := fun w h => hts w (wsL_law_in w h)
  have hPx := hP.sub (ws' := zx_wu q0 (nI (zk_px o)) (nI (zk_py o)) (nI (zk_pz o)) ks (zk_o oc) u) [0, 1] rfl
  have hKx := hK.sub (tys' := [(u.2.1, .long)]) [0] rfl
  have hPy := hP.sub (ws' := zy_w r0 ma cB g o ks.length (zk_o oc)) [2, 3] rfl
  have hKy := hK.sub (tys' := [(cB, .long)]) [1] rfl
  have hr1 : 4 + t + 0 ≤ room_1.cells ∧ 20074 + 1024 * t + 0 ≤ room_1.slots := ⟨by show 4 + t + 0 ≤ 600000; omega, by show 20074 + 1024 * t + 0 ≤ 7302250; omega⟩
  obtain ⟨x1, ex1⟩ : ∃ y : Int32, y = xs (1 + 5 * t + 1) := ⟨_, rfl⟩
  obtain ⟨x2, ex2⟩ : ∃ y : Int32, y = xs (1 + 5 * t + 2) := ⟨_, rfl⟩
  obtain ⟨x3, ex3⟩ : ∃ y : Int32, y = xs (1 + 5 * t + 3) := ⟨_, rfl⟩
  refine lv_aload_n hx hb dL_law_294 rfl (lv_at hl 2 rfl) ?_
  refine lv_aload_n hx hb dL_law_295 rfl (lv_at hl 3 rfl) ?_
  refine lv_iload_n hx hb dL_law_296 rfl (lv_at hl 0 rfl) ?_
  refine lv_iconst (v := 1) hx hb dL_law_297 (by decide) ?_
  refine lv_iadd hx hb dL_law_298 ?_
  refine zw_eqi (y := nI (1 + 5 * t + 1)) (nI_add _ 1) ?_
  refine va_sld hx hb hX hbl hbA hS (pk_in (1 + 5 * t + 1) L (by omega) rfl (by omega)) dL_law_299 ?_
  refine zw_eqi (y := x1) (by rw [nI_clamp (by omega), ex1]) ?_
  refine lv_aload_n hx hb dL_law_300 rfl (lv_at hl 3 rfl) ?_
  refine lv_iload_n hx hb dL_law_301 rfl (lv_at hl 0 rfl) ?_
  refine lv_iconst (v := 2) hx hb dL_law_302 (by decide) ?_
  refine lv_iadd hx hb dL_law_303 ?_
  refine zw_eqi (y := nI (1 + 5 * t + 2)) (nI_add _ 2) ?_
  refine va_sld hx hb hX hbl hbA hS (pk_in (1 + 5 * t + 2) L (by omega) rfl (by omega)) dL_law_304 ?_
  refine zw_eqi (y := x2) (by rw [nI_clamp (by omega), ex2]) ?_
  refine lv_aload_n hx hb dL_law_305 rfl (lv_at hl 3 rfl) ?_
  refine lv_iload_n hx hb dL_law_306 rfl (lv_at hl 0 rfl) ?_
  refine lv_iconst (v := 3) hx hb dL_law_307 (by decide) ?_
  refine lv_iadd hx hb dL_law_308 ?_
  refine zw_eqi (y := nI (1 + 5 * t + 3)) (nI_add _ 3) ?_
  refine va_sld hx hb hX hbl hbA hS (pk_in (1 + 5 * t + 3) L (by omega) rfl (by omega)) dL_law_309 ?_
  refine zw_eqi (y := x3) (by rw [nI_clamp (by omega), ex3]) ?_
  refine zw_ci (r := zs_dif ks x1 x2 x3) (va_runV (As := [.int x1, .int x2, .int x3]) (rest := []) ⟨hx, hb, hml, hown, htsL⟩ (zc_different l dC dI q0 u.1 u.2.1 u.2.2.1 u.2.2.2 (nI (zk_px o)) (nI (zk_py o)) (nI (zk_pz o)) ks (zk_o oc) x1 x2 x3 hG) (cwV 3 htsL gL_law_X0_different rfl rfl rfl (by decide +kernel) ⟨Nat.le_of_ble_eq_true rfl, Nat.le_of_ble_eq_true rfl⟩) (zw_preV (ci := 0) (q0 := 0) hPx hKx rfl rfl) rfl rfl hl.1 rfl (lv_room (Nat.le_of_ble_eq_true rfl)) dL_law_310 hr1) ?_
  refine lv_aload_n hx hb dL_law_313 rfl (lv_at hl 1 rfl) ?_
  refine lv_aload_n hx hb dL_law_314 rfl (lv_at hl 3 rfl) ?_
  refine lv_iload_n hx hb dL_law_315 rfl (lv_at hl 0 rfl) ?_
  refine lv_iconst (v := 1) hx hb dL_law_316 (by decide) ?_
  refine lv_iadd hx hb dL_law_317 ?_
  refine zw_eqi (y := nI (1 + 5 * t + 1)) (nI_add _ 1) ?_
  refine va_sld hx hb hX hbl hbA hS (pk_in (1 + 5 * t + 1) L (by omega) rfl (by omega)) dL_law_318 ?_
  refine zw_eqi (y := x1) (by rw [nI_clamp (by omega), ex1]) ?_
  refine lv_aload_n hx hb dL_law_319 rfl (lv_at hl 3 rfl) ?_
  refine lv_iload_n hx hb dL_law_320 rfl (lv_at hl 0 rfl) ?_
  refine lv_iconst (v := 2) hx hb dL_law_321 (by decide) ?_
  refine lv_iadd hx hb dL_law_322 ?_
  refine zw_eqi (y := nI (1 + 5 * t + 2)) (nI_add _ 2) ?_
  refine va_sld hx hb hX hbl hbA hS (pk_in (1 + 5 * t + 2) L (by omega) rfl (by omega)) dL_law_323 ?_
  refine zw_eqi (y := x2) (by rw [nI_clamp (by omega), ex2]) ?_
  refine lv_aload_n hx hb dL_law_324 rfl (lv_at hl 3 rfl) ?_
  refine lv_iload_n hx hb dL_law_325 rfl (lv_at hl 0 rfl) ?_
  refine lv_iconst (v := 3) hx hb dL_law_326 (by decide) ?_
  refine lv_iadd hx hb dL_law_327 ?_
  refine zw_eqi (y := nI (1 + 5 * t + 3)) (nI_add _ 3) ?_
  refine va_sld hx hb hX hbl hbA hS (pk_in (1 + 5 * t + 3) L (by omega) rfl (by omega)) dL_law_328 ?_
  refine zw_eqi (y := x3) (by rw [nI_clamp (by omega), ex3]) ?_
  refine zw_ci (r := zs_dif ks x1 x2 x3) (va_runV (As := [.int x1, .int x2, .int x3]) (rest := [.int (zs_dif ks x1 x2 x3)]) ⟨hx, hb, hml, hown, hts⟩ (zd_different l dC dI r0 ma cB g o ks (zk_o oc) x1 x2 x3 hR) (cwV 3 hts gL_law_X1_different rfl rfl rfl (by decide +kernel) ⟨Nat.le_of_ble_eq_true rfl, Nat.le_of_ble_eq_true rfl⟩) (zw_preV (ci := 1) (q0 := 0) hPy hKy rfl rfl) rfl rfl hl.1 rfl (lv_room (Nat.le_of_ble_eq_true rfl)) dL_law_329 hr1) ?_
  refine lv_icmp_eq (tgt := 574) hx hb dL_law_332 (by decide) (fun c_332 => ?_) (fun c_332 => absurd (rfl) c_332)
  refine W.widen (k := 4 + (t + 1)) (n := 20074 + 1024 * (t + 1)) (by omega) (by omega) ?_
  exact K ks oc u g H locs hG hR hoc (by omega) hK hP hD hS
set_option maxHeartbeats 4000000 in
set_option maxRecDepth 100000 in
/-- the law at a call of rank -/
theorem zl_rank {p : Program} {l : Launch} {e : Env} {s : State} {m : MethodId} {below : List Frame} {meth : Method} {c : Code} {dC : Nat → ClassId} {dI : Nat → Nat → Nat} {b L : Nat} {xs : Nat → Int32} (C0 : lw_At p s m meth c b L xs) {q0 r0 ma : Nat} {cB : ClassId} {o : Nat} (ho : o < 6) {t : Nat} (ht : t < 512) (hiL : 1 + 5 * t + 5 ≤ L) (hL : L ≤ 2561) {ks : List Nat} {oc : Option Nat} {u : zx_S} {g : Nat → Int64} {H : Heap} {locs : List Loc} (hG : zk_G ks u.2.2.1 u.2.2.2) (hR : zk_R ks g) (hoc : ∀ z, oc = some z → z < 1152921504606846976) (hlen : ks.length ≤ t) (hK : va_K (dC, dI) vwCl [(u.2.1, .long), (cB, .long)] s) (hP : va_P (dC, dI) vwCl (zl_w q0 u r0 ma cB g o ks (zk_o oc)) H) (hD : va_D (fun q : Nat => s.heap.size ≤ q) (zl_w q0 u r0 ma cB g o ks (zk_o oc))) (hS : va_S (fun q : Nat => s.heap.size ≤ q) s.heap H locs) {ls : Array Slot} (hl : lv_has ls 4 [(3, .int (nI (1 + 5 * t))), (2, .ref r0), (1, .ref q0), (0, .ref b)]) (K : zl_K p l e s m below meth c dC dI b q0 r0 ma cB o t ls) : W p l e room_1 s m #[Value.ref b] below meth c H locs (4 + t) (20074 + 1024 * t) (lw_Z below #[Value.ref b] s) (F0 m 337 ls []) := by
  obtain ⟨hx, hb, hr, hml, hown, hts, hX, hbl, hlocks, hgv⟩ := C0
  have hA : ∀ q : Nat, s.heap.size ≤ q → (fun q : Nat => s.heap.size ≤ q) q := fun _ h => h
  have hbA : ¬ (fun q : Nat => s.heap.size ≤ q) b := Nat.not_le.mpr hbl
  have hown : s.vm.findClass RL = some m.cls := hown
  have htsL : ∀ w ∈ wsL_law, w.before #[Value.ref b] s = true := fun w h => hts w (wsL_law_in w h)
  have hPx := hP.sub (ws' := zx_wu q0 (nI (zk_px o)) (nI (zk_py o)) (nI (zk_pz o)) ks (zk_o oc) u) [0, 1] rfl
  have hKx := hK.sub (tys' := [(u.2.1, .long)]) [0] rfl
  have hPy := hP.sub (ws' := zy_w r0 ma cB g o ks.length (zk_o oc)) [2, 3] rfl
  have hKy := hK.sub (tys' := [(cB, .long)]) [1] rfl
  have hr1 : 4 + t + 0 ≤ room_1.cells ∧ 20074 + 1024 * t + 0 ≤ room_1.slots := ⟨by show 4 + t + 0 ≤ 600000; omega, by show 20074 + 1024 * t + 0 ≤ 7302250; omega⟩
  obtain ⟨x1, ex1⟩ : ∃ y : Int32, y = xs (1 + 5 * t + 1) := ⟨_, rfl⟩
  obtain ⟨x2, ex2⟩ : ∃ y : Int32, y = xs (1 + 5 * t + 2) := ⟨_, rfl⟩
  obtain ⟨x3, ex3⟩ : ∃ y : Int32, y = xs (1 + 5 * t + 3) := ⟨_, rfl⟩
  obtain ⟨k, hk0, hk1⟩ := zl_pk x1 x2 x3
  refine lv_aload_n hx hb dL_law_337 rfl (lv_at hl 2 rfl) ?_
  refine lv_aload_n hx hb dL_law_338 rfl (lv_at hl 3 rfl) ?_
  refine lv_iload_n hx hb dL_law_339 rfl (lv_at hl 0 rfl) ?_
  refine lv_iconst (v := 1) hx hb dL_law_340 (by decide) ?_
  refine lv_iadd hx hb dL_law_341 ?_
  refine zw_eqi (y := nI (1 + 5 * t + 1)) (nI_add _ 1) ?_
  refine va_sld hx hb hX hbl hbA hS (pk_in (1 + 5 * t + 1) L (by omega) rfl (by omega)) dL_law_342 ?_
  refine zw_eqi (y := x1) (by rw [nI_clamp (by omega), ex1]) ?_
  refine lv_aload_n hx hb dL_law_343 rfl (lv_at hl 3 rfl) ?_
  refine lv_iload_n hx hb dL_law_344 rfl (lv_at hl 0 rfl) ?_
  refine lv_iconst (v := 2) hx hb dL_law_345 (by decide) ?_
  refine lv_iadd hx hb dL_law_346 ?_
  refine zw_eqi (y := nI (1 + 5 * t + 2)) (nI_add _ 2) ?_
  refine va_sld hx hb hX hbl hbA hS (pk_in (1 + 5 * t + 2) L (by omega) rfl (by omega)) dL_law_347 ?_
  refine zw_eqi (y := x2) (by rw [nI_clamp (by omega), ex2]) ?_
  refine lv_aload_n hx hb dL_law_348 rfl (lv_at hl 3 rfl) ?_
  refine lv_iload_n hx hb dL_law_349 rfl (lv_at hl 0 rfl) ?_
  refine lv_iconst (v := 3) hx hb dL_law_350 (by decide) ?_
  refine lv_iadd hx hb dL_law_351 ?_
  refine zw_eqi (y := nI (1 + 5 * t + 3)) (nI_add _ 3) ?_
  refine va_sld hx hb hX hbl hbA hS (pk_in (1 + 5 * t + 3) L (by omega) rfl (by omega)) dL_law_352 ?_
  refine zw_eqi (y := x3) (by rw [nI_clamp (by omega), ex3]) ?_
  refine zw_ci (r := if zf_nn x1 x2 x3 then nI (zk_c ks k) else -1) (va_runV (As := [.int x1, .int x2, .int x3]) (rest := []) ⟨hx, hb, hml, hown, htsL⟩ (zc_rank l dC dI q0 u.1 u.2.1 u.2.2.1 u.2.2.2 (nI (zk_px o)) (nI (zk_py o)) (nI (zk_pz o)) ks (zk_o oc) x1 x2 x3 k hk0 hG) (cwV 3 htsL gL_law_X0_rank rfl rfl rfl (by decide +kernel) ⟨Nat.le_of_ble_eq_true rfl, Nat.le_of_ble_eq_true rfl⟩) (zw_preV (ci := 0) (q0 := 0) hPx hKx rfl rfl) rfl rfl hl.1 rfl (lv_room (Nat.le_of_ble_eq_true rfl)) dL_law_353 hr1) ?_
  refine lv_aload_n hx hb dL_law_356 rfl (lv_at hl 1 rfl) ?_
  refine lv_aload_n hx hb dL_law_357 rfl (lv_at hl 3 rfl) ?_
  refine lv_iload_n hx hb dL_law_358 rfl (lv_at hl 0 rfl) ?_
  refine lv_iconst (v := 1) hx hb dL_law_359 (by decide) ?_
  refine lv_iadd hx hb dL_law_360 ?_
  refine zw_eqi (y := nI (1 + 5 * t + 1)) (nI_add _ 1) ?_
  refine va_sld hx hb hX hbl hbA hS (pk_in (1 + 5 * t + 1) L (by omega) rfl (by omega)) dL_law_361 ?_
  refine zw_eqi (y := x1) (by rw [nI_clamp (by omega), ex1]) ?_
  refine lv_aload_n hx hb dL_law_362 rfl (lv_at hl 3 rfl) ?_
  refine lv_iload_n hx hb dL_law_363 rfl (lv_at hl 0 rfl) ?_
  refine lv_iconst (v := 2) hx hb dL_law_364 (by decide) ?_
  refine lv_iadd hx hb dL_law_365 ?_
  refine zw_eqi (y := nI (1 + 5 * t + 2)) (nI_add _ 2) ?_
  refine va_sld hx hb hX hbl hbA hS (pk_in (1 + 5 * t + 2) L (by omega) rfl (by omega)) dL_law_366 ?_
  refine zw_eqi (y := x2) (by rw [nI_clamp (by omega), ex2]) ?_
  refine lv_aload_n hx hb dL_law_367 rfl (lv_at hl 3 rfl) ?_
  refine lv_iload_n hx hb dL_law_368 rfl (lv_at hl 0 rfl) ?_
  refine lv_iconst (v := 3) hx hb dL_law_369 (by decide) ?_
  refine lv_iadd hx hb dL_law_370 ?_
  refine zw_eqi (y := nI (1 + 5 * t + 3)) (nI_add _ 3) ?_
  refine va_sld hx hb hX hbl hbA hS (pk_in (1 + 5 * t + 3) L (by omega) rfl (by omega)) dL_law_371 ?_
  refine zw_eqi (y := x3) (by rw [nI_clamp (by omega), ex3]) ?_
  refine zw_ci (r := if zf_nn x1 x2 x3 then nI (zk_c ks k) else -1) (va_runV (As := [.int x1, .int x2, .int x3]) (rest := [.int (if zf_nn x1 x2 x3 then nI (zk_c ks k) else -1)]) ⟨hx, hb, hml, hown, hts⟩ (zd_rank l dC dI r0 ma cB g o ks (zk_o oc) x1 x2 x3 k hk1 hR) (cwV 3 hts gL_law_X1_rank rfl rfl rfl (by decide +kernel) ⟨Nat.le_of_ble_eq_true rfl, Nat.le_of_ble_eq_true rfl⟩) (zw_preV (ci := 1) (q0 := 0) hPy hKy rfl rfl) rfl rfl hl.1 rfl (lv_room (Nat.le_of_ble_eq_true rfl)) dL_law_372 hr1) ?_
  refine lv_icmp_eq (tgt := 574) hx hb dL_law_375 (by decide) (fun c_375 => ?_) (fun c_375 => absurd (rfl) c_375)
  refine W.widen (k := 4 + (t + 1)) (n := 20074 + 1024 * (t + 1)) (by omega) (by omega) ?_
  exact K ks oc u g H locs hG hR hoc (by omega) hK hP hD hS
set_option maxHeartbeats 4000000 in
set_option maxRecDepth 100000 in
/-- the law at a call of told -/
theorem zl_told {p : Program} {l : Launch} {e : Env} {s : State} {m : MethodId} {below : List Frame} {meth : Method} {c : Code} {dC : Nat → ClassId} {dI : Nat → Nat → Nat} {b L : Nat} {xs : Nat → Int32} (C0 : lw_At p s m meth c b L xs) {q0 r0 ma : Nat} {cB : ClassId} {o : Nat} (ho : o < 6) {t : Nat} (ht : t < 512) (hiL : 1 + 5 * t + 5 ≤ L) (hL : L ≤ 2561) {ks : List Nat} {oc : Option Nat} {u : zx_S} {g : Nat → Int64} {H : Heap} {locs : List Loc} (hG : zk_G ks u.2.2.1 u.2.2.2) (hR : zk_R ks g) (hoc : ∀ z, oc = some z → z < 1152921504606846976) (hlen : ks.length ≤ t) (hK : va_K (dC, dI) vwCl [(u.2.1, .long), (cB, .long)] s) (hP : va_P (dC, dI) vwCl (zl_w q0 u r0 ma cB g o ks (zk_o oc)) H) (hD : va_D (fun q : Nat => s.heap.size ≤ q) (zl_w q0 u r0 ma cB g o ks (zk_o oc))) (hS : va_S (fun q : Nat => s.heap.size ≤ q) s.heap H locs) {ls : Array Slot} (hl : lv_has ls 4 [(3, .int (nI (1 + 5 * t))), (2, .ref r0), (1, .ref q0), (0, .ref b)]) (K : zl_K p l e s m below meth c dC dI b q0 r0 ma cB o t ls) : W p l e room_1 s m #[Value.ref b] below meth c H locs (4 + t) (20074 + 1024 * t) (lw_Z below #[Value.ref b] s) (F0 m 472 ls []) := by
  obtain ⟨hx, hb, hr, hml, hown, hts, hX, hbl, hlocks, hgv⟩ := C0
  have hA : ∀ q : Nat, s.heap.size ≤ q → (fun q : Nat => s.heap.size ≤ q) q := fun _ h => h
  have hbA : ¬ (fun q : Nat => s.heap.size ≤ q) b := Nat.not_le.mpr hbl
  have hown : s.vm.findClass RL = some m.cls := hown
  have htsL : ∀ w ∈ wsL_law, w.before #[Value.ref b] s = true := fun w h => hts w (wsL_law_in w h)
  have hPx := hP.sub (ws' := zx_wu q0 (nI (zk_px o)) (nI (zk_py o)) (nI (zk_pz o)) ks (zk_o oc) u) [0, 1] rfl
  have hKx := hK.sub (tys' := [(u.2.1, .long)]) [0] rfl
  have hPy := hP.sub (ws' := zy_w r0 ma cB g o ks.length (zk_o oc)) [2, 3] rfl
  have hKy := hK.sub (tys' := [(cB, .long)]) [1] rfl
  have hr1 : 4 + t + 0 ≤ room_1.cells ∧ 20074 + 1024 * t + 0 ≤ room_1.slots := ⟨by show 4 + t + 0 ≤ 600000; omega, by show 20074 + 1024 * t + 0 ≤ 7302250; omega⟩
  obtain ⟨x1, ex1⟩ : ∃ y : Int32, y = xs (1 + 5 * t + 1) := ⟨_, rfl⟩
  obtain ⟨k, hk0, hk1⟩ := zl_cur hoc
  refine lv_aload_n hx hb dL_law_472 rfl (lv_at hl 2 rfl) ?_
  refine lv_aload_n hx hb dL_law_473 rfl (lv_at hl 3 rfl) ?_
  refine lv_iload_n hx hb dL_law_474 rfl (lv_at hl 0 rfl) ?_
  refine lv_iconst (v := 1) hx hb dL_law_475 (by decide) ?_
  refine lv_iadd hx hb dL_law_476 ?_
  refine zw_eqi (y := nI (1 + 5 * t + 1)) (nI_add _ 1) ?_
  refine va_sld hx hb hX hbl hbA hS (pk_in (1 + 5 * t + 1) L (by omega) rfl (by omega)) dL_law_477 ?_
  refine zw_eqi (y := x1) (by rw [nI_clamp (by omega), ex1]) ?_
  refine zw_ci (r := zf_told (nI (zk_px o)) (nI (zk_py o)) (nI (zk_pz o)) (zk_o oc) x1) (va_runV (As := [.int x1]) (rest := []) ⟨hx, hb, hml, hown, htsL⟩ (zc_told l dC dI q0 u.1 u.2.1 u.2.2.1 u.2.2.2 (nI (zk_px o)) (nI (zk_py o)) (nI (zk_pz o)) ks (zk_o oc) x1 ) (cwV 1 htsL gL_law_X0_told rfl rfl rfl (by decide +kernel) ⟨Nat.le_of_ble_eq_true rfl, Nat.le_of_ble_eq_true rfl⟩) (zw_preV (ci := 0) (q0 := 0) hPx hKx rfl rfl) rfl rfl hl.1 rfl (lv_room (Nat.le_of_ble_eq_true rfl)) dL_law_478 hr1) ?_
  refine lv_aload_n hx hb dL_law_481 rfl (lv_at hl 1 rfl) ?_
  refine lv_aload_n hx hb dL_law_482 rfl (lv_at hl 3 rfl) ?_
  refine lv_iload_n hx hb dL_law_483 rfl (lv_at hl 0 rfl) ?_
  refine lv_iconst (v := 1) hx hb dL_law_484 (by decide) ?_
  refine lv_iadd hx hb dL_law_485 ?_
  refine zw_eqi (y := nI (1 + 5 * t + 1)) (nI_add _ 1) ?_
  refine va_sld hx hb hX hbl hbA hS (pk_in (1 + 5 * t + 1) L (by omega) rfl (by omega)) dL_law_486 ?_
  refine zw_eqi (y := x1) (by rw [nI_clamp (by omega), ex1]) ?_
  refine zw_ci (r := zf_told (nI (zk_px o)) (nI (zk_py o)) (nI (zk_pz o)) (zk_o oc) x1) (va_runV (As := [.int x1]) (rest := [.int (zf_told (nI (zk_px o)) (nI (zk_py o)) (nI (zk_pz o)) (zk_o oc) x1)]) ⟨hx, hb, hml, hown, hts⟩ (zd_told l dC dI r0 ma cB g o ks (zk_o oc) x1 ho hk1) (cwV 1 hts gL_law_X1_told rfl rfl rfl (by decide +kernel) ⟨Nat.le_of_ble_eq_true rfl, Nat.le_of_ble_eq_true rfl⟩) (zw_preV (ci := 1) (q0 := 0) hPy hKy rfl rfl) rfl rfl hl.1 rfl (lv_room (Nat.le_of_ble_eq_true rfl)) dL_law_487 hr1) ?_
  refine lv_icmp_eq (tgt := 574) hx hb dL_law_490 (by decide) (fun c_490 => ?_) (fun c_490 => absurd (rfl) c_490)
  refine W.widen (k := 4 + (t + 1)) (n := 20074 + 1024 * (t + 1)) (by omega) (by omega) ?_
  exact K ks oc u g H locs hG hR hoc (by omega) hK hP hD hS
set_option maxHeartbeats 4000000 in
set_option maxRecDepth 100000 in
/-- the law at a call of stands -/
theorem zl_stands {p : Program} {l : Launch} {e : Env} {s : State} {m : MethodId} {below : List Frame} {meth : Method} {c : Code} {dC : Nat → ClassId} {dI : Nat → Nat → Nat} {b L : Nat} {xs : Nat → Int32} (C0 : lw_At p s m meth c b L xs) {q0 r0 ma : Nat} {cB : ClassId} {o : Nat} (ho : o < 6) {t : Nat} (ht : t < 512) (hiL : 1 + 5 * t + 5 ≤ L) (hL : L ≤ 2561) {ks : List Nat} {oc : Option Nat} {u : zx_S} {g : Nat → Int64} {H : Heap} {locs : List Loc} (hG : zk_G ks u.2.2.1 u.2.2.2) (hR : zk_R ks g) (hoc : ∀ z, oc = some z → z < 1152921504606846976) (hlen : ks.length ≤ t) (hK : va_K (dC, dI) vwCl [(u.2.1, .long), (cB, .long)] s) (hP : va_P (dC, dI) vwCl (zl_w q0 u r0 ma cB g o ks (zk_o oc)) H) (hD : va_D (fun q : Nat => s.heap.size ≤ q) (zl_w q0 u r0 ma cB g o ks (zk_o oc))) (hS : va_S (fun q : Nat => s.heap.size ≤ q) s.heap H locs) {ls : Array Slot} (hl : lv_has ls 4 [(3, .int (nI (1 + 5 * t))), (2, .ref r0), (1, .ref q0), (0, .ref b)]) (K : zl_K p l e s m below meth c dC dI b q0 r0 ma cB o t ls) : W p l e room_1 s m #[Value.ref b] below meth c H locs (4 + t) (20074 + 1024 * t) (lw_Z below #[Value.ref b] s) (F0 m 495 ls []) := by
  obtain ⟨hx, hb, hr, hml, hown, hts, hX, hbl, hlocks, hgv⟩ := C0
  have hA : ∀ q : Nat, s.heap.size ≤ q → (fun q : Nat => s.heap.size ≤ q) q := fun _ h => h
  have hbA : ¬ (fun q : Nat => s.heap.size ≤ q) b := Nat.not_le.mpr hbl
  have hown : s.vm.findClass RL = some m.cls := hown
  have htsL : ∀ w ∈ wsL_law, w.before #[Value.ref b] s = true := fun w h => hts w (wsL_law_in w h)
  have hPx := hP.sub (ws' := zx_wu q0 (nI (zk_px o)) (nI (zk_py o)) (nI (zk_pz o)) ks (zk_o oc) u) [0, 1] rfl
  have hKx := hK.sub (tys' := [(u.2.1, .long)]) [0] rfl
  have hPy := hP.sub (ws' := zy_w r0 ma cB g o ks.length (zk_o oc)) [2, 3] rfl
  have hKy := hK.sub (tys' := [(cB, .long)]) [1] rfl
  have hr1 : 4 + t + 0 ≤ room_1.cells ∧ 20074 + 1024 * t + 0 ≤ room_1.slots := ⟨by show 4 + t + 0 ≤ 600000; omega, by show 20074 + 1024 * t + 0 ≤ 7302250; omega⟩
  obtain ⟨k, hk0, hk1⟩ := zl_cur hoc
  refine lv_aload_n hx hb dL_law_495 rfl (lv_at hl 2 rfl) ?_
  refine zw_ci (r := if zk_o oc = -1 then 0 else zb_I (decide (k ∈ ks))) (va_runV (As := []) (rest := []) ⟨hx, hb, hml, hown, htsL⟩ (zc_stands l dC dI q0 u.1 u.2.1 u.2.2.1 u.2.2.2 (nI (zk_px o)) (nI (zk_py o)) (nI (zk_pz o)) ks (zk_o oc) k hk0 hG) (cwV 0 htsL gL_law_X0_stands rfl rfl rfl (by decide +kernel) ⟨Nat.le_of_ble_eq_true rfl, Nat.le_of_ble_eq_true rfl⟩) (zw_preV (ci := 0) (q0 := 0) hPx hKx rfl rfl) rfl rfl hl.1 rfl (lv_room (Nat.le_of_ble_eq_true rfl)) dL_law_496 hr1) ?_
  refine lv_aload_n hx hb dL_law_499 rfl (lv_at hl 1 rfl) ?_
  refine zw_ci (r := if zk_o oc = -1 then 0 else zb_I (decide (k ∈ ks))) (va_runV (As := []) (rest := [.int (if zk_o oc = -1 then 0 else zb_I (decide (k ∈ ks)))]) ⟨hx, hb, hml, hown, hts⟩ (zd_stands l dC dI r0 ma cB g o ks (zk_o oc) k hk0 hR) (cwV 0 hts gL_law_X1_stands rfl rfl rfl (by decide +kernel) ⟨Nat.le_of_ble_eq_true rfl, Nat.le_of_ble_eq_true rfl⟩) (zw_preV (ci := 1) (q0 := 0) hPy hKy rfl rfl) rfl rfl hl.1 rfl (lv_room (Nat.le_of_ble_eq_true rfl)) dL_law_500 hr1) ?_
  refine lv_icmp_eq (tgt := 574) hx hb dL_law_503 (by decide) (fun c_503 => ?_) (fun c_503 => absurd (rfl) c_503)
  refine W.widen (k := 4 + (t + 1)) (n := 20074 + 1024 * (t + 1)) (by omega) (by omega) ?_
  exact K ks oc u g H locs hG hR hoc (by omega) hK hP hD hS
set_option maxHeartbeats 4000000 in
set_option maxRecDepth 100000 in
/-- the law at a call of size -/
theorem zl_size {p : Program} {l : Launch} {e : Env} {s : State} {m : MethodId} {below : List Frame} {meth : Method} {c : Code} {dC : Nat → ClassId} {dI : Nat → Nat → Nat} {b L : Nat} {xs : Nat → Int32} (C0 : lw_At p s m meth c b L xs) {q0 r0 ma : Nat} {cB : ClassId} {o : Nat} (ho : o < 6) {t : Nat} (ht : t < 512) (hiL : 1 + 5 * t + 5 ≤ L) (hL : L ≤ 2561) {ks : List Nat} {oc : Option Nat} {u : zx_S} {g : Nat → Int64} {H : Heap} {locs : List Loc} (hG : zk_G ks u.2.2.1 u.2.2.2) (hR : zk_R ks g) (hoc : ∀ z, oc = some z → z < 1152921504606846976) (hlen : ks.length ≤ t) (hK : va_K (dC, dI) vwCl [(u.2.1, .long), (cB, .long)] s) (hP : va_P (dC, dI) vwCl (zl_w q0 u r0 ma cB g o ks (zk_o oc)) H) (hD : va_D (fun q : Nat => s.heap.size ≤ q) (zl_w q0 u r0 ma cB g o ks (zk_o oc))) (hS : va_S (fun q : Nat => s.heap.size ≤ q) s.heap H locs) {ls : Array Slot} (hl : lv_has ls 4 [(3, .int (nI (1 + 5 * t))), (2, .ref r0), (1, .ref q0), (0, .ref b)]) (K : zl_K p l e s m below meth c dC dI b q0 r0 ma cB o t ls) : W p l e room_1 s m #[Value.ref b] below meth c H locs (4 + t) (20074 + 1024 * t) (lw_Z below #[Value.ref b] s) (F0 m 508 ls []) := by
  obtain ⟨hx, hb, hr, hml, hown, hts, hX, hbl, hlocks, hgv⟩ := C0
  have hA : ∀ q : Nat, s.heap.size ≤ q → (fun q : Nat => s.heap.size ≤ q) q := fun _ h => h
  have hbA : ¬ (fun q : Nat => s.heap.size ≤ q) b := Nat.not_le.mpr hbl
  have hown : s.vm.findClass RL = some m.cls := hown
  have htsL : ∀ w ∈ wsL_law, w.before #[Value.ref b] s = true := fun w h => hts w (wsL_law_in w h)
  have hPx := hP.sub (ws' := zx_wu q0 (nI (zk_px o)) (nI (zk_py o)) (nI (zk_pz o)) ks (zk_o oc) u) [0, 1] rfl
  have hKx := hK.sub (tys' := [(u.2.1, .long)]) [0] rfl
  have hPy := hP.sub (ws' := zy_w r0 ma cB g o ks.length (zk_o oc)) [2, 3] rfl
  have hKy := hK.sub (tys' := [(cB, .long)]) [1] rfl
  have hr1 : 4 + t + 0 ≤ room_1.cells ∧ 20074 + 1024 * t + 0 ≤ room_1.slots := ⟨by show 4 + t + 0 ≤ 600000; omega, by show 20074 + 1024 * t + 0 ≤ 7302250; omega⟩
  refine lv_aload_n hx hb dL_law_508 rfl (lv_at hl 2 rfl) ?_
  refine zw_ci (r := nI ks.length) (va_runV (As := []) (rest := []) ⟨hx, hb, hml, hown, htsL⟩ (zc_size l dC dI q0 u.1 u.2.1 u.2.2.1 u.2.2.2 (nI (zk_px o)) (nI (zk_py o)) (nI (zk_pz o)) ks (zk_o oc) ) (cwV 0 htsL gL_law_X0_size rfl rfl rfl (by decide +kernel) ⟨Nat.le_of_ble_eq_true rfl, Nat.le_of_ble_eq_true rfl⟩) (zw_preV (ci := 0) (q0 := 0) hPx hKx rfl rfl) rfl rfl hl.1 rfl (lv_room (Nat.le_of_ble_eq_true rfl)) dL_law_509 hr1) ?_
  refine lv_aload_n hx hb dL_law_512 rfl (lv_at hl 1 rfl) ?_
  refine zw_ci (r := nI ks.length) (va_runV (As := []) (rest := [.int (nI ks.length)]) ⟨hx, hb, hml, hown, hts⟩ (zd_size l dC dI r0 ma cB g o ks (zk_o oc) ) (cwV 0 hts gL_law_X1_size rfl rfl rfl (by decide +kernel) ⟨Nat.le_of_ble_eq_true rfl, Nat.le_of_ble_eq_true rfl⟩) (zw_preV (ci := 1) (q0 := 0) hPy hKy rfl rfl) rfl rfl hl.1 rfl (lv_room (Nat.le_of_ble_eq_true rfl)) dL_law_513 hr1) ?_
  refine lv_icmp_eq (tgt := 574) hx hb dL_law_516 (by decide) (fun c_516 => ?_) (fun c_516 => absurd (rfl) c_516)
  refine W.widen (k := 4 + (t + 1)) (n := 20074 + 1024 * (t + 1)) (by omega) (by omega) ?_
  exact K ks oc u g H locs hG hR hoc (by omega) hK hP hD hS
end
section
set_option maxHeartbeats 4000000 in
set_option maxRecDepth 100000 in
/-- the law at a call of insert -/
theorem zl_insert {p : Program} {l : Launch} {e : Env} {s : State} {m : MethodId} {below : List Frame} {meth : Method} {c : Code} {dC : Nat → ClassId} {dI : Nat → Nat → Nat} {b L : Nat} {xs : Nat → Int32} (C0 : lw_At p s m meth c b L xs) {q0 r0 ma : Nat} {cB : ClassId} {o : Nat} (ho : o < 6) {t : Nat} (ht : t < 512) (hiL : 1 + 5 * t + 5 ≤ L) (hL : L ≤ 2561) {ks : List Nat} {oc : Option Nat} {u : zx_S} {g : Nat → Int64} {H : Heap} {locs : List Loc} (hG : zk_G ks u.2.2.1 u.2.2.2) (hR : zk_R ks g) (hoc : ∀ z, oc = some z → z < 1152921504606846976) (hlen : ks.length ≤ t) (hK : va_K (dC, dI) vwCl [(u.2.1, .long), (cB, .long)] s) (hP : va_P (dC, dI) vwCl (zl_w q0 u r0 ma cB g o ks (zk_o oc)) H) (hD : va_D (fun q : Nat => s.heap.size ≤ q) (zl_w q0 u r0 ma cB g o ks (zk_o oc))) (hS : va_S (fun q : Nat => s.heap.size ≤ q) s.heap H locs) {ls : Array Slot} (hl : lv_has ls 4 [(3, .int (nI (1 + 5 * t))), (2, .ref r0), (1, .ref q0), (0, .ref b)]) (K : zl_K p l e s m below meth c dC dI b q0 r0 ma cB o t ls) : W p l e room_1 s m #[Value.ref b] below meth c H locs (4 + t) (20074 + 1024 * t) (lw_Z below #[Value.ref b] s) (F0 m 112 ls []) := by
  obtain ⟨hx, hb, hr, hml, hown, hts, hX, hbl, hlocks, hgv⟩ := C0
  have hA : ∀ q : Nat, s.heap.size ≤ q → (fun q : Nat => s.heap.size ≤ q) q := fun _ h => h
  have hbA : ¬ (fun q : Nat => s.heap.size ≤ q) b := Nat.not_le.mpr hbl
  have hown : s.vm.findClass RL = some m.cls := hown
  have htsL : ∀ w ∈ wsL_law, w.before #[Value.ref b] s = true := fun w h => hts w (wsL_law_in w h)
  have hPx := hP.sub (ws' := zx_wu q0 (nI (zk_px o)) (nI (zk_py o)) (nI (zk_pz o)) ks (zk_o oc) u) [0, 1] rfl
  have hKx := hK.sub (tys' := [(u.2.1, .long)]) [0] rfl
  have hPy := hP.sub (ws' := zy_w r0 ma cB g o ks.length (zk_o oc)) [2, 3] rfl
  have hKy := hK.sub (tys' := [(cB, .long)]) [1] rfl
  have hr1 : 4 + t + 0 ≤ room_1.cells ∧ 20074 + 1024 * t + 0 ≤ room_1.slots := ⟨by show 4 + t + 0 ≤ 600000; omega, by show 20074 + 1024 * t + 0 ≤ 7302250; omega⟩
  have hr2 : 4 + t + 1 ≤ room_1.cells ∧ 20074 + 1024 * t + 1024 ≤ room_1.slots := ⟨by show 4 + t + 1 ≤ 600000; omega, by show 20074 + 1024 * t + 1024 ≤ 7302250; omega⟩
  have hr3 : 4 + t + 1 + 0 ≤ room_1.cells ∧ 20074 + 1024 * t + 1024 + 0 ≤ room_1.slots := hr2
  obtain ⟨x1, ex1⟩ : ∃ y : Int32, y = xs (1 + 5 * t + 1) := ⟨_, rfl⟩
  obtain ⟨x2, ex2⟩ : ∃ y : Int32, y = xs (1 + 5 * t + 2) := ⟨_, rfl⟩
  obtain ⟨x3, ex3⟩ : ∃ y : Int32, y = xs (1 + 5 * t + 3) := ⟨_, rfl⟩
  obtain ⟨k, hk0, hk1⟩ := zl_key ho x1 x2 x3
  refine lv_aload_n hx hb dL_law_112 rfl (lv_at hl 2 rfl) ?_
  refine lv_aload_n hx hb dL_law_113 rfl (lv_at hl 3 rfl) ?_
  refine lv_iload_n hx hb dL_law_114 rfl (lv_at hl 0 rfl) ?_
  refine lv_iconst (v := 1) hx hb dL_law_115 (by decide) ?_
  refine lv_iadd hx hb dL_law_116 ?_
  refine zw_eqi (y := nI (1 + 5 * t + 1)) (nI_add _ 1) ?_
  refine va_sld hx hb hX hbl hbA hS (pk_in (1 + 5 * t + 1) L (by omega) rfl (by omega)) dL_law_117 ?_
  refine zw_eqi (y := x1) (by rw [nI_clamp (by omega), ex1]) ?_
  refine lv_aload_n hx hb dL_law_118 rfl (lv_at hl 3 rfl) ?_
  refine lv_iload_n hx hb dL_law_119 rfl (lv_at hl 0 rfl) ?_
  refine lv_iconst (v := 2) hx hb dL_law_120 (by decide) ?_
  refine lv_iadd hx hb dL_law_121 ?_
  refine zw_eqi (y := nI (1 + 5 * t + 2)) (nI_add _ 2) ?_
  refine va_sld hx hb hX hbl hbA hS (pk_in (1 + 5 * t + 2) L (by omega) rfl (by omega)) dL_law_122 ?_
  refine zw_eqi (y := x2) (by rw [nI_clamp (by omega), ex2]) ?_
  refine lv_aload_n hx hb dL_law_123 rfl (lv_at hl 3 rfl) ?_
  refine lv_iload_n hx hb dL_law_124 rfl (lv_at hl 0 rfl) ?_
  refine lv_iconst (v := 3) hx hb dL_law_125 (by decide) ?_
  refine lv_iadd hx hb dL_law_126 ?_
  refine zw_eqi (y := nI (1 + 5 * t + 3)) (nI_add _ 3) ?_
  refine va_sld hx hb hX hbl hbA hS (pk_in (1 + 5 * t + 3) L (by omega) rfl (by omega)) dL_law_127 ?_
  refine zw_eqi (y := x3) (by rw [nI_clamp (by omega), ex3]) ?_
  refine zw_callw (ws := zl_w q0 u r0 ma cB g o ks (zk_o oc)) (wc := zx_wu q0 (nI (zk_px o)) (nI (zk_py o)) (nI (zk_pz o)) ks (zk_o oc) u) (wr := zy_w r0 ma cB g o ks.length (zk_o oc)) (va_runV (As := [.int x1, .int x2, .int x3]) (rest := []) ⟨hx, hb, hml, hown, htsL⟩ (zc_insert l dC dI q0 u.1 u.2.1 u.2.2.1 u.2.2.2 (nI (zk_px o)) (nI (zk_py o)) (nI (zk_pz o)) ks (zk_o oc) H.size x1 x2 x3 k hk0 (by omega) hG) (cwV 3 htsL gL_law_X0_insert rfl rfl rfl (by decide +kernel) ⟨Nat.le_of_ble_eq_true rfl, Nat.le_of_ble_eq_true rfl⟩) (zw_preWV (ci := 0) (q0 := 0) hPx hKx (hD.sub (ws' := zx_wu q0 (nI (zk_px o)) (nI (zk_py o)) (nI (zk_pz o)) ks (zk_o oc) u) [0, 1] (by decide) rfl) rfl rfl) rfl rfl hl.1 rfl (lv_room (Nat.le_of_ble_eq_true rfl)) dL_law_128 hr2) hP hD hS hA [0, 1] [2, 3] rfl rfl (by decide) (by decide) (fun u2 H locs hu hP hD hK2 hS => ?_)
  have hP : va_P (dC, dI) vwCl ([(r0, .inr (1, [.ref ma, .int (nI ks.length), .int (nI o), .long (zk_o oc)])), (ma, .inl (cB, 20000, .inr (.inl g)))] ++ zx_wu q0 (nI (zk_px o)) (nI (zk_py o)) (nI (zk_pz o)) (cond (zf_nn x1 x2 x3) (cond (decide (k ∈ ks)) ks (zk_ins ks k)) ks) (zk_o oc) u2) H := hP
  have hD : va_D (fun q : Nat => s.heap.size ≤ q) ([(r0, .inr (1, [.ref ma, .int (nI ks.length), .int (nI o), .long (zk_o oc)])), (ma, .inl (cB, 20000, .inr (.inl g)))] ++ zx_wu q0 (nI (zk_px o)) (nI (zk_py o)) (nI (zk_pz o)) (cond (zf_nn x1 x2 x3) (cond (decide (k ∈ ks)) ks (zk_ins ks k)) ks) (zk_o oc) u2) := hD
  have hPy := hP.sub (ws' := zy_w r0 ma cB g o ks.length (zk_o oc)) [0, 1] rfl
  refine W.eq (g2 := F0 m 131 ls [.int (cond (zf_nn x1 x2 x3) (cond (decide (k ∈ ks)) 0 1) (-1))]) rfl ?_
  refine lv_aload_n hx hb dL_law_131 rfl (lv_at hl 1 rfl) ?_
  refine lv_aload_n hx hb dL_law_132 rfl (lv_at hl 3 rfl) ?_
  refine lv_iload_n hx hb dL_law_133 rfl (lv_at hl 0 rfl) ?_
  refine lv_iconst (v := 1) hx hb dL_law_134 (by decide) ?_
  refine lv_iadd hx hb dL_law_135 ?_
  refine zw_eqi (y := nI (1 + 5 * t + 1)) (nI_add _ 1) ?_
  refine va_sld hx hb hX hbl hbA hS (pk_in (1 + 5 * t + 1) L (by omega) rfl (by omega)) dL_law_136 ?_
  refine zw_eqi (y := x1) (by rw [nI_clamp (by omega), ex1]) ?_
  refine lv_aload_n hx hb dL_law_137 rfl (lv_at hl 3 rfl) ?_
  refine lv_iload_n hx hb dL_law_138 rfl (lv_at hl 0 rfl) ?_
  refine lv_iconst (v := 2) hx hb dL_law_139 (by decide) ?_
  refine lv_iadd hx hb dL_law_140 ?_
  refine zw_eqi (y := nI (1 + 5 * t + 2)) (nI_add _ 2) ?_
  refine va_sld hx hb hX hbl hbA hS (pk_in (1 + 5 * t + 2) L (by omega) rfl (by omega)) dL_law_141 ?_
  refine zw_eqi (y := x2) (by rw [nI_clamp (by omega), ex2]) ?_
  refine lv_aload_n hx hb dL_law_142 rfl (lv_at hl 3 rfl) ?_
  refine lv_iload_n hx hb dL_law_143 rfl (lv_at hl 0 rfl) ?_
  refine lv_iconst (v := 3) hx hb dL_law_144 (by decide) ?_
  refine lv_iadd hx hb dL_law_145 ?_
  refine zw_eqi (y := nI (1 + 5 * t + 3)) (nI_add _ 3) ?_
  refine va_sld hx hb hX hbl hbA hS (pk_in (1 + 5 * t + 3) L (by omega) rfl (by omega)) dL_law_146 ?_
  refine zw_eqi (y := x3) (by rw [nI_clamp (by omega), ex3]) ?_
  refine zw_callw (ws := [(r0, .inr (1, [.ref ma, .int (nI ks.length), .int (nI o), .long (zk_o oc)])), (ma, .inl (cB, 20000, .inr (.inl g)))] ++ zx_wu q0 (nI (zk_px o)) (nI (zk_py o)) (nI (zk_pz o)) (cond (zf_nn x1 x2 x3) (cond (decide (k ∈ ks)) ks (zk_ins ks k)) ks) (zk_o oc) u2) (wc := zy_w r0 ma cB g o ks.length (zk_o oc)) (wr := zx_wu q0 (nI (zk_px o)) (nI (zk_py o)) (nI (zk_pz o)) (cond (zf_nn x1 x2 x3) (cond (decide (k ∈ ks)) ks (zk_ins ks k)) ks) (zk_o oc) u2) (va_runV (As := [.int x1, .int x2, .int x3]) (rest := [.int (cond (zf_nn x1 x2 x3) (cond (decide (k ∈ ks)) 0 1) (-1))]) ⟨hx, hb, hml, hown, htsL⟩ (zd_insert l dC dI r0 ma cB g o ks (zk_o oc) H.size x1 x2 x3 ho k hk1 (by omega) hR) (cwV 3 htsL gL_law_X1_insert rfl rfl rfl (by decide +kernel) ⟨Nat.le_of_ble_eq_true rfl, Nat.le_of_ble_eq_true rfl⟩) (zw_preWV (ci := 1) (q0 := 0) hPy hKy (hD.sub (ws' := zy_w r0 ma cB g o ks.length (zk_o oc)) [0, 1] (by decide) rfl) rfl rfl) rfl rfl hl.1 rfl (lv_room (Nat.le_of_ble_eq_true rfl)) dL_law_147 hr3) hP hD hS hA [0, 1] [2, 3] rfl rfl (by decide) (by decide) (fun g2 H locs hg hP hD hK3 hS => ?_)
  refine W.eq (g2 := F0 m 150 ls [.int (cond (zf_nn x1 x2 x3) (cond (decide (k ∈ ks)) 0 1) (-1)), .int (cond (zf_nn x1 x2 x3) (cond (decide (k ∈ ks)) 0 1) (-1))]) rfl ?_
  refine lv_icmp_eq (tgt := 574) hx hb dL_law_150 (by decide) (fun c_150 => ?_) (fun c_150 => absurd (rfl) c_150)
  refine W.widen (k := 4 + (t + 1)) (n := 20074 + 1024 * (t + 1)) (by omega) (by omega) ?_
  exact K (cond (zf_nn x1 x2 x3) (cond (decide (k ∈ ks)) ks (zk_ins ks k)) ks) (oc) u2 g2 H locs hu hg hoc (zl_len1 hlen) (hK2.app hK3) hP hD hS
set_option maxHeartbeats 4000000 in
set_option maxRecDepth 100000 in
/-- the law at a call of remove -/
theorem zl_remove {p : Program} {l : Launch} {e : Env} {s : State} {m : MethodId} {below : List Frame} {meth : Method} {c : Code} {dC : Nat → ClassId} {dI : Nat → Nat → Nat} {b L : Nat} {xs : Nat → Int32} (C0 : lw_At p s m meth c b L xs) {q0 r0 ma : Nat} {cB : ClassId} {o : Nat} (ho : o < 6) {t : Nat} (ht : t < 512) (hiL : 1 + 5 * t + 5 ≤ L) (hL : L ≤ 2561) {ks : List Nat} {oc : Option Nat} {u : zx_S} {g : Nat → Int64} {H : Heap} {locs : List Loc} (hG : zk_G ks u.2.2.1 u.2.2.2) (hR : zk_R ks g) (hoc : ∀ z, oc = some z → z < 1152921504606846976) (hlen : ks.length ≤ t) (hK : va_K (dC, dI) vwCl [(u.2.1, .long), (cB, .long)] s) (hP : va_P (dC, dI) vwCl (zl_w q0 u r0 ma cB g o ks (zk_o oc)) H) (hD : va_D (fun q : Nat => s.heap.size ≤ q) (zl_w q0 u r0 ma cB g o ks (zk_o oc))) (hS : va_S (fun q : Nat => s.heap.size ≤ q) s.heap H locs) {ls : Array Slot} (hl : lv_has ls 4 [(3, .int (nI (1 + 5 * t))), (2, .ref r0), (1, .ref q0), (0, .ref b)]) (K : zl_K p l e s m below meth c dC dI b q0 r0 ma cB o t ls) : W p l e room_1 s m #[Value.ref b] below meth c H locs (4 + t) (20074 + 1024 * t) (lw_Z below #[Value.ref b] s) (F0 m 155 ls []) := by
  obtain ⟨hx, hb, hr, hml, hown, hts, hX, hbl, hlocks, hgv⟩ := C0
  have hA : ∀ q : Nat, s.heap.size ≤ q → (fun q : Nat => s.heap.size ≤ q) q := fun _ h => h
  have hbA : ¬ (fun q : Nat => s.heap.size ≤ q) b := Nat.not_le.mpr hbl
  have hown : s.vm.findClass RL = some m.cls := hown
  have htsL : ∀ w ∈ wsL_law, w.before #[Value.ref b] s = true := fun w h => hts w (wsL_law_in w h)
  have hPx := hP.sub (ws' := zx_wu q0 (nI (zk_px o)) (nI (zk_py o)) (nI (zk_pz o)) ks (zk_o oc) u) [0, 1] rfl
  have hKx := hK.sub (tys' := [(u.2.1, .long)]) [0] rfl
  have hPy := hP.sub (ws' := zy_w r0 ma cB g o ks.length (zk_o oc)) [2, 3] rfl
  have hKy := hK.sub (tys' := [(cB, .long)]) [1] rfl
  have hr1 : 4 + t + 0 ≤ room_1.cells ∧ 20074 + 1024 * t + 0 ≤ room_1.slots := ⟨by show 4 + t + 0 ≤ 600000; omega, by show 20074 + 1024 * t + 0 ≤ 7302250; omega⟩
  have hr4 : 4 + t + 0 + 0 ≤ room_1.cells ∧ 20074 + 1024 * t + 0 + 0 ≤ room_1.slots := hr1
  obtain ⟨x1, ex1⟩ : ∃ y : Int32, y = xs (1 + 5 * t + 1) := ⟨_, rfl⟩
  obtain ⟨x2, ex2⟩ : ∃ y : Int32, y = xs (1 + 5 * t + 2) := ⟨_, rfl⟩
  obtain ⟨x3, ex3⟩ : ∃ y : Int32, y = xs (1 + 5 * t + 3) := ⟨_, rfl⟩
  obtain ⟨k, hk0, hk1⟩ := zl_key ho x1 x2 x3
  refine lv_aload_n hx hb dL_law_155 rfl (lv_at hl 2 rfl) ?_
  refine lv_aload_n hx hb dL_law_156 rfl (lv_at hl 3 rfl) ?_
  refine lv_iload_n hx hb dL_law_157 rfl (lv_at hl 0 rfl) ?_
  refine lv_iconst (v := 1) hx hb dL_law_158 (by decide) ?_
  refine lv_iadd hx hb dL_law_159 ?_
  refine zw_eqi (y := nI (1 + 5 * t + 1)) (nI_add _ 1) ?_
  refine va_sld hx hb hX hbl hbA hS (pk_in (1 + 5 * t + 1) L (by omega) rfl (by omega)) dL_law_160 ?_
  refine zw_eqi (y := x1) (by rw [nI_clamp (by omega), ex1]) ?_
  refine lv_aload_n hx hb dL_law_161 rfl (lv_at hl 3 rfl) ?_
  refine lv_iload_n hx hb dL_law_162 rfl (lv_at hl 0 rfl) ?_
  refine lv_iconst (v := 2) hx hb dL_law_163 (by decide) ?_
  refine lv_iadd hx hb dL_law_164 ?_
  refine zw_eqi (y := nI (1 + 5 * t + 2)) (nI_add _ 2) ?_
  refine va_sld hx hb hX hbl hbA hS (pk_in (1 + 5 * t + 2) L (by omega) rfl (by omega)) dL_law_165 ?_
  refine zw_eqi (y := x2) (by rw [nI_clamp (by omega), ex2]) ?_
  refine lv_aload_n hx hb dL_law_166 rfl (lv_at hl 3 rfl) ?_
  refine lv_iload_n hx hb dL_law_167 rfl (lv_at hl 0 rfl) ?_
  refine lv_iconst (v := 3) hx hb dL_law_168 (by decide) ?_
  refine lv_iadd hx hb dL_law_169 ?_
  refine zw_eqi (y := nI (1 + 5 * t + 3)) (nI_add _ 3) ?_
  refine va_sld hx hb hX hbl hbA hS (pk_in (1 + 5 * t + 3) L (by omega) rfl (by omega)) dL_law_170 ?_
  refine zw_eqi (y := x3) (by rw [nI_clamp (by omega), ex3]) ?_
  refine zw_callw (ws := zl_w q0 u r0 ma cB g o ks (zk_o oc)) (wc := zx_wu q0 (nI (zk_px o)) (nI (zk_py o)) (nI (zk_pz o)) ks (zk_o oc) u) (wr := zy_w r0 ma cB g o ks.length (zk_o oc)) (va_runV (As := [.int x1, .int x2, .int x3]) (rest := []) ⟨hx, hb, hml, hown, htsL⟩ (zc_remove l dC dI q0 u.1 u.2.1 u.2.2.1 u.2.2.2 (nI (zk_px o)) (nI (zk_py o)) (nI (zk_pz o)) ks (zk_o oc) H.size x1 x2 x3 k hk0 hG) (cwV 3 htsL gL_law_X0_remove rfl rfl rfl (by decide +kernel) ⟨Nat.le_of_ble_eq_true rfl, Nat.le_of_ble_eq_true rfl⟩) (zw_preWV (ci := 0) (q0 := 0) hPx hKx (hD.sub (ws' := zx_wu q0 (nI (zk_px o)) (nI (zk_py o)) (nI (zk_pz o)) ks (zk_o oc) u) [0, 1] (by decide) rfl) rfl rfl) rfl rfl hl.1 rfl (lv_room (Nat.le_of_ble_eq_true rfl)) dL_law_171 hr1) hP hD hS hA [0, 1] [2, 3] rfl rfl (by decide) (by decide) (fun u2 H locs hu hP hD hK2 hS => ?_)
  have hP : va_P (dC, dI) vwCl ([(r0, .inr (1, [.ref ma, .int (nI ks.length), .int (nI o), .long (zk_o oc)])), (ma, .inl (cB, 20000, .inr (.inl g)))] ++ zx_wu q0 (nI (zk_px o)) (nI (zk_py o)) (nI (zk_pz o)) (cond (zf_nn x1 x2 x3) (cond (decide (k ∈ ks)) (zk_del ks (zk_c ks k) (zk_c ks k + 1)) ks) ks) (zk_o oc) u2) H := hP
  have hD : va_D (fun q : Nat => s.heap.size ≤ q) ([(r0, .inr (1, [.ref ma, .int (nI ks.length), .int (nI o), .long (zk_o oc)])), (ma, .inl (cB, 20000, .inr (.inl g)))] ++ zx_wu q0 (nI (zk_px o)) (nI (zk_py o)) (nI (zk_pz o)) (cond (zf_nn x1 x2 x3) (cond (decide (k ∈ ks)) (zk_del ks (zk_c ks k) (zk_c ks k + 1)) ks) ks) (zk_o oc) u2) := hD
  have hPy := hP.sub (ws' := zy_w r0 ma cB g o ks.length (zk_o oc)) [0, 1] rfl
  refine W.eq (g2 := F0 m 174 ls [.int (cond (zf_nn x1 x2 x3) (cond (decide (k ∈ ks)) 1 0) (-1))]) rfl ?_
  refine lv_aload_n hx hb dL_law_174 rfl (lv_at hl 1 rfl) ?_
  refine lv_aload_n hx hb dL_law_175 rfl (lv_at hl 3 rfl) ?_
  refine lv_iload_n hx hb dL_law_176 rfl (lv_at hl 0 rfl) ?_
  refine lv_iconst (v := 1) hx hb dL_law_177 (by decide) ?_
  refine lv_iadd hx hb dL_law_178 ?_
  refine zw_eqi (y := nI (1 + 5 * t + 1)) (nI_add _ 1) ?_
  refine va_sld hx hb hX hbl hbA hS (pk_in (1 + 5 * t + 1) L (by omega) rfl (by omega)) dL_law_179 ?_
  refine zw_eqi (y := x1) (by rw [nI_clamp (by omega), ex1]) ?_
  refine lv_aload_n hx hb dL_law_180 rfl (lv_at hl 3 rfl) ?_
  refine lv_iload_n hx hb dL_law_181 rfl (lv_at hl 0 rfl) ?_
  refine lv_iconst (v := 2) hx hb dL_law_182 (by decide) ?_
  refine lv_iadd hx hb dL_law_183 ?_
  refine zw_eqi (y := nI (1 + 5 * t + 2)) (nI_add _ 2) ?_
  refine va_sld hx hb hX hbl hbA hS (pk_in (1 + 5 * t + 2) L (by omega) rfl (by omega)) dL_law_184 ?_
  refine zw_eqi (y := x2) (by rw [nI_clamp (by omega), ex2]) ?_
  refine lv_aload_n hx hb dL_law_185 rfl (lv_at hl 3 rfl) ?_
  refine lv_iload_n hx hb dL_law_186 rfl (lv_at hl 0 rfl) ?_
  refine lv_iconst (v := 3) hx hb dL_law_187 (by decide) ?_
  refine lv_iadd hx hb dL_law_188 ?_
  refine zw_eqi (y := nI (1 + 5 * t + 3)) (nI_add _ 3) ?_
  refine va_sld hx hb hX hbl hbA hS (pk_in (1 + 5 * t + 3) L (by omega) rfl (by omega)) dL_law_189 ?_
  refine zw_eqi (y := x3) (by rw [nI_clamp (by omega), ex3]) ?_
  refine zw_callw (ws := [(r0, .inr (1, [.ref ma, .int (nI ks.length), .int (nI o), .long (zk_o oc)])), (ma, .inl (cB, 20000, .inr (.inl g)))] ++ zx_wu q0 (nI (zk_px o)) (nI (zk_py o)) (nI (zk_pz o)) (cond (zf_nn x1 x2 x3) (cond (decide (k ∈ ks)) (zk_del ks (zk_c ks k) (zk_c ks k + 1)) ks) ks) (zk_o oc) u2) (wc := zy_w r0 ma cB g o ks.length (zk_o oc)) (wr := zx_wu q0 (nI (zk_px o)) (nI (zk_py o)) (nI (zk_pz o)) (cond (zf_nn x1 x2 x3) (cond (decide (k ∈ ks)) (zk_del ks (zk_c ks k) (zk_c ks k + 1)) ks) ks) (zk_o oc) u2) (va_runV (As := [.int x1, .int x2, .int x3]) (rest := [.int (cond (zf_nn x1 x2 x3) (cond (decide (k ∈ ks)) 1 0) (-1))]) ⟨hx, hb, hml, hown, htsL⟩ (zd_remove l dC dI r0 ma cB g o ks (zk_o oc) H.size x1 x2 x3 ho k hk1 hR) (cwV 3 htsL gL_law_X1_remove rfl rfl rfl (by decide +kernel) ⟨Nat.le_of_ble_eq_true rfl, Nat.le_of_ble_eq_true rfl⟩) (zw_preWV (ci := 1) (q0 := 0) hPy hKy (hD.sub (ws' := zy_w r0 ma cB g o ks.length (zk_o oc)) [0, 1] (by decide) rfl) rfl rfl) rfl rfl hl.1 rfl (lv_room (Nat.le_of_ble_eq_true rfl)) dL_law_190 hr4) hP hD hS hA [0, 1] [2, 3] rfl rfl (by decide) (by decide) (fun g2 H locs hg hP hD hK3 hS => ?_)
  refine W.eq (g2 := F0 m 193 ls [.int (cond (zf_nn x1 x2 x3) (cond (decide (k ∈ ks)) 1 0) (-1)), .int (cond (zf_nn x1 x2 x3) (cond (decide (k ∈ ks)) 1 0) (-1))]) rfl ?_
  refine lv_icmp_eq (tgt := 574) hx hb dL_law_193 (by decide) (fun c_193 => ?_) (fun c_193 => absurd (rfl) c_193)
  refine W.widen (k := 4 + (t + 1)) (n := 20074 + 1024 * (t + 1)) (by omega) (by omega) ?_
  exact K (cond (zf_nn x1 x2 x3) (cond (decide (k ∈ ks)) (zk_del ks (zk_c ks k) (zk_c ks k + 1)) ks) ks) (oc) u2 g2 H locs hu hg hoc (zl_len2 (Nat.le_succ _) hlen) (hK2.app hK3) hP hD hS
set_option maxHeartbeats 4000000 in
set_option maxRecDepth 100000 in
/-- the law at a call of choose -/
theorem zl_choose {p : Program} {l : Launch} {e : Env} {s : State} {m : MethodId} {below : List Frame} {meth : Method} {c : Code} {dC : Nat → ClassId} {dI : Nat → Nat → Nat} {b L : Nat} {xs : Nat → Int32} (C0 : lw_At p s m meth c b L xs) {q0 r0 ma : Nat} {cB : ClassId} {o : Nat} (ho : o < 6) {t : Nat} (ht : t < 512) (hiL : 1 + 5 * t + 5 ≤ L) (hL : L ≤ 2561) {ks : List Nat} {oc : Option Nat} {u : zx_S} {g : Nat → Int64} {H : Heap} {locs : List Loc} (hG : zk_G ks u.2.2.1 u.2.2.2) (hR : zk_R ks g) (hoc : ∀ z, oc = some z → z < 1152921504606846976) (hlen : ks.length ≤ t) (hK : va_K (dC, dI) vwCl [(u.2.1, .long), (cB, .long)] s) (hP : va_P (dC, dI) vwCl (zl_w q0 u r0 ma cB g o ks (zk_o oc)) H) (hD : va_D (fun q : Nat => s.heap.size ≤ q) (zl_w q0 u r0 ma cB g o ks (zk_o oc))) (hS : va_S (fun q : Nat => s.heap.size ≤ q) s.heap H locs) {ls : Array Slot} (hl : lv_has ls 4 [(3, .int (nI (1 + 5 * t))), (2, .ref r0), (1, .ref q0), (0, .ref b)]) (K : zl_K p l e s m below meth c dC dI b q0 r0 ma cB o t ls) : W p l e room_1 s m #[Value.ref b] below meth c H locs (4 + t) (20074 + 1024 * t) (lw_Z below #[Value.ref b] s) (F0 m 380 ls []) := by
  obtain ⟨hx, hb, hr, hml, hown, hts, hX, hbl, hlocks, hgv⟩ := C0
  have hA : ∀ q : Nat, s.heap.size ≤ q → (fun q : Nat => s.heap.size ≤ q) q := fun _ h => h
  have hbA : ¬ (fun q : Nat => s.heap.size ≤ q) b := Nat.not_le.mpr hbl
  have hown : s.vm.findClass RL = some m.cls := hown
  have htsL : ∀ w ∈ wsL_law, w.before #[Value.ref b] s = true := fun w h => hts w (wsL_law_in w h)
  have hPx := hP.sub (ws' := zx_wu q0 (nI (zk_px o)) (nI (zk_py o)) (nI (zk_pz o)) ks (zk_o oc) u) [0, 1] rfl
  have hKx := hK.sub (tys' := [(u.2.1, .long)]) [0] rfl
  have hPy := hP.sub (ws' := zy_w r0 ma cB g o ks.length (zk_o oc)) [2, 3] rfl
  have hKy := hK.sub (tys' := [(cB, .long)]) [1] rfl
  have hr1 : 4 + t + 0 ≤ room_1.cells ∧ 20074 + 1024 * t + 0 ≤ room_1.slots := ⟨by show 4 + t + 0 ≤ 600000; omega, by show 20074 + 1024 * t + 0 ≤ 7302250; omega⟩
  have hr4 : 4 + t + 0 + 0 ≤ room_1.cells ∧ 20074 + 1024 * t + 0 + 0 ≤ room_1.slots := hr1
  obtain ⟨x1, ex1⟩ : ∃ y : Int32, y = xs (1 + 5 * t + 1) := ⟨_, rfl⟩
  refine lv_aload_n hx hb dL_law_380 rfl (lv_at hl 2 rfl) ?_
  refine lv_aload_n hx hb dL_law_381 rfl (lv_at hl 3 rfl) ?_
  refine lv_iload_n hx hb dL_law_382 rfl (lv_at hl 0 rfl) ?_
  refine lv_iconst (v := 1) hx hb dL_law_383 (by decide) ?_
  refine lv_iadd hx hb dL_law_384 ?_
  refine zw_eqi (y := nI (1 + 5 * t + 1)) (nI_add _ 1) ?_
  refine va_sld hx hb hX hbl hbA hS (pk_in (1 + 5 * t + 1) L (by omega) rfl (by omega)) dL_law_385 ?_
  refine zw_eqi (y := x1) (by rw [nI_clamp (by omega), ex1]) ?_
  refine zw_callw (ws := zl_w q0 u r0 ma cB g o ks (zk_o oc)) (wc := zx_wu q0 (nI (zk_px o)) (nI (zk_py o)) (nI (zk_pz o)) ks (zk_o oc) u) (wr := zy_w r0 ma cB g o ks.length (zk_o oc)) (va_runV (As := [.int x1]) (rest := []) ⟨hx, hb, hml, hown, htsL⟩ (zc_choose l dC dI q0 u.1 u.2.1 u.2.2.1 u.2.2.2 (nI (zk_px o)) (nI (zk_py o)) (nI (zk_pz o)) ks (zk_o oc) H.size x1 hG) (cwV 1 htsL gL_law_X0_choose rfl rfl rfl (by decide +kernel) ⟨Nat.le_of_ble_eq_true rfl, Nat.le_of_ble_eq_true rfl⟩) (zw_preWV (ci := 0) (q0 := 0) hPx hKx (hD.sub (ws' := zx_wu q0 (nI (zk_px o)) (nI (zk_py o)) (nI (zk_pz o)) ks (zk_o oc) u) [0, 1] (by decide) rfl) rfl rfl) rfl rfl hl.1 rfl (lv_room (Nat.le_of_ble_eq_true rfl)) dL_law_386 hr1) hP hD hS hA [0, 1] [2, 3] rfl rfl (by decide) (by decide) (fun u2 H locs hu hP hD hK2 hS => ?_)
  have hP : va_P (dC, dI) vwCl ([(r0, .inr (1, [.ref ma, .int (nI ks.length), .int (nI o), .long (zk_o oc)])), (ma, .inl (cB, 20000, .inr (.inl g)))] ++ zx_wu q0 (nI (zk_px o)) (nI (zk_py o)) (nI (zk_pz o)) (ks) (zk_o (zs_at ks x1)) u2) H := hP
  have hD : va_D (fun q : Nat => s.heap.size ≤ q) ([(r0, .inr (1, [.ref ma, .int (nI ks.length), .int (nI o), .long (zk_o oc)])), (ma, .inl (cB, 20000, .inr (.inl g)))] ++ zx_wu q0 (nI (zk_px o)) (nI (zk_py o)) (nI (zk_pz o)) (ks) (zk_o (zs_at ks x1)) u2) := hD
  have hPy := hP.sub (ws' := zy_w r0 ma cB g o ks.length (zk_o oc)) [0, 1] rfl
  refine W.eq (g2 := F0 m 389 ls [.int (zb_I (zs_at ks x1).isSome)]) rfl ?_
  refine lv_aload_n hx hb dL_law_389 rfl (lv_at hl 1 rfl) ?_
  refine lv_aload_n hx hb dL_law_390 rfl (lv_at hl 3 rfl) ?_
  refine lv_iload_n hx hb dL_law_391 rfl (lv_at hl 0 rfl) ?_
  refine lv_iconst (v := 1) hx hb dL_law_392 (by decide) ?_
  refine lv_iadd hx hb dL_law_393 ?_
  refine zw_eqi (y := nI (1 + 5 * t + 1)) (nI_add _ 1) ?_
  refine va_sld hx hb hX hbl hbA hS (pk_in (1 + 5 * t + 1) L (by omega) rfl (by omega)) dL_law_394 ?_
  refine zw_eqi (y := x1) (by rw [nI_clamp (by omega), ex1]) ?_
  refine zw_callw (ws := [(r0, .inr (1, [.ref ma, .int (nI ks.length), .int (nI o), .long (zk_o oc)])), (ma, .inl (cB, 20000, .inr (.inl g)))] ++ zx_wu q0 (nI (zk_px o)) (nI (zk_py o)) (nI (zk_pz o)) (ks) (zk_o (zs_at ks x1)) u2) (wc := zy_w r0 ma cB g o ks.length (zk_o oc)) (wr := zx_wu q0 (nI (zk_px o)) (nI (zk_py o)) (nI (zk_pz o)) (ks) (zk_o (zs_at ks x1)) u2) (va_runV (As := [.int x1]) (rest := [.int (zb_I (zs_at ks x1).isSome)]) ⟨hx, hb, hml, hown, hts⟩ (zd_choose l dC dI r0 ma cB g o ks (zk_o oc) H.size x1 hR) (cwV 1 hts gL_law_X1_choose rfl rfl rfl (by decide +kernel) ⟨Nat.le_of_ble_eq_true rfl, Nat.le_of_ble_eq_true rfl⟩) (zw_preWV (ci := 1) (q0 := 0) hPy hKy (hD.sub (ws' := zy_w r0 ma cB g o ks.length (zk_o oc)) [0, 1] (by decide) rfl) rfl rfl) rfl rfl hl.1 rfl (lv_room (Nat.le_of_ble_eq_true rfl)) dL_law_395 hr4) hP hD hS hA [0, 1] [2, 3] rfl rfl (by decide) (by decide) (fun g2 H locs hg hP hD hK3 hS => ?_)
  refine W.eq (g2 := F0 m 398 ls [.int (zb_I (zs_at ks x1).isSome), .int (zb_I (zs_at ks x1).isSome)]) rfl ?_
  refine lv_icmp_eq (tgt := 574) hx hb dL_law_398 (by decide) (fun c_398 => ?_) (fun c_398 => absurd (rfl) c_398)
  refine W.widen (k := 4 + (t + 1)) (n := 20074 + 1024 * (t + 1)) (by omega) (by omega) ?_
  exact K (ks) (zs_at ks x1) u2 g2 H locs hu hg (zl_at hG.2.1) (by omega) (hK2.app hK3) hP hD hS
set_option maxHeartbeats 4000000 in
set_option maxRecDepth 100000 in
/-- the law at a call of seek -/
theorem zl_seek {p : Program} {l : Launch} {e : Env} {s : State} {m : MethodId} {below : List Frame} {meth : Method} {c : Code} {dC : Nat → ClassId} {dI : Nat → Nat → Nat} {b L : Nat} {xs : Nat → Int32} (C0 : lw_At p s m meth c b L xs) {q0 r0 ma : Nat} {cB : ClassId} {o : Nat} (ho : o < 6) {t : Nat} (ht : t < 512) (hiL : 1 + 5 * t + 5 ≤ L) (hL : L ≤ 2561) {ks : List Nat} {oc : Option Nat} {u : zx_S} {g : Nat → Int64} {H : Heap} {locs : List Loc} (hG : zk_G ks u.2.2.1 u.2.2.2) (hR : zk_R ks g) (hoc : ∀ z, oc = some z → z < 1152921504606846976) (hlen : ks.length ≤ t) (hK : va_K (dC, dI) vwCl [(u.2.1, .long), (cB, .long)] s) (hP : va_P (dC, dI) vwCl (zl_w q0 u r0 ma cB g o ks (zk_o oc)) H) (hD : va_D (fun q : Nat => s.heap.size ≤ q) (zl_w q0 u r0 ma cB g o ks (zk_o oc))) (hS : va_S (fun q : Nat => s.heap.size ≤ q) s.heap H locs) {ls : Array Slot} (hl : lv_has ls 4 [(3, .int (nI (1 + 5 * t))), (2, .ref r0), (1, .ref q0), (0, .ref b)]) (K : zl_K p l e s m below meth c dC dI b q0 r0 ma cB o t ls) : W p l e room_1 s m #[Value.ref b] below meth c H locs (4 + t) (20074 + 1024 * t) (lw_Z below #[Value.ref b] s) (F0 m 403 ls []) := by
  obtain ⟨hx, hb, hr, hml, hown, hts, hX, hbl, hlocks, hgv⟩ := C0
  have hA : ∀ q : Nat, s.heap.size ≤ q → (fun q : Nat => s.heap.size ≤ q) q := fun _ h => h
  have hbA : ¬ (fun q : Nat => s.heap.size ≤ q) b := Nat.not_le.mpr hbl
  have hown : s.vm.findClass RL = some m.cls := hown
  have htsL : ∀ w ∈ wsL_law, w.before #[Value.ref b] s = true := fun w h => hts w (wsL_law_in w h)
  have hPx := hP.sub (ws' := zx_wu q0 (nI (zk_px o)) (nI (zk_py o)) (nI (zk_pz o)) ks (zk_o oc) u) [0, 1] rfl
  have hKx := hK.sub (tys' := [(u.2.1, .long)]) [0] rfl
  have hPy := hP.sub (ws' := zy_w r0 ma cB g o ks.length (zk_o oc)) [2, 3] rfl
  have hKy := hK.sub (tys' := [(cB, .long)]) [1] rfl
  have hr1 : 4 + t + 0 ≤ room_1.cells ∧ 20074 + 1024 * t + 0 ≤ room_1.slots := ⟨by show 4 + t + 0 ≤ 600000; omega, by show 20074 + 1024 * t + 0 ≤ 7302250; omega⟩
  have hr4 : 4 + t + 0 + 0 ≤ room_1.cells ∧ 20074 + 1024 * t + 0 + 0 ≤ room_1.slots := hr1
  obtain ⟨x1, ex1⟩ : ∃ y : Int32, y = xs (1 + 5 * t + 1) := ⟨_, rfl⟩
  obtain ⟨x2, ex2⟩ : ∃ y : Int32, y = xs (1 + 5 * t + 2) := ⟨_, rfl⟩
  obtain ⟨x3, ex3⟩ : ∃ y : Int32, y = xs (1 + 5 * t + 3) := ⟨_, rfl⟩
  obtain ⟨k, hk0, hk1⟩ := zl_pk x1 x2 x3
  refine lv_aload_n hx hb dL_law_403 rfl (lv_at hl 2 rfl) ?_
  refine lv_aload_n hx hb dL_law_404 rfl (lv_at hl 3 rfl) ?_
  refine lv_iload_n hx hb dL_law_405 rfl (lv_at hl 0 rfl) ?_
  refine lv_iconst (v := 1) hx hb dL_law_406 (by decide) ?_
  refine lv_iadd hx hb dL_law_407 ?_
  refine zw_eqi (y := nI (1 + 5 * t + 1)) (nI_add _ 1) ?_
  refine va_sld hx hb hX hbl hbA hS (pk_in (1 + 5 * t + 1) L (by omega) rfl (by omega)) dL_law_408 ?_
  refine zw_eqi (y := x1) (by rw [nI_clamp (by omega), ex1]) ?_
  refine lv_aload_n hx hb dL_law_409 rfl (lv_at hl 3 rfl) ?_
  refine lv_iload_n hx hb dL_law_410 rfl (lv_at hl 0 rfl) ?_
  refine lv_iconst (v := 2) hx hb dL_law_411 (by decide) ?_
  refine lv_iadd hx hb dL_law_412 ?_
  refine zw_eqi (y := nI (1 + 5 * t + 2)) (nI_add _ 2) ?_
  refine va_sld hx hb hX hbl hbA hS (pk_in (1 + 5 * t + 2) L (by omega) rfl (by omega)) dL_law_413 ?_
  refine zw_eqi (y := x2) (by rw [nI_clamp (by omega), ex2]) ?_
  refine lv_aload_n hx hb dL_law_414 rfl (lv_at hl 3 rfl) ?_
  refine lv_iload_n hx hb dL_law_415 rfl (lv_at hl 0 rfl) ?_
  refine lv_iconst (v := 3) hx hb dL_law_416 (by decide) ?_
  refine lv_iadd hx hb dL_law_417 ?_
  refine zw_eqi (y := nI (1 + 5 * t + 3)) (nI_add _ 3) ?_
  refine va_sld hx hb hX hbl hbA hS (pk_in (1 + 5 * t + 3) L (by omega) rfl (by omega)) dL_law_418 ?_
  refine zw_eqi (y := x3) (by rw [nI_clamp (by omega), ex3]) ?_
  refine zw_callw (ws := zl_w q0 u r0 ma cB g o ks (zk_o oc)) (wc := zx_wu q0 (nI (zk_px o)) (nI (zk_py o)) (nI (zk_pz o)) ks (zk_o oc) u) (wr := zy_w r0 ma cB g o ks.length (zk_o oc)) (va_runV (As := [.int x1, .int x2, .int x3]) (rest := []) ⟨hx, hb, hml, hown, htsL⟩ (zc_seek l dC dI q0 u.1 u.2.1 u.2.2.1 u.2.2.2 (nI (zk_px o)) (nI (zk_py o)) (nI (zk_pz o)) ks (zk_o oc) H.size x1 x2 x3 k hk0 hG) (cwV 3 htsL gL_law_X0_seek rfl rfl rfl (by decide +kernel) ⟨Nat.le_of_ble_eq_true rfl, Nat.le_of_ble_eq_true rfl⟩) (zw_preWV (ci := 0) (q0 := 0) hPx hKx (hD.sub (ws' := zx_wu q0 (nI (zk_px o)) (nI (zk_py o)) (nI (zk_pz o)) ks (zk_o oc) u) [0, 1] (by decide) rfl) rfl rfl) rfl rfl hl.1 rfl (lv_room (Nat.le_of_ble_eq_true rfl)) dL_law_419 hr1) hP hD hS hA [0, 1] [2, 3] rfl rfl (by decide) (by decide) (fun u2 H locs hu hP hD hK2 hS => ?_)
  have hP : va_P (dC, dI) vwCl ([(r0, .inr (1, [.ref ma, .int (nI ks.length), .int (nI o), .long (zk_o oc)])), (ma, .inl (cB, 20000, .inr (.inl g)))] ++ zx_wu q0 (nI (zk_px o)) (nI (zk_py o)) (nI (zk_pz o)) (ks) (cond (zf_nn x1 x2 x3) (zk_o (zs_at ks (nI (zk_c ks k)))) (zk_o oc)) u2) H := hP
  have hD : va_D (fun q : Nat => s.heap.size ≤ q) ([(r0, .inr (1, [.ref ma, .int (nI ks.length), .int (nI o), .long (zk_o oc)])), (ma, .inl (cB, 20000, .inr (.inl g)))] ++ zx_wu q0 (nI (zk_px o)) (nI (zk_py o)) (nI (zk_pz o)) (ks) (cond (zf_nn x1 x2 x3) (zk_o (zs_at ks (nI (zk_c ks k)))) (zk_o oc)) u2) := hD
  have hPy := hP.sub (ws' := zy_w r0 ma cB g o ks.length (zk_o oc)) [0, 1] rfl
  refine W.eq (g2 := F0 m 422 ls [.int (cond (zf_nn x1 x2 x3) (zb_I (zs_at ks (nI (zk_c ks k))).isSome) 0)]) rfl ?_
  refine lv_aload_n hx hb dL_law_422 rfl (lv_at hl 1 rfl) ?_
  refine lv_aload_n hx hb dL_law_423 rfl (lv_at hl 3 rfl) ?_
  refine lv_iload_n hx hb dL_law_424 rfl (lv_at hl 0 rfl) ?_
  refine lv_iconst (v := 1) hx hb dL_law_425 (by decide) ?_
  refine lv_iadd hx hb dL_law_426 ?_
  refine zw_eqi (y := nI (1 + 5 * t + 1)) (nI_add _ 1) ?_
  refine va_sld hx hb hX hbl hbA hS (pk_in (1 + 5 * t + 1) L (by omega) rfl (by omega)) dL_law_427 ?_
  refine zw_eqi (y := x1) (by rw [nI_clamp (by omega), ex1]) ?_
  refine lv_aload_n hx hb dL_law_428 rfl (lv_at hl 3 rfl) ?_
  refine lv_iload_n hx hb dL_law_429 rfl (lv_at hl 0 rfl) ?_
  refine lv_iconst (v := 2) hx hb dL_law_430 (by decide) ?_
  refine lv_iadd hx hb dL_law_431 ?_
  refine zw_eqi (y := nI (1 + 5 * t + 2)) (nI_add _ 2) ?_
  refine va_sld hx hb hX hbl hbA hS (pk_in (1 + 5 * t + 2) L (by omega) rfl (by omega)) dL_law_432 ?_
  refine zw_eqi (y := x2) (by rw [nI_clamp (by omega), ex2]) ?_
  refine lv_aload_n hx hb dL_law_433 rfl (lv_at hl 3 rfl) ?_
  refine lv_iload_n hx hb dL_law_434 rfl (lv_at hl 0 rfl) ?_
  refine lv_iconst (v := 3) hx hb dL_law_435 (by decide) ?_
  refine lv_iadd hx hb dL_law_436 ?_
  refine zw_eqi (y := nI (1 + 5 * t + 3)) (nI_add _ 3) ?_
  refine va_sld hx hb hX hbl hbA hS (pk_in (1 + 5 * t + 3) L (by omega) rfl (by omega)) dL_law_437 ?_
  refine zw_eqi (y := x3) (by rw [nI_clamp (by omega), ex3]) ?_
  refine zw_callw (ws := [(r0, .inr (1, [.ref ma, .int (nI ks.length), .int (nI o), .long (zk_o oc)])), (ma, .inl (cB, 20000, .inr (.inl g)))] ++ zx_wu q0 (nI (zk_px o)) (nI (zk_py o)) (nI (zk_pz o)) (ks) (cond (zf_nn x1 x2 x3) (zk_o (zs_at ks (nI (zk_c ks k)))) (zk_o oc)) u2) (wc := zy_w r0 ma cB g o ks.length (zk_o oc)) (wr := zx_wu q0 (nI (zk_px o)) (nI (zk_py o)) (nI (zk_pz o)) (ks) (cond (zf_nn x1 x2 x3) (zk_o (zs_at ks (nI (zk_c ks k)))) (zk_o oc)) u2) (va_runV (As := [.int x1, .int x2, .int x3]) (rest := [.int (cond (zf_nn x1 x2 x3) (zb_I (zs_at ks (nI (zk_c ks k))).isSome) 0)]) ⟨hx, hb, hml, hown, hts⟩ (zd_seek l dC dI r0 ma cB g o ks (zk_o oc) H.size x1 x2 x3 k hk1 hR) (cwV 3 hts gL_law_X1_seek rfl rfl rfl (by decide +kernel) ⟨Nat.le_of_ble_eq_true rfl, Nat.le_of_ble_eq_true rfl⟩) (zw_preWV (ci := 1) (q0 := 0) hPy hKy (hD.sub (ws' := zy_w r0 ma cB g o ks.length (zk_o oc)) [0, 1] (by decide) rfl) rfl rfl) rfl rfl hl.1 rfl (lv_room (Nat.le_of_ble_eq_true rfl)) dL_law_438 hr4) hP hD hS hA [0, 1] [2, 3] rfl rfl (by decide) (by decide) (fun g2 H locs hg hP hD hK3 hS => ?_)
  refine W.eq (g2 := F0 m 441 ls [.int (cond (zf_nn x1 x2 x3) (zb_I (zs_at ks (nI (zk_c ks k))).isSome) 0), .int (cond (zf_nn x1 x2 x3) (zb_I (zs_at ks (nI (zk_c ks k))).isSome) 0)]) rfl ?_
  refine lv_icmp_eq (tgt := 574) hx hb dL_law_441 (by decide) (fun c_441 => ?_) (fun c_441 => absurd (rfl) c_441)
  refine W.widen (k := 4 + (t + 1)) (n := 20074 + 1024 * (t + 1)) (by omega) (by omega) ?_
  rw [zl_cond] at hP hD
  exact K (ks) (cond (zf_nn x1 x2 x3) (zs_at ks (nI (zk_c ks k))) oc) u2 g2 H locs hu hg (zl_condlt (zl_at hG.2.1) hoc) (by omega) (hK2.app hK3) hP hD hS
set_option maxHeartbeats 4000000 in
set_option maxRecDepth 100000 in
/-- the law at a call of next -/
theorem zl_next {p : Program} {l : Launch} {e : Env} {s : State} {m : MethodId} {below : List Frame} {meth : Method} {c : Code} {dC : Nat → ClassId} {dI : Nat → Nat → Nat} {b L : Nat} {xs : Nat → Int32} (C0 : lw_At p s m meth c b L xs) {q0 r0 ma : Nat} {cB : ClassId} {o : Nat} (ho : o < 6) {t : Nat} (ht : t < 512) (hiL : 1 + 5 * t + 5 ≤ L) (hL : L ≤ 2561) {ks : List Nat} {oc : Option Nat} {u : zx_S} {g : Nat → Int64} {H : Heap} {locs : List Loc} (hG : zk_G ks u.2.2.1 u.2.2.2) (hR : zk_R ks g) (hoc : ∀ z, oc = some z → z < 1152921504606846976) (hlen : ks.length ≤ t) (hK : va_K (dC, dI) vwCl [(u.2.1, .long), (cB, .long)] s) (hP : va_P (dC, dI) vwCl (zl_w q0 u r0 ma cB g o ks (zk_o oc)) H) (hD : va_D (fun q : Nat => s.heap.size ≤ q) (zl_w q0 u r0 ma cB g o ks (zk_o oc))) (hS : va_S (fun q : Nat => s.heap.size ≤ q) s.heap H locs) {ls : Array Slot} (hl : lv_has ls 4 [(3, .int (nI (1 + 5 * t))), (2, .ref r0), (1, .ref q0), (0, .ref b)]) (K : zl_K p l e s m below meth c dC dI b q0 r0 ma cB o t ls) : W p l e room_1 s m #[Value.ref b] below meth c H locs (4 + t) (20074 + 1024 * t) (lw_Z below #[Value.ref b] s) (F0 m 446 ls []) := by
  obtain ⟨hx, hb, hr, hml, hown, hts, hX, hbl, hlocks, hgv⟩ := C0
  have hA : ∀ q : Nat, s.heap.size ≤ q → (fun q : Nat => s.heap.size ≤ q) q := fun _ h => h
  have hbA : ¬ (fun q : Nat => s.heap.size ≤ q) b := Nat.not_le.mpr hbl
  have hown : s.vm.findClass RL = some m.cls := hown
  have htsL : ∀ w ∈ wsL_law, w.before #[Value.ref b] s = true := fun w h => hts w (wsL_law_in w h)
  have hPx := hP.sub (ws' := zx_wu q0 (nI (zk_px o)) (nI (zk_py o)) (nI (zk_pz o)) ks (zk_o oc) u) [0, 1] rfl
  have hKx := hK.sub (tys' := [(u.2.1, .long)]) [0] rfl
  have hPy := hP.sub (ws' := zy_w r0 ma cB g o ks.length (zk_o oc)) [2, 3] rfl
  have hKy := hK.sub (tys' := [(cB, .long)]) [1] rfl
  have hr1 : 4 + t + 0 ≤ room_1.cells ∧ 20074 + 1024 * t + 0 ≤ room_1.slots := ⟨by show 4 + t + 0 ≤ 600000; omega, by show 20074 + 1024 * t + 0 ≤ 7302250; omega⟩
  have hr4 : 4 + t + 0 + 0 ≤ room_1.cells ∧ 20074 + 1024 * t + 0 + 0 ≤ room_1.slots := hr1
  refine lv_aload_n hx hb dL_law_446 rfl (lv_at hl 2 rfl) ?_
  refine zw_callw (ws := zl_w q0 u r0 ma cB g o ks (zk_o oc)) (wc := zx_wu q0 (nI (zk_px o)) (nI (zk_py o)) (nI (zk_pz o)) ks (zk_o oc) u) (wr := zy_w r0 ma cB g o ks.length (zk_o oc)) (va_runV (As := []) (rest := []) ⟨hx, hb, hml, hown, htsL⟩ (zc_next l dC dI q0 u.1 u.2.1 u.2.2.1 u.2.2.2 (nI (zk_px o)) (nI (zk_py o)) (nI (zk_pz o)) ks (zk_o oc) H.size oc hoc rfl hG) (cwV 0 htsL gL_law_X0_next rfl rfl rfl (by decide +kernel) ⟨Nat.le_of_ble_eq_true rfl, Nat.le_of_ble_eq_true rfl⟩) (zw_preWV (ci := 0) (q0 := 0) hPx hKx (hD.sub (ws' := zx_wu q0 (nI (zk_px o)) (nI (zk_py o)) (nI (zk_pz o)) ks (zk_o oc) u) [0, 1] (by decide) rfl) rfl rfl) rfl rfl hl.1 rfl (lv_room (Nat.le_of_ble_eq_true rfl)) dL_law_447 hr1) hP hD hS hA [0, 1] [2, 3] rfl rfl (by decide) (by decide) (fun u2 H locs hu hP hD hK2 hS => ?_)
  have hP : va_P (dC, dI) vwCl ([(r0, .inr (1, [.ref ma, .int (nI ks.length), .int (nI o), .long (zk_o oc)])), (ma, .inl (cB, 20000, .inr (.inl g)))] ++ zx_wu q0 (nI (zk_px o)) (nI (zk_py o)) (nI (zk_pz o)) (ks) (zk_o (zs_at ks (nI (zk_c ks (zk_nx oc))))) u2) H := hP
  have hD : va_D (fun q : Nat => s.heap.size ≤ q) ([(r0, .inr (1, [.ref ma, .int (nI ks.length), .int (nI o), .long (zk_o oc)])), (ma, .inl (cB, 20000, .inr (.inl g)))] ++ zx_wu q0 (nI (zk_px o)) (nI (zk_py o)) (nI (zk_pz o)) (ks) (zk_o (zs_at ks (nI (zk_c ks (zk_nx oc))))) u2) := hD
  have hPy := hP.sub (ws' := zy_w r0 ma cB g o ks.length (zk_o oc)) [0, 1] rfl
  refine W.eq (g2 := F0 m 450 ls [.int (zb_I (zs_at ks (nI (zk_c ks (zk_nx oc)))).isSome)]) rfl ?_
  refine lv_aload_n hx hb dL_law_450 rfl (lv_at hl 1 rfl) ?_
  refine zw_callw (ws := [(r0, .inr (1, [.ref ma, .int (nI ks.length), .int (nI o), .long (zk_o oc)])), (ma, .inl (cB, 20000, .inr (.inl g)))] ++ zx_wu q0 (nI (zk_px o)) (nI (zk_py o)) (nI (zk_pz o)) (ks) (zk_o (zs_at ks (nI (zk_c ks (zk_nx oc))))) u2) (wc := zy_w r0 ma cB g o ks.length (zk_o oc)) (wr := zx_wu q0 (nI (zk_px o)) (nI (zk_py o)) (nI (zk_pz o)) (ks) (zk_o (zs_at ks (nI (zk_c ks (zk_nx oc))))) u2) (va_runV (As := []) (rest := [.int (zb_I (zs_at ks (nI (zk_c ks (zk_nx oc)))).isSome)]) ⟨hx, hb, hml, hown, hts⟩ (zd_next l dC dI r0 ma cB g o ks (zk_o oc) H.size oc hoc rfl hR) (cwV 0 hts gL_law_X1_next rfl rfl rfl (by decide +kernel) ⟨Nat.le_of_ble_eq_true rfl, Nat.le_of_ble_eq_true rfl⟩) (zw_preWV (ci := 1) (q0 := 0) hPy hKy (hD.sub (ws' := zy_w r0 ma cB g o ks.length (zk_o oc)) [0, 1] (by decide) rfl) rfl rfl) rfl rfl hl.1 rfl (lv_room (Nat.le_of_ble_eq_true rfl)) dL_law_451 hr4) hP hD hS hA [0, 1] [2, 3] rfl rfl (by decide) (by decide) (fun g2 H locs hg hP hD hK3 hS => ?_)
  refine W.eq (g2 := F0 m 454 ls [.int (zb_I (zs_at ks (nI (zk_c ks (zk_nx oc)))).isSome), .int (zb_I (zs_at ks (nI (zk_c ks (zk_nx oc)))).isSome)]) rfl ?_
  refine lv_icmp_eq (tgt := 574) hx hb dL_law_454 (by decide) (fun c_454 => ?_) (fun c_454 => absurd (rfl) c_454)
  refine W.widen (k := 4 + (t + 1)) (n := 20074 + 1024 * (t + 1)) (by omega) (by omega) ?_
  exact K (ks) (zs_at ks (nI (zk_c ks (zk_nx oc)))) u2 g2 H locs hu hg (zl_at hG.2.1) (by omega) (hK2.app hK3) hP hD hS
set_option maxHeartbeats 4000000 in
set_option maxRecDepth 100000 in
/-- the law at a call of previous -/
theorem zl_previous {p : Program} {l : Launch} {e : Env} {s : State} {m : MethodId} {below : List Frame} {meth : Method} {c : Code} {dC : Nat → ClassId} {dI : Nat → Nat → Nat} {b L : Nat} {xs : Nat → Int32} (C0 : lw_At p s m meth c b L xs) {q0 r0 ma : Nat} {cB : ClassId} {o : Nat} (ho : o < 6) {t : Nat} (ht : t < 512) (hiL : 1 + 5 * t + 5 ≤ L) (hL : L ≤ 2561) {ks : List Nat} {oc : Option Nat} {u : zx_S} {g : Nat → Int64} {H : Heap} {locs : List Loc} (hG : zk_G ks u.2.2.1 u.2.2.2) (hR : zk_R ks g) (hoc : ∀ z, oc = some z → z < 1152921504606846976) (hlen : ks.length ≤ t) (hK : va_K (dC, dI) vwCl [(u.2.1, .long), (cB, .long)] s) (hP : va_P (dC, dI) vwCl (zl_w q0 u r0 ma cB g o ks (zk_o oc)) H) (hD : va_D (fun q : Nat => s.heap.size ≤ q) (zl_w q0 u r0 ma cB g o ks (zk_o oc))) (hS : va_S (fun q : Nat => s.heap.size ≤ q) s.heap H locs) {ls : Array Slot} (hl : lv_has ls 4 [(3, .int (nI (1 + 5 * t))), (2, .ref r0), (1, .ref q0), (0, .ref b)]) (K : zl_K p l e s m below meth c dC dI b q0 r0 ma cB o t ls) : W p l e room_1 s m #[Value.ref b] below meth c H locs (4 + t) (20074 + 1024 * t) (lw_Z below #[Value.ref b] s) (F0 m 459 ls []) := by
  obtain ⟨hx, hb, hr, hml, hown, hts, hX, hbl, hlocks, hgv⟩ := C0
  have hA : ∀ q : Nat, s.heap.size ≤ q → (fun q : Nat => s.heap.size ≤ q) q := fun _ h => h
  have hbA : ¬ (fun q : Nat => s.heap.size ≤ q) b := Nat.not_le.mpr hbl
  have hown : s.vm.findClass RL = some m.cls := hown
  have htsL : ∀ w ∈ wsL_law, w.before #[Value.ref b] s = true := fun w h => hts w (wsL_law_in w h)
  have hPx := hP.sub (ws' := zx_wu q0 (nI (zk_px o)) (nI (zk_py o)) (nI (zk_pz o)) ks (zk_o oc) u) [0, 1] rfl
  have hKx := hK.sub (tys' := [(u.2.1, .long)]) [0] rfl
  have hPy := hP.sub (ws' := zy_w r0 ma cB g o ks.length (zk_o oc)) [2, 3] rfl
  have hKy := hK.sub (tys' := [(cB, .long)]) [1] rfl
  have hr1 : 4 + t + 0 ≤ room_1.cells ∧ 20074 + 1024 * t + 0 ≤ room_1.slots := ⟨by show 4 + t + 0 ≤ 600000; omega, by show 20074 + 1024 * t + 0 ≤ 7302250; omega⟩
  have hr4 : 4 + t + 0 + 0 ≤ room_1.cells ∧ 20074 + 1024 * t + 0 + 0 ≤ room_1.slots := hr1
  refine lv_aload_n hx hb dL_law_459 rfl (lv_at hl 2 rfl) ?_
  refine zw_callw (ws := zl_w q0 u r0 ma cB g o ks (zk_o oc)) (wc := zx_wu q0 (nI (zk_px o)) (nI (zk_py o)) (nI (zk_pz o)) ks (zk_o oc) u) (wr := zy_w r0 ma cB g o ks.length (zk_o oc)) (va_runV (As := []) (rest := []) ⟨hx, hb, hml, hown, htsL⟩ (zc_previous l dC dI q0 u.1 u.2.1 u.2.2.1 u.2.2.2 (nI (zk_px o)) (nI (zk_py o)) (nI (zk_pz o)) ks (zk_o oc) H.size oc hoc rfl hG) (cwV 0 htsL gL_law_X0_previous rfl rfl rfl (by decide +kernel) ⟨Nat.le_of_ble_eq_true rfl, Nat.le_of_ble_eq_true rfl⟩) (zw_preWV (ci := 0) (q0 := 0) hPx hKx (hD.sub (ws' := zx_wu q0 (nI (zk_px o)) (nI (zk_py o)) (nI (zk_pz o)) ks (zk_o oc) u) [0, 1] (by decide) rfl) rfl rfl) rfl rfl hl.1 rfl (lv_room (Nat.le_of_ble_eq_true rfl)) dL_law_460 hr1) hP hD hS hA [0, 1] [2, 3] rfl rfl (by decide) (by decide) (fun u2 H locs hu hP hD hK2 hS => ?_)
  have hP : va_P (dC, dI) vwCl ([(r0, .inr (1, [.ref ma, .int (nI ks.length), .int (nI o), .long (zk_o oc)])), (ma, .inl (cB, 20000, .inr (.inl g)))] ++ zx_wu q0 (nI (zk_px o)) (nI (zk_py o)) (nI (zk_pz o)) (ks) (zk_o (zs_at ks (nI (zk_pv ks oc) - 1))) u2) H := hP
  have hD : va_D (fun q : Nat => s.heap.size ≤ q) ([(r0, .inr (1, [.ref ma, .int (nI ks.length), .int (nI o), .long (zk_o oc)])), (ma, .inl (cB, 20000, .inr (.inl g)))] ++ zx_wu q0 (nI (zk_px o)) (nI (zk_py o)) (nI (zk_pz o)) (ks) (zk_o (zs_at ks (nI (zk_pv ks oc) - 1))) u2) := hD
  have hPy := hP.sub (ws' := zy_w r0 ma cB g o ks.length (zk_o oc)) [0, 1] rfl
  refine W.eq (g2 := F0 m 463 ls [.int (zb_I (zs_at ks (nI (zk_pv ks oc) - 1)).isSome)]) rfl ?_
  refine lv_aload_n hx hb dL_law_463 rfl (lv_at hl 1 rfl) ?_
  refine zw_callw (ws := [(r0, .inr (1, [.ref ma, .int (nI ks.length), .int (nI o), .long (zk_o oc)])), (ma, .inl (cB, 20000, .inr (.inl g)))] ++ zx_wu q0 (nI (zk_px o)) (nI (zk_py o)) (nI (zk_pz o)) (ks) (zk_o (zs_at ks (nI (zk_pv ks oc) - 1))) u2) (wc := zy_w r0 ma cB g o ks.length (zk_o oc)) (wr := zx_wu q0 (nI (zk_px o)) (nI (zk_py o)) (nI (zk_pz o)) (ks) (zk_o (zs_at ks (nI (zk_pv ks oc) - 1))) u2) (va_runV (As := []) (rest := [.int (zb_I (zs_at ks (nI (zk_pv ks oc) - 1)).isSome)]) ⟨hx, hb, hml, hown, hts⟩ (zd_previous l dC dI r0 ma cB g o ks (zk_o oc) H.size oc hoc rfl hR) (cwV 0 hts gL_law_X1_previous rfl rfl rfl (by decide +kernel) ⟨Nat.le_of_ble_eq_true rfl, Nat.le_of_ble_eq_true rfl⟩) (zw_preWV (ci := 1) (q0 := 0) hPy hKy (hD.sub (ws' := zy_w r0 ma cB g o ks.length (zk_o oc)) [0, 1] (by decide) rfl) rfl rfl) rfl rfl hl.1 rfl (lv_room (Nat.le_of_ble_eq_true rfl)) dL_law_464 hr4) hP hD hS hA [0, 1] [2, 3] rfl rfl (by decide) (by decide) (fun g2 H locs hg hP hD hK3 hS => ?_)
  refine W.eq (g2 := F0 m 467 ls [.int (zb_I (zs_at ks (nI (zk_pv ks oc) - 1)).isSome), .int (zb_I (zs_at ks (nI (zk_pv ks oc) - 1)).isSome)]) rfl ?_
  refine lv_icmp_eq (tgt := 574) hx hb dL_law_467 (by decide) (fun c_467 => ?_) (fun c_467 => absurd (rfl) c_467)
  refine W.widen (k := 4 + (t + 1)) (n := 20074 + 1024 * (t + 1)) (by omega) (by omega) ?_
  exact K (ks) (zs_at ks (nI (zk_pv ks oc) - 1)) u2 g2 H locs hu hg (zl_at hG.2.1) (by omega) (hK2.app hK3) hP hD hS
set_option maxHeartbeats 4000000 in
set_option maxRecDepth 100000 in
/-- the law at a call of cut -/
theorem zl_cut {p : Program} {l : Launch} {e : Env} {s : State} {m : MethodId} {below : List Frame} {meth : Method} {c : Code} {dC : Nat → ClassId} {dI : Nat → Nat → Nat} {b L : Nat} {xs : Nat → Int32} (C0 : lw_At p s m meth c b L xs) {q0 r0 ma : Nat} {cB : ClassId} {o : Nat} (ho : o < 6) {t : Nat} (ht : t < 512) (hiL : 1 + 5 * t + 5 ≤ L) (hL : L ≤ 2561) {ks : List Nat} {oc : Option Nat} {u : zx_S} {g : Nat → Int64} {H : Heap} {locs : List Loc} (hG : zk_G ks u.2.2.1 u.2.2.2) (hR : zk_R ks g) (hoc : ∀ z, oc = some z → z < 1152921504606846976) (hlen : ks.length ≤ t) (hK : va_K (dC, dI) vwCl [(u.2.1, .long), (cB, .long)] s) (hP : va_P (dC, dI) vwCl (zl_w q0 u r0 ma cB g o ks (zk_o oc)) H) (hD : va_D (fun q : Nat => s.heap.size ≤ q) (zl_w q0 u r0 ma cB g o ks (zk_o oc))) (hS : va_S (fun q : Nat => s.heap.size ≤ q) s.heap H locs) {ls : Array Slot} (hl : lv_has ls 4 [(3, .int (nI (1 + 5 * t))), (2, .ref r0), (1, .ref q0), (0, .ref b)]) (K : zl_K p l e s m below meth c dC dI b q0 r0 ma cB o t ls) : W p l e room_1 s m #[Value.ref b] below meth c H locs (4 + t) (20074 + 1024 * t) (lw_Z below #[Value.ref b] s) (F0 m 521 ls []) := by
  obtain ⟨hx, hb, hr, hml, hown, hts, hX, hbl, hlocks, hgv⟩ := C0
  have hA : ∀ q : Nat, s.heap.size ≤ q → (fun q : Nat => s.heap.size ≤ q) q := fun _ h => h
  have hbA : ¬ (fun q : Nat => s.heap.size ≤ q) b := Nat.not_le.mpr hbl
  have hown : s.vm.findClass RL = some m.cls := hown
  have htsL : ∀ w ∈ wsL_law, w.before #[Value.ref b] s = true := fun w h => hts w (wsL_law_in w h)
  have hPx := hP.sub (ws' := zx_wu q0 (nI (zk_px o)) (nI (zk_py o)) (nI (zk_pz o)) ks (zk_o oc) u) [0, 1] rfl
  have hKx := hK.sub (tys' := [(u.2.1, .long)]) [0] rfl
  have hPy := hP.sub (ws' := zy_w r0 ma cB g o ks.length (zk_o oc)) [2, 3] rfl
  have hKy := hK.sub (tys' := [(cB, .long)]) [1] rfl
  have hr1 : 4 + t + 0 ≤ room_1.cells ∧ 20074 + 1024 * t + 0 ≤ room_1.slots := ⟨by show 4 + t + 0 ≤ 600000; omega, by show 20074 + 1024 * t + 0 ≤ 7302250; omega⟩
  have hr4 : 4 + t + 0 + 0 ≤ room_1.cells ∧ 20074 + 1024 * t + 0 + 0 ≤ room_1.slots := hr1
  obtain ⟨x1, ex1⟩ : ∃ y : Int32, y = xs (1 + 5 * t + 1) := ⟨_, rfl⟩
  obtain ⟨x2, ex2⟩ : ∃ y : Int32, y = xs (1 + 5 * t + 2) := ⟨_, rfl⟩
  obtain ⟨x3, ex3⟩ : ∃ y : Int32, y = xs (1 + 5 * t + 3) := ⟨_, rfl⟩
  obtain ⟨x4, ex4⟩ : ∃ y : Int32, y = xs (1 + 5 * t + 4) := ⟨_, rfl⟩
  refine lv_aload_n hx hb dL_law_521 rfl (lv_at hl 2 rfl) ?_
  refine lv_aload_n hx hb dL_law_522 rfl (lv_at hl 3 rfl) ?_
  refine lv_iload_n hx hb dL_law_523 rfl (lv_at hl 0 rfl) ?_
  refine lv_iconst (v := 1) hx hb dL_law_524 (by decide) ?_
  refine lv_iadd hx hb dL_law_525 ?_
  refine zw_eqi (y := nI (1 + 5 * t + 1)) (nI_add _ 1) ?_
  refine va_sld hx hb hX hbl hbA hS (pk_in (1 + 5 * t + 1) L (by omega) rfl (by omega)) dL_law_526 ?_
  refine zw_eqi (y := x1) (by rw [nI_clamp (by omega), ex1]) ?_
  refine lv_aload_n hx hb dL_law_527 rfl (lv_at hl 3 rfl) ?_
  refine lv_iload_n hx hb dL_law_528 rfl (lv_at hl 0 rfl) ?_
  refine lv_iconst (v := 2) hx hb dL_law_529 (by decide) ?_
  refine lv_iadd hx hb dL_law_530 ?_
  refine zw_eqi (y := nI (1 + 5 * t + 2)) (nI_add _ 2) ?_
  refine va_sld hx hb hX hbl hbA hS (pk_in (1 + 5 * t + 2) L (by omega) rfl (by omega)) dL_law_531 ?_
  refine zw_eqi (y := x2) (by rw [nI_clamp (by omega), ex2]) ?_
  refine lv_aload_n hx hb dL_law_532 rfl (lv_at hl 3 rfl) ?_
  refine lv_iload_n hx hb dL_law_533 rfl (lv_at hl 0 rfl) ?_
  refine lv_iconst (v := 3) hx hb dL_law_534 (by decide) ?_
  refine lv_iadd hx hb dL_law_535 ?_
  refine zw_eqi (y := nI (1 + 5 * t + 3)) (nI_add _ 3) ?_
  refine va_sld hx hb hX hbl hbA hS (pk_in (1 + 5 * t + 3) L (by omega) rfl (by omega)) dL_law_536 ?_
  refine zw_eqi (y := x3) (by rw [nI_clamp (by omega), ex3]) ?_
  refine lv_aload_n hx hb dL_law_537 rfl (lv_at hl 3 rfl) ?_
  refine lv_iload_n hx hb dL_law_538 rfl (lv_at hl 0 rfl) ?_
  refine lv_iconst (v := 4) hx hb dL_law_539 (by decide) ?_
  refine lv_iadd hx hb dL_law_540 ?_
  refine zw_eqi (y := nI (1 + 5 * t + 4)) (nI_add _ 4) ?_
  refine va_sld hx hb hX hbl hbA hS (pk_in (1 + 5 * t + 4) L (by omega) rfl (by omega)) dL_law_541 ?_
  refine zw_eqi (y := x4) (by rw [nI_clamp (by omega), ex4]) ?_
  refine zw_callw (ws := zl_w q0 u r0 ma cB g o ks (zk_o oc)) (wc := zx_wu q0 (nI (zk_px o)) (nI (zk_py o)) (nI (zk_pz o)) ks (zk_o oc) u) (wr := zy_w r0 ma cB g o ks.length (zk_o oc)) (va_runV (As := [.int x1, .int x2, .int x3, .int x4]) (rest := []) ⟨hx, hb, hml, hown, htsL⟩ (zc_cut l dC dI q0 u.1 u.2.1 u.2.2.1 u.2.2.2 (nI (zk_px o)) (nI (zk_py o)) (nI (zk_pz o)) ks (zk_o oc) H.size x1 x2 x3 x4 hG) (cwV 4 htsL gL_law_X0_cut rfl rfl rfl (by decide +kernel) ⟨Nat.le_of_ble_eq_true rfl, Nat.le_of_ble_eq_true rfl⟩) (zw_preWV (ci := 0) (q0 := 0) hPx hKx (hD.sub (ws' := zx_wu q0 (nI (zk_px o)) (nI (zk_py o)) (nI (zk_pz o)) ks (zk_o oc) u) [0, 1] (by decide) rfl) rfl rfl) rfl rfl hl.1 rfl (lv_room (Nat.le_of_ble_eq_true rfl)) dL_law_542 hr1) hP hD hS hA [0, 1] [2, 3] rfl rfl (by decide) (by decide) (fun u2 H locs hu hP hD hK2 hS => ?_)
  have hP : va_P (dC, dI) vwCl ([(r0, .inr (1, [.ref ma, .int (nI ks.length), .int (nI o), .long (zk_o oc)])), (ma, .inl (cB, 20000, .inr (.inl g)))] ++ zx_wu q0 (nI (zk_px o)) (nI (zk_py o)) (nI (zk_pz o)) (cond (zs_bad x1) ks (zk_del ks (zk_st ks x1 x2 x3 x4) (zk_en ks x1 x2 x3 x4))) (zk_o oc) u2) H := hP
  have hD : va_D (fun q : Nat => s.heap.size ≤ q) ([(r0, .inr (1, [.ref ma, .int (nI ks.length), .int (nI o), .long (zk_o oc)])), (ma, .inl (cB, 20000, .inr (.inl g)))] ++ zx_wu q0 (nI (zk_px o)) (nI (zk_py o)) (nI (zk_pz o)) (cond (zs_bad x1) ks (zk_del ks (zk_st ks x1 x2 x3 x4) (zk_en ks x1 x2 x3 x4))) (zk_o oc) u2) := hD
  have hPy := hP.sub (ws' := zy_w r0 ma cB g o ks.length (zk_o oc)) [0, 1] rfl
  refine W.eq (g2 := F0 m 545 ls [.int (cond (zs_bad x1) (-1) (nI (zk_en ks x1 x2 x3 x4) - nI (zk_st ks x1 x2 x3 x4)))]) rfl ?_
  refine lv_aload_n hx hb dL_law_545 rfl (lv_at hl 1 rfl) ?_
  refine lv_aload_n hx hb dL_law_546 rfl (lv_at hl 3 rfl) ?_
  refine lv_iload_n hx hb dL_law_547 rfl (lv_at hl 0 rfl) ?_
  refine lv_iconst (v := 1) hx hb dL_law_548 (by decide) ?_
  refine lv_iadd hx hb dL_law_549 ?_
  refine zw_eqi (y := nI (1 + 5 * t + 1)) (nI_add _ 1) ?_
  refine va_sld hx hb hX hbl hbA hS (pk_in (1 + 5 * t + 1) L (by omega) rfl (by omega)) dL_law_550 ?_
  refine zw_eqi (y := x1) (by rw [nI_clamp (by omega), ex1]) ?_
  refine lv_aload_n hx hb dL_law_551 rfl (lv_at hl 3 rfl) ?_
  refine lv_iload_n hx hb dL_law_552 rfl (lv_at hl 0 rfl) ?_
  refine lv_iconst (v := 2) hx hb dL_law_553 (by decide) ?_
  refine lv_iadd hx hb dL_law_554 ?_
  refine zw_eqi (y := nI (1 + 5 * t + 2)) (nI_add _ 2) ?_
  refine va_sld hx hb hX hbl hbA hS (pk_in (1 + 5 * t + 2) L (by omega) rfl (by omega)) dL_law_555 ?_
  refine zw_eqi (y := x2) (by rw [nI_clamp (by omega), ex2]) ?_
  refine lv_aload_n hx hb dL_law_556 rfl (lv_at hl 3 rfl) ?_
  refine lv_iload_n hx hb dL_law_557 rfl (lv_at hl 0 rfl) ?_
  refine lv_iconst (v := 3) hx hb dL_law_558 (by decide) ?_
  refine lv_iadd hx hb dL_law_559 ?_
  refine zw_eqi (y := nI (1 + 5 * t + 3)) (nI_add _ 3) ?_
  refine va_sld hx hb hX hbl hbA hS (pk_in (1 + 5 * t + 3) L (by omega) rfl (by omega)) dL_law_560 ?_
  refine zw_eqi (y := x3) (by rw [nI_clamp (by omega), ex3]) ?_
  refine lv_aload_n hx hb dL_law_561 rfl (lv_at hl 3 rfl) ?_
  refine lv_iload_n hx hb dL_law_562 rfl (lv_at hl 0 rfl) ?_
  refine lv_iconst (v := 4) hx hb dL_law_563 (by decide) ?_
  refine lv_iadd hx hb dL_law_564 ?_
  refine zw_eqi (y := nI (1 + 5 * t + 4)) (nI_add _ 4) ?_
  refine va_sld hx hb hX hbl hbA hS (pk_in (1 + 5 * t + 4) L (by omega) rfl (by omega)) dL_law_565 ?_
  refine zw_eqi (y := x4) (by rw [nI_clamp (by omega), ex4]) ?_
  refine zw_callw (ws := [(r0, .inr (1, [.ref ma, .int (nI ks.length), .int (nI o), .long (zk_o oc)])), (ma, .inl (cB, 20000, .inr (.inl g)))] ++ zx_wu q0 (nI (zk_px o)) (nI (zk_py o)) (nI (zk_pz o)) (cond (zs_bad x1) ks (zk_del ks (zk_st ks x1 x2 x3 x4) (zk_en ks x1 x2 x3 x4))) (zk_o oc) u2) (wc := zy_w r0 ma cB g o ks.length (zk_o oc)) (wr := zx_wu q0 (nI (zk_px o)) (nI (zk_py o)) (nI (zk_pz o)) (cond (zs_bad x1) ks (zk_del ks (zk_st ks x1 x2 x3 x4) (zk_en ks x1 x2 x3 x4))) (zk_o oc) u2) (va_runV (As := [.int x1, .int x2, .int x3, .int x4]) (rest := [.int (cond (zs_bad x1) (-1) (nI (zk_en ks x1 x2 x3 x4) - nI (zk_st ks x1 x2 x3 x4)))]) ⟨hx, hb, hml, hown, hts⟩ (zd_cut l dC dI r0 ma cB g o ks (zk_o oc) H.size x1 x2 x3 x4 hR) (cwV 4 hts gL_law_X1_cut rfl rfl rfl (by decide +kernel) ⟨Nat.le_of_ble_eq_true rfl, Nat.le_of_ble_eq_true rfl⟩) (zw_preWV (ci := 1) (q0 := 0) hPy hKy (hD.sub (ws' := zy_w r0 ma cB g o ks.length (zk_o oc)) [0, 1] (by decide) rfl) rfl rfl) rfl rfl hl.1 rfl (lv_room (Nat.le_of_ble_eq_true rfl)) dL_law_566 hr4) hP hD hS hA [0, 1] [2, 3] rfl rfl (by decide) (by decide) (fun g2 H locs hg hP hD hK3 hS => ?_)
  refine W.eq (g2 := F0 m 569 ls [.int (cond (zs_bad x1) (-1) (nI (zk_en ks x1 x2 x3 x4) - nI (zk_st ks x1 x2 x3 x4))), .int (cond (zs_bad x1) (-1) (nI (zk_en ks x1 x2 x3 x4) - nI (zk_st ks x1 x2 x3 x4)))]) rfl ?_
  refine lv_icmp_eq (tgt := 574) hx hb dL_law_569 (by decide) (fun c_569 => ?_) (fun c_569 => absurd (rfl) c_569)
  refine W.widen (k := 4 + (t + 1)) (n := 20074 + 1024 * (t + 1)) (by omega) (by omega) ?_
  exact K (cond (zs_bad x1) ks (zk_del ks (zk_st ks x1 x2 x3 x4) (zk_en ks x1 x2 x3 x4))) (oc) u2 g2 H locs hu hg hoc (zl_len3 hG.1 hG.2.1 hlen) (hK2.app hK3) hP hD hS
end
section
/-! Own rows: the law's loop and its entry -/
theorem zl_cmp {L i : Nat} (hL : L ≤ 2561) (hi : i ≤ 4000) : nI L - 5 < nI i ↔ L < i + 5 := by
  have h := pk_sub_toInt (a := L) (b := 5) (by omega) (by omega)
  rw [Int32.lt_iff_toInt_lt, show (5 : Int32) = nI 5 from rfl, h, nI_toInt (by omega)]
  omega
set_option maxHeartbeats 4000000 in
set_option maxRecDepth 100000 in
/-- THE LAW'S LOOP: behind t calls, both objects hold the keys ks, their cursors stand at oc -/
theorem zl_loop {p : Program} {l : Launch} {e : Env} {s : State} {m : MethodId} {below : List Frame} {meth : Method} {c : Code} {dC : Nat → ClassId} {dI : Nat → Nat → Nat} {b L : Nat} {xs : Nat → Int32} (hL : L ≤ 2561) (C0 : lw_At p s m meth c b L xs) {q0 r0 ma : Nat} {cB : ClassId} {o : Nat} (ho : o < 6) :
    ∀ (n t : Nat), t ≤ 512 → L < 1 + 5 * t + 5 * n → ∀ (ks : List Nat) (oc : Option Nat) (u : zx_S) (g : Nat → Int64) (H : Heap) (locs : List Loc), zk_G ks u.2.2.1 u.2.2.2 → zk_R ks g → (∀ z, oc = some z → z < 1152921504606846976) → ks.length ≤ t → va_K (dC, dI) vwCl [(u.2.1, .long), (cB, .long)] s → va_P (dC, dI) vwCl (zl_w q0 u r0 ma cB g o ks (zk_o oc)) H → va_D (fun q : Nat => s.heap.size ≤ q) (zl_w q0 u r0 ma cB g o ks (zk_o oc)) → va_S (fun q : Nat => s.heap.size ≤ q) s.heap H locs → ∀ ls : Array Slot, lv_has ls 4 [(3, .int (nI (1 + 5 * t))), (2, .ref r0), (1, .ref q0), (0, .ref b)] → W p l e room_1 s m #[Value.ref b] below meth c H locs (4 + t) (20074 + 1024 * t) (lw_Z below #[Value.ref b] s) (F0 m 28 ls []) := by
  obtain ⟨hx, hb, hr, hml, hown, hts, hX, hbl, hlocks, hgv⟩ := id C0
  have hbA : ¬ (fun q : Nat => s.heap.size ≤ q) b := Nat.not_le.mpr hbl
  have STOP : ∀ (t : Nat) (H : Heap) (locs : List Loc) (ls : Array Slot), t ≤ 512 → va_S (fun q : Nat => s.heap.size ≤ q) s.heap H locs → W p l e room_1 s m #[Value.ref b] below meth c H locs (4 + t) (20074 + 1024 * t) (lw_Z below #[Value.ref b] s) (F0 m 580 ls []) := by
    intro t H locs ls ht hS
    refine lv_iconst (v := 1) hx hb dL_law_580 (by decide) ?_
    refine va_forget (fun q hq => hS.2.2 q hq) ?_
    refine W.widen (k := 600000) (n := 7302250) (by omega) (by omega) ?_
    exact lw_ret hx hb hr hlocks dL_law_581
  intro n
  induction n with
  | zero =>
    intro t ht hn ks oc u g H locs hG hR hoc hlen hK hP hD hS ls hl
    refine lv_iload_n hx hb dL_law_28 rfl (lv_at hl 0 rfl) ?_
    refine lv_aload_n hx hb dL_law_29 rfl (lv_at hl 3 rfl) ?_
    refine va_slen hx hb hX hbl hbA hS dL_law_30 ?_
    refine lv_iconst (v := 5) hx hb dL_law_31 (by decide) ?_
    refine lv_isub hx hb dL_law_32 ?_
    refine lv_icmp_gt (tgt := 580) hx hb dL_law_33 (by decide) (fun c_33 => ?_) (fun c_33 => absurd ((zl_cmp hL (by omega)).mpr (by omega)) c_33)
    exact STOP t H locs ls ht hS
  | succ n ih =>
    intro t ht hn ks oc u g H locs hG hR hoc hlen hK hP hD hS ls hl
    refine lv_iload_n hx hb dL_law_28 rfl (lv_at hl 0 rfl) ?_
    refine lv_aload_n hx hb dL_law_29 rfl (lv_at hl 3 rfl) ?_
    refine va_slen hx hb hX hbl hbA hS dL_law_30 ?_
    refine lv_iconst (v := 5) hx hb dL_law_31 (by decide) ?_
    refine lv_isub hx hb dL_law_32 ?_
    refine lv_icmp_gt (tgt := 580) hx hb dL_law_33 (by decide) (fun c_33 => ?_) (fun c_33 => ?_)
    · exact STOP t H locs ls ht hS
    · have hiL : 1 + 5 * t + 5 ≤ L := Nat.le_of_not_lt (fun q => c_33 ((zl_cmp hL (by omega)).mpr q))
      have ht2 : t < 512 := by omega
      have K : zl_K p l e s m below meth c dC dI b q0 r0 ma cB o t ls := by
        intro ks2 oc2 u2 g2 H2 locs2 hG2 hR2 hoc2 hlen2 hK2 hP2 hD2 hS2
        refine lv_iinc (v := nI (1 + 5 * (t + 1))) (lv' := [(3, .int (nI (1 + 5 * (t + 1)))), (2, .ref r0), (1, .ref q0), (0, .ref b)]) hx hb dL_law_574 hl (k := 0) rfl (nI_add _ 5) (by decide) rfl (fun ls hl => ?_)
        refine lv_goto (tgt := 28) hx hb dL_law_577 (by decide) ?_
        exact ih (t + 1) (by omega) (by omega) ks2 oc2 u2 g2 H2 locs2 hG2 hR2 hoc2 hlen2 hK2 hP2 hD2 hS2 ls hl
      refine lv_aload_n hx hb dL_law_36 rfl (lv_at hl 3 rfl) ?_
      refine lv_iload_n hx hb dL_law_37 rfl (lv_at hl 0 rfl) ?_
      refine va_sld hx hb hX hbl hbA hS (pk_in (1 + 5 * t) L (by omega) rfl (by omega)) dL_law_38 ?_
      refine lv_bipush (v := 15) hx hb dL_law_39 (by decide) ?_
      refine lv_iand hx hb dL_law_41 ?_
      obtain ⟨j, hj, ej⟩ := pk_andE (xs (nI (1 + 5 * t)).toNatClampNeg) (m := 15) 4 (by decide)
      have hj : j < 16 := hj
      refine zw_eqi (y := nI j) ej ?_
      clear ej
      match j, hj with
      | 0, _ =>
        refine lv_tableIn (tgt := 112) hx hb dL_law_42 (by decide) (by decide) rfl (by decide) ?_
        exact zl_insert C0 ho ht2 hiL hL hG hR hoc hlen hK hP hD hS hl K
      | 1, _ =>
        refine lv_tableIn (tgt := 155) hx hb dL_law_42 (by decide) (by decide) rfl (by decide) ?_
        exact zl_remove C0 ho ht2 hiL hL hG hR hoc hlen hK hP hD hS hl K
      | 2, _ =>
        refine lv_tableIn (tgt := 198) hx hb dL_law_42 (by decide) (by decide) rfl (by decide) ?_
        exact zl_has C0 ho ht2 hiL hL hG hR hoc hlen hK hP hD hS hl K
      | 3, _ =>
        refine lv_tableIn (tgt := 241) hx hb dL_law_42 (by decide) (by decide) rfl (by decide) ?_
        exact zl_count C0 ho ht2 hiL hL hG hR hoc hlen hK hP hD hS hl K
      | 4, _ =>
        refine lv_tableIn (tgt := 294) hx hb dL_law_42 (by decide) (by decide) rfl (by decide) ?_
        exact zl_different C0 ho ht2 hiL hL hG hR hoc hlen hK hP hD hS hl K
      | 5, _ =>
        refine lv_tableIn (tgt := 337) hx hb dL_law_42 (by decide) (by decide) rfl (by decide) ?_
        exact zl_rank C0 ho ht2 hiL hL hG hR hoc hlen hK hP hD hS hl K
      | 6, _ =>
        refine lv_tableIn (tgt := 380) hx hb dL_law_42 (by decide) (by decide) rfl (by decide) ?_
        exact zl_choose C0 ho ht2 hiL hL hG hR hoc hlen hK hP hD hS hl K
      | 7, _ =>
        refine lv_tableIn (tgt := 403) hx hb dL_law_42 (by decide) (by decide) rfl (by decide) ?_
        exact zl_seek C0 ho ht2 hiL hL hG hR hoc hlen hK hP hD hS hl K
      | 8, _ =>
        refine lv_tableIn (tgt := 446) hx hb dL_law_42 (by decide) (by decide) rfl (by decide) ?_
        exact zl_next C0 ho ht2 hiL hL hG hR hoc hlen hK hP hD hS hl K
      | 9, _ =>
        refine lv_tableIn (tgt := 459) hx hb dL_law_42 (by decide) (by decide) rfl (by decide) ?_
        exact zl_previous C0 ho ht2 hiL hL hG hR hoc hlen hK hP hD hS hl K
      | 10, _ =>
        refine lv_tableIn (tgt := 472) hx hb dL_law_42 (by decide) (by decide) rfl (by decide) ?_
        exact zl_told C0 ho ht2 hiL hL hG hR hoc hlen hK hP hD hS hl K
      | 11, _ =>
        refine lv_tableIn (tgt := 495) hx hb dL_law_42 (by decide) (by decide) rfl (by decide) ?_
        exact zl_stands C0 ho ht2 hiL hL hG hR hoc hlen hK hP hD hS hl K
      | 12, _ =>
        refine lv_tableIn (tgt := 508) hx hb dL_law_42 (by decide) (by decide) rfl (by decide) ?_
        exact zl_size C0 ho ht2 hiL hL hG hR hoc hlen hK hP hD hS hl K
      | 13, _ =>
        refine lv_tableIn (tgt := 521) hx hb dL_law_42 (by decide) (by decide) rfl (by decide) ?_
        exact zl_cut C0 ho ht2 hiL hL hG hR hoc hlen hK hP hD hS hl K
      | 14, _ =>
        refine lv_tableOut (tgt := 574) hx hb dL_law_42 (by decide) (by decide) ?_
        refine W.widen (k := 4 + (t + 1)) (n := 20074 + 1024 * (t + 1)) (by omega) (by omega) ?_
        exact K ks oc u g H locs hG hR hoc (by omega) hK hP hD hS
      | 15, _ =>
        refine lv_tableOut (tgt := 574) hx hb dL_law_42 (by decide) (by decide) ?_
        refine W.widen (k := 4 + (t + 1)) (n := 20074 + 1024 * (t + 1)) (by omega) (by omega) ?_
        exact K ks oc u g H locs hG hR hoc (by omega) hK hP hD hS
      | j + 16, hj => exact absurd hj (by omega)
end
section
/-! Own rows: the law's entry -/
def zl_c0 (L : Nat) (xs : Nat → Int32) : Int32 := if L = 0 then 0 else xs 0
def zl_P (b L : Nat) (xs : Nat → Int32) : Array Value → State → Prop := va_Pc [.ref b, .int 0] (fun U => va_X b L xs U U.heap)
theorem zl_bl {b L : Nat} {xs : Nat → Int32} : FrameBlind (zl_P b L xs) := fun a U g mk q => ⟨q.1, va_X.moved (u := U) (U := U.calling g mk a) (Vm.Alike.refl U.vm) q.2⟩
set_option maxHeartbeats 4000000 in
set_option maxRecDepth 100000 in
/-- cell(script, 0) -/
theorem zl_cell (l : Launch) (b L : Nat) (xs : Nat → Int32) (hL : L ≤ 2561) : Met l yL_cell wsL_cell ({ frames := 0, cells := 0, slots := 0, locals := 0 }) (zl_P b L xs) (zw_Q (some (.int (zl_c0 L xs)))) 0 0 (fun _ => False) := by
  refine Met.ofW (cc := cL_cell) (maxL := 2) (ret := (some .int)) (by decide) rfl ?_
  intro p e s m args below meth c s₁ B hml hv
  obtain ⟨rfl, hX⟩ := hv
  have hx := B.exec
  have hb := B.bytes
  have hr := B.returns
  have hbl : b < s.heap.size := by
    obtain ⟨scr, h, -⟩ := hX
    exact (Array.getElem?_eq_some_iff.mp h).1
  have hS : va_S (fun _ => False) s.heap s.heap [] := va_S.rf
  have hl := lv_entry ([.ref b, .int 0]) (n := 2) (Nat.le_of_ble_eq_true rfl)
  rw [lg_entry_eq]
  generalize (lg_sl ([.ref b, .int 0]) ++ List.replicate (2 - (lg_sl ([.ref b, .int 0])).length) Slot.unset).toArray = ls at hl ⊢
  have hl : lv_has ls 2 [(0, .ref b), (1, .int 0)] := hl
  refine lv_iload_n hx hb dL_cell_0 rfl (lv_at hl 1 rfl) ?_
  refine lv_aload_n hx hb dL_cell_1 rfl (lv_at hl 0 rfl) ?_
  refine va_slen hx hb hX hbl (fun h => h) hS dL_cell_2 ?_
  refine lv_icmp_ge (tgt := 12) hx hb dL_cell_3 (by decide) (fun c_3 => ?_) (fun c_3 => ?_)
  · have h0 : L ≤ 0 := (nI_leI (a := L) (b := 0) (by omega) (by omega)).mp c_3
    refine lv_iconst (v := 0) hx hb dL_cell_12 (by decide) ?_
    refine zw_eqi (y := zl_c0 L xs) (by rw [zl_c0, if_pos (by omega)]) ?_
    exact W.iret hx hb hr (fun t ht hW => ⟨rfl, ht⟩) (fun q h => by cases h) dL_cell_13
  · have h0 : 0 < L := Nat.lt_of_not_le (fun q => c_3 (nI_le (b := 0) q (by omega)))
    refine lv_aload_n hx hb dL_cell_6 rfl (lv_at hl 0 rfl) ?_
    refine lv_iload_n hx hb dL_cell_7 rfl (lv_at hl 1 rfl) ?_
    refine va_sld hx hb hX hbl (fun h => h) hS (pk_in 0 L h0 nI_0.symm (by omega)) dL_cell_8 ?_
    refine zw_eqi (y := zl_c0 L xs) (by rw [zl_c0, if_neg (by omega), sb_cl0]) ?_
    refine lv_goto (tgt := 13) hx hb dL_cell_9 (by decide) ?_
    exact W.iret hx hb hr (fun t ht hW => ⟨rfl, ht⟩) (fun q h => by cases h) dL_cell_13
set_option maxHeartbeats 4000000 in
set_option maxRecDepth 100000 in
/-- what the Statement says of the class' own table -/
theorem zl_tab {s : State} {b : Nat} (hgv : (Jvm.Cond.and given_1 narrow_1).before #[Value.ref b] s = true) (hts : ∀ w ∈ lw_tbl, w.before #[Value.ref b] s = true) : ∃ t : Nat, va_Z "PageIndex" "PLACES" "[I" (.ref t) (fun q : Nat => s.heap.size ≤ q) s s.heap ∧ va_T .int t 18 (fun j => .int (zk_tab j)) (fun q : Nat => s.heap.size ≤ q) s s.heap := by
  have hs := flat_of_before _ hgv
  have harr : (Cond.arrayOf (.static "PageIndex" "PLACES" "[I") .int).before #[Value.ref b] s = true := hs _ (by decide +kernel)
  have hlen : (Cond.eq (.length (.static "PageIndex" "PLACES" "[I")) (.int 18)).before #[Value.ref b] s = true := hs _ (by decide +kernel)
  have e_0 : (Cond.eq (.elem (.static "PageIndex" "PLACES" "[I") (.int 0)) (.int 0)).before #[Value.ref b] s = true := hs _ (by decide +kernel)
  have e_1 : (Cond.eq (.elem (.static "PageIndex" "PLACES" "[I") (.int 1)) (.int 1)).before #[Value.ref b] s = true := hs _ (by decide +kernel)
  have e_2 : (Cond.eq (.elem (.static "PageIndex" "PLACES" "[I") (.int 2)) (.int 2)).before #[Value.ref b] s = true := hs _ (by decide +kernel)
  have e_3 : (Cond.eq (.elem (.static "PageIndex" "PLACES" "[I") (.int 3)) (.int 0)).before #[Value.ref b] s = true := hs _ (by decide +kernel)
  have e_4 : (Cond.eq (.elem (.static "PageIndex" "PLACES" "[I") (.int 4)) (.int 2)).before #[Value.ref b] s = true := hs _ (by decide +kernel)
  have e_5 : (Cond.eq (.elem (.static "PageIndex" "PLACES" "[I") (.int 5)) (.int 1)).before #[Value.ref b] s = true := hs _ (by decide +kernel)
  have e_6 : (Cond.eq (.elem (.static "PageIndex" "PLACES" "[I") (.int 6)) (.int 1)).before #[Value.ref b] s = true := hs _ (by decide +kernel)
  have e_7 : (Cond.eq (.elem (.static "PageIndex" "PLACES" "[I") (.int 7)) (.int 0)).before #[Value.ref b] s = true := hs _ (by decide +kernel)
  have e_8 : (Cond.eq (.elem (.static "PageIndex" "PLACES" "[I") (.int 8)) (.int 2)).before #[Value.ref b] s = true := hs _ (by decide +kernel)
  have e_9 : (Cond.eq (.elem (.static "PageIndex" "PLACES" "[I") (.int 9)) (.int 2)).before #[Value.ref b] s = true := hs _ (by decide +kernel)
  have e_10 : (Cond.eq (.elem (.static "PageIndex" "PLACES" "[I") (.int 10)) (.int 0)).before #[Value.ref b] s = true := hs _ (by decide +kernel)
  have e_11 : (Cond.eq (.elem (.static "PageIndex" "PLACES" "[I") (.int 11)) (.int 1)).before #[Value.ref b] s = true := hs _ (by decide +kernel)
  have e_12 : (Cond.eq (.elem (.static "PageIndex" "PLACES" "[I") (.int 12)) (.int 1)).before #[Value.ref b] s = true := hs _ (by decide +kernel)
  have e_13 : (Cond.eq (.elem (.static "PageIndex" "PLACES" "[I") (.int 13)) (.int 2)).before #[Value.ref b] s = true := hs _ (by decide +kernel)
  have e_14 : (Cond.eq (.elem (.static "PageIndex" "PLACES" "[I") (.int 14)) (.int 0)).before #[Value.ref b] s = true := hs _ (by decide +kernel)
  have e_15 : (Cond.eq (.elem (.static "PageIndex" "PLACES" "[I") (.int 15)) (.int 2)).before #[Value.ref b] s = true := hs _ (by decide +kernel)
  have e_16 : (Cond.eq (.elem (.static "PageIndex" "PLACES" "[I") (.int 16)) (.int 1)).before #[Value.ref b] s = true := hs _ (by decide +kernel)
  have e_17 : (Cond.eq (.elem (.static "PageIndex" "PLACES" "[I") (.int 17)) (.int 0)).before #[Value.ref b] s = true := hs _ (by decide +kernel)
  obtain ⟨t, ht, hT⟩ := va_Tof (tm := .static "PageIndex" "PLACES" "[I") (ty := .int) (N := 18) (f := fun j => .int (zk_tab j)) (A := fun q : Nat => s.heap.size ≤ q) (by decide) harr (va_eqt hlen) (fun j hj => by
    match j, hj with
    | 0, _ => exact va_eqt e_0
    | 1, _ => exact va_eqt e_1
    | 2, _ => exact va_eqt e_2
    | 3, _ => exact va_eqt e_3
    | 4, _ => exact va_eqt e_4
    | 5, _ => exact va_eqt e_5
    | 6, _ => exact va_eqt e_6
    | 7, _ => exact va_eqt e_7
    | 8, _ => exact va_eqt e_8
    | 9, _ => exact va_eqt e_9
    | 10, _ => exact va_eqt e_10
    | 11, _ => exact va_eqt e_11
    | 12, _ => exact va_eqt e_12
    | 13, _ => exact va_eqt e_13
    | 14, _ => exact va_eqt e_14
    | 15, _ => exact va_eqt e_15
    | 16, _ => exact va_eqt e_16
    | 17, _ => exact va_eqt e_17
    | j + 18, hj => exact absurd hj (by omega)) (fun a h => Nat.not_le.mpr h)
  exact ⟨t, va_Zref (hts (.laysStatic "PageIndex" "PLACES" "[I") (by decide +kernel)) (hts (.initialized "PageIndex") (by decide +kernel)) ht (fun a h => Nat.not_le.mpr h), hT⟩
set_option maxHeartbeats 4000000 in
set_option maxRecDepth 100000 in
/-- THE LAW, from its entry -/
theorem whole_start {p : Program} {e : Env} {s : State} {m : MethodId} {below : List Frame} {meth : Method} {c : Code} (l : Launch) {b L : Nat} {xs : Nat → Int32} (hL : L ≤ 2561) (C0 : lw_At p s m meth c b L xs) : W p l e room_1 s m #[Value.ref b] below meth c s.heap [] 0 0 (lw_Z below #[Value.ref b] s) (entryFrame m ([Value.ref b] : List Value).toArray 4) := by
  obtain ⟨hx, hb, hr, hml, hown, hts, hX, hbl, hlocks, hgv⟩ := id C0
  obtain ⟨tb, hZ, hT⟩ := zl_tab hgv hts
  have hA : ∀ q : Nat, s.heap.size ≤ q → (fun q : Nat => s.heap.size ≤ q) q := fun _ h => h
  have hbA : ¬ (fun q : Nat => s.heap.size ≤ q) b := Nat.not_le.mpr hbl
  have hown : s.vm.findClass RL = some m.cls := hown
  have htsL : ∀ w ∈ wsL_law, w.before #[Value.ref b] s = true := fun w h => hts w (wsL_law_in w h)
  obtain ⟨c0, iS0, hKn0⟩ := u_known (C := RX0) (T := TX0) (N := 6) (n := 6) hts inX0 (hts (.instantiable RX0 6) (by decide +kernel))
  obtain ⟨c1, iS1, hKn1⟩ := u_known (C := RX1) (T := TX1) (N := 4) (n := 4) hts inX1 (hts (.instantiable RX1 4) (by decide +kernel))
  obtain ⟨dC, dI, hKc⟩ : ∃ (dC : Nat → ClassId) (dI : Nat → Nat → Nat), ∀ (k : Nat) (q : vw_C), vwCl[k]? = some q → u_Kn s q.1 q.2.1 q.2.2 (dC k) (dI k) := by
    refine ⟨fun k => if k = 0 then c0 else c1, fun k => if k = 0 then iS0 else iS1, ?_⟩
    intro k q hq
    match k, hq with
    | 0, hq => cases hq; exact hKn0
    | 1, hq => cases hq; exact hKn1
    | k + 2, hq => simp [vwCl] at hq
  have hS : va_S (fun q : Nat => s.heap.size ≤ q) s.heap s.heap [] := va_S.rf
  have hK : va_K (dC, dI) vwCl [] s := ⟨hKc, fun k q h => by simp at h⟩
  have hP : va_P (dC, dI) vwCl [] s.heap := fun k q h => by simp at h
  have hD : va_D (fun q : Nat => s.heap.size ≤ q) [] := ⟨fun i j p q h => by simp at h, fun k q h => by simp at h⟩
  have hl := lv_entry ([.ref b]) (n := 4) (Nat.le_of_ble_eq_true rfl)
  rw [lg_entry_eq]
  generalize (lg_sl ([.ref b]) ++ List.replicate (4 - (lg_sl ([.ref b])).length) Slot.unset).toArray = ls at hl ⊢
  have hl : lv_has ls 4 [(0, .ref b)] := hl
  obtain ⟨o, ho, eo⟩ := zf_fm_nat (zl_c0 L xs)
  refine va_new (ci := 0) (fs := [.int 0, .int 0, .int 0, .null, .int 0, .long 0]) (C := RX0) (T := TX0) (N := 6) hx hb hts inX0 tyX0 tyX0_ok hown (hts (.classLink RL 7 RX0) (by decide +kernel)) (hts (.instantiable RX0 6) (by decide +kernel)) (hts (.initialized RX0) (by decide +kernel)) hK hP hD hS hA rfl (fun j hj => by rcases (show j = 0 ∨ j = 1 ∨ j = 2 ∨ j = 3 ∨ j = 4 ∨ j = 5 by omega) with rfl | rfl | rfl | rfl | rfl | rfl <;> rfl) (Nat.le_of_ble_eq_true rfl) (Nat.le_of_ble_eq_true rfl) dL_law_0 (fun q0 H hP hD hS => ?_)
  have hP : va_P (dC, dI) vwCl [zi_w q0 0 0 0 .null 0 0] H := hP
  have hD : va_D (fun q : Nat => s.heap.size ≤ q) [zi_w q0 0 0 0 .null 0 0] := hD
  refine lv_dup hx hb dL_law_3 rfl ?_
  refine lv_aload_n hx hb dL_law_4 rfl (lv_at hl 0 rfl) ?_
  refine lv_iconst (v := 0) hx hb dL_law_5 (by decide) ?_
  have hXH := hX.kept (hS.2.1 b hbl hbA)
  refine zw_ci (va_runS (As := [.ref b, .int 0]) (rest := [.ref q0, .ref q0]) ⟨hx, hb, hml, hown, htsL⟩ (zl_cell l b L xs hL) (va_cwS 2 htsL gL_law_L_cell rfl rfl rfl (by decide +kernel) ⟨Nat.le_of_ble_eq_true rfl, Nat.le_of_ble_eq_true rfl⟩) ⟨zl_bl, fun U hU hW => ⟨rfl, va_X.moved hW.alike (by rw [hU]; exact hXH)⟩⟩ rfl rfl hl.1 rfl (lv_room (Nat.le_of_ble_eq_true rfl)) dL_law_6 ⟨Nat.le_of_ble_eq_true rfl, Nat.le_of_ble_eq_true rfl⟩) ?_
  have hF := va_free (wc := [zi_w q0 0 0 0 .null 0 0]) hD hS hA [0] rfl
  have hZ2 := (hZ.kept (H1 := H) (fun a h1 h2 => hS.2.1 a h1 h2)).narrow hF
  have hT2 := (hT.kept (H1 := H) (fun a h1 h2 => hS.2.1 a h1 h2)).narrow hF
  refine zw_callw (ws := [zi_w q0 0 0 0 .null 0 0]) (wc := [zi_w q0 0 0 0 .null 0 0]) (wr := []) (va_runI (As := [.int (zl_c0 L xs)]) (rest := [.ref q0]) ⟨hx, hb, hml, hown, htsL⟩ (zc_init l dC dI q0 H.size tb (zl_c0 L xs) o ho eo) (cwI 1 htsL gL_law_X0_init rfl rfl rfl (hts (.initialized RX0) (by decide +kernel)) (hts (.methodLink RL 15 yX0_init) (by decide +kernel)) (hts (.instanceMethod yX0_init) (by decide +kernel)) rfl (by decide +kernel) ⟨Nat.le_of_ble_eq_true rfl, Nat.le_of_ble_eq_true rfl⟩) ⟨zi_bl, fun U hU hW => ⟨rfl, by rw [hU], by rw [hU]; exact hP, va_K.moved hW.alike hK, hD.weaken (fun _ _ _ _ => trivial), va_Z.moved hW.alike (by rw [hU]; exact hZ2), va_T.moved hW.alike (by rw [hU]; exact hT2)⟩⟩ rfl rfl hl.1 rfl (lv_room (Nat.le_of_ble_eq_true rfl)) dL_law_9 ⟨Nat.le_of_ble_eq_true rfl, Nat.le_of_ble_eq_true rfl⟩) hP hD hS hA [0] [] rfl rfl (by decide) (by decide) (fun u H locs hu hP hD hK2 hS => ?_)
  have hP : va_P (dC, dI) vwCl (zx_wu q0 (nI (zk_px o)) (nI (zk_py o)) (nI (zk_pz o)) [] (-1) u) H := hP
  have hD : va_D (fun q : Nat => s.heap.size ≤ q) (zx_wu q0 (nI (zk_px o)) (nI (zk_py o)) (nI (zk_pz o)) [] (-1) u) := hD
  refine W.eq (g2 := F0 m 12 ls [.ref q0]) rfl ?_
  refine lv_astore_n (lv' := [(1, .ref q0), (0, .ref b)]) hx hb dL_law_12 rfl hl (by decide) rfl (fun ls hl => ?_)
  refine va_new (ci := 1) (fs := [.null, .int 0, .int 0, .long 0]) (C := RX1) (T := TX1) (N := 4) hx hb hts inX1 tyX1 tyX1_ok hown (hts (.classLink RL 18 RX1) (by decide +kernel)) (hts (.instantiable RX1 4) (by decide +kernel)) (hts (.initialized RX1) (by decide +kernel)) hK2 hP hD hS hA rfl (fun j hj => by rcases (show j = 0 ∨ j = 1 ∨ j = 2 ∨ j = 3 by omega) with rfl | rfl | rfl | rfl <;> rfl) (Nat.le_of_ble_eq_true rfl) (Nat.le_of_ble_eq_true rfl) dL_law_13 (fun r0 H hP hD hS => ?_)
  have hP : va_P (dC, dI) vwCl (zx_wu q0 (nI (zk_px o)) (nI (zk_py o)) (nI (zk_pz o)) [] (-1) u ++ [zi_m r0 .null 0 0 0]) H := hP
  have hD : va_D (fun q : Nat => s.heap.size ≤ q) (zx_wu q0 (nI (zk_px o)) (nI (zk_py o)) (nI (zk_pz o)) [] (-1) u ++ [zi_m r0 .null 0 0 0]) := hD
  refine lv_dup hx hb dL_law_16 rfl ?_
  refine lv_aload_n hx hb dL_law_17 rfl (lv_at hl 1 rfl) ?_
  refine lv_iconst (v := 0) hx hb dL_law_18 (by decide) ?_
  have hXH := hX.kept (hS.2.1 b hbl hbA)
  refine zw_ci (va_runS (As := [.ref b, .int 0]) (rest := [.ref r0, .ref r0]) ⟨hx, hb, hml, hown, htsL⟩ (zl_cell l b L xs hL) (va_cwS 2 htsL gL_law_L_cell rfl rfl rfl (by decide +kernel) ⟨Nat.le_of_ble_eq_true rfl, Nat.le_of_ble_eq_true rfl⟩) ⟨zl_bl, fun U hU hW => ⟨rfl, va_X.moved hW.alike (by rw [hU]; exact hXH)⟩⟩ rfl rfl hl.1 rfl (lv_room (Nat.le_of_ble_eq_true rfl)) dL_law_19 ⟨Nat.le_of_ble_eq_true rfl, Nat.le_of_ble_eq_true rfl⟩) ?_
  have hPm := hP.sub (ws' := [zi_m r0 .null 0 0 0]) [2] rfl
  have hDm := hD.sub (ws' := [zi_m r0 .null 0 0 0]) [2] (by decide) rfl
  have hKm := hK2.sub (tys' := []) [] rfl
  refine zw_callw (ws := zx_wu q0 (nI (zk_px o)) (nI (zk_py o)) (nI (zk_pz o)) [] (-1) u ++ [zi_m r0 .null 0 0 0]) (wc := [zi_m r0 .null 0 0 0]) (wr := zx_wu q0 (nI (zk_px o)) (nI (zk_py o)) (nI (zk_pz o)) [] (-1) u) (va_runI (As := [.int (zl_c0 L xs)]) (rest := [.ref r0]) ⟨hx, hb, hml, hown, htsL⟩ (zd_init l dC dI r0 H.size (zl_c0 L xs) o eo) (cwI 1 htsL gL_law_X1_init rfl rfl rfl (hts (.initialized RX1) (by decide +kernel)) (hts (.methodLink RL 20 yX1_init) (by decide +kernel)) (hts (.instanceMethod yX1_init) (by decide +kernel)) rfl (by decide +kernel) ⟨Nat.le_of_ble_eq_true rfl, Nat.le_of_ble_eq_true rfl⟩) (zw_preW hPm hKm hDm) rfl rfl hl.1 rfl (lv_room (Nat.le_of_ble_eq_true rfl)) dL_law_22 ⟨Nat.le_of_ble_eq_true rfl, Nat.le_of_ble_eq_true rfl⟩) hP hD hS hA [2] [0, 1] rfl rfl (by decide) (by decide) (fun w H locs hw hP hD hK3 hS => ?_)
  have hP : va_P (dC, dI) vwCl (zl_w q0 u r0 w.1 w.2 (fun _ => 0) o [] (zk_o none)) H := hP
  have hD : va_D (fun q : Nat => s.heap.size ≤ q) (zl_w q0 u r0 w.1 w.2 (fun _ => 0) o [] (zk_o none)) := hD
  refine W.eq (g2 := F0 m 25 ls [.ref r0]) rfl ?_
  refine lv_astore_n (lv' := [(2, .ref r0), (1, .ref q0), (0, .ref b)]) hx hb dL_law_25 rfl hl (by decide) rfl (fun ls hl => ?_)
  refine lv_iconst (v := 1) hx hb dL_law_26 (by decide) ?_
  refine zw_eqi (y := nI (1 + 5 * 0)) (by decide) ?_
  refine lv_istore_n (lv' := [(3, .int (nI (1 + 5 * 0))), (2, .ref r0), (1, .ref q0), (0, .ref b)]) hx hb dL_law_27 rfl hl (by decide) rfl (fun ls hl => ?_)
  refine W.widen (k := 4 + 0) (n := 20074 + 1024 * 0) (Nat.le_of_ble_eq_true rfl) (Nat.le_of_ble_eq_true rfl) ?_
  exact zl_loop hL C0 ho 600 0 (by omega) (by omega) [] none u (fun _ => 0) H locs hu ⟨List.Pairwise.nil, fun k hk => (by cases hk), Nat.zero_le _, fun j hj => (by cases hj)⟩ (fun z hz => by cases hz) (Nat.le_refl _) (hK2.app hK3) hP hD hS ls hl
end
section
-- ===== YOUR PART ENDS =====
set_option maxHeartbeats 4000000 in
theorem lw_walk (l : Launch) (b : Addr) (xs : List Int32) : MetFree l x (headSpec (Jvm.Cond.code x code maxLocals ret :: tables_1) room_1) (lw_P b xs) (fun _ _ _ _ _ => True) lw_Q := by
  refine MetFree.of_bodyS (code := code) (maxLocals := maxLocals) (ret := ret) (by decide) ?_ ?_
  · intro args s m h hn
    obtain ⟨meth, c, h1, h2, h3, h4, h5, h6, -, -⟩ := Cond.code_spec hn (atoms_spec (ws := Jvm.Cond.code x code maxLocals ret :: tables_1) h _ List.mem_cons_self)
    exact ⟨meth, c, h1, h2, h3, h4, h5, h6⟩
  · intro p e s m args below meth c s₁ B hml0 hP _
    obtain ⟨rfl, hx, hbd, hgv⟩ := hP
    obtain ⟨scr, harrAt, hlist, hof, hsmall⟩ := hx
    obtain ⟨hcb, hkn, -, -⟩ := State.arrayAt?_spec harrAt
    have hown : s.vm.findClass R_law = some m.cls := findClass_of_methodNamed B.named
    have hts0 : ∀ c ∈ (Jvm.Cond.code x code maxLocals ret :: tables_1), c.before #[Value.ref b] s = true := atoms_spec (ws := Jvm.Cond.code x code maxLocals ret :: tables_1) B.pre
    have hts : ∀ w ∈ lw_tbl, w.before #[Value.ref b] s = true := k2_hts_sels lw_privs (fun w hw => hts0 w (List.mem_cons_of_mem _ hw)) lw_privs_ok
    have hml : c.maxLocals = 4 := B.maxLocals_eq (hts0 _ List.mem_cons_self)
    have X₀ : Stand p l e room_1 s m #[Value.ref b] below meth c s₁ [] 0 0 := Stand.of_body B
    have hh0 : s₁.heap = s.heap := by rw [B.state]; rfl
    have hsz : scr.slots.size = xs.length := by rw [← Array.length_toList, hlist, List.length_map]
    have hval : ∀ j : Nat, j < xs.length → scr.slots[j]? = some (.int (xs.getD j 0)) := fun j hj => by
      rw [← Array.getElem?_toList, hlist]
      simp [hj]
    have hbl : b < s.heap.size := (Array.getElem?_eq_some_iff.mp hcb).1
    have hX : va_X b xs.length (fun j => xs.getD j 0) s s.heap := ⟨scr, hcb, hof, hkn, hsz, hval⟩
    have K : W p l e room_1 s m #[Value.ref b] below meth c s₁.heap [] 0 0 (lw_Z below #[Value.ref b] s) (entryFrame m ([Value.ref b] : List Value).toArray 4) := by
      rw [hh0]
      exact whole_start l hbd ⟨B.exec, B.bytes, B.returns, hml, hown, hts, hX, hbl, B.notSynchronized, hgv⟩
    obtain ⟨t, a1, o, b1, b2, b3⟩ := K s₁ rfl X₀
    exact ⟨t, o, a1, b1, b2, b3⟩
theorem lw_pre_spec {args : Array Value} {s : State} (h : (Jvm.Cond.and given_1 narrow_1).before args s = true) (hr : rest_1_c.before args s = true) : ∃ (b : Addr) (xs : List Int32), lw_P b xs args s := by
  have hs := flat_of_before _ h
  have hq := flat_of_before _ hr
  have hc : (Cond.count 1).before args s = true := hs _ (by decide +kernel)
  have harr : (Cond.arrayOf (.arg 0) .int).before args s = true := hs _ (by decide +kernel)
  have hle : (Cond.le (.length (.arg 0)) (.int 2561)).before args s = true := hs _ (by decide +kernel)
  have hlen : (Cond.isInt (.length (.arg 0))).before args s = true := hq _ (by decide +kernel)
  have hall : (Cond.all (.arg 0) (.isInt (.elem (.arg 0) (.index 0)))).before args s = true := hq _ (by decide +kernel)
  obtain ⟨b, xs, hb, hx⟩ := State.ints_of_pre rfl harr hlen hall
  have hsm : xs.length < 2 ^ 31 := hx.choose_spec.2.2.2
  have hev : (Term.length (.arg 0)).eval args s none [] s = some (.int xs.length.toInt32) := hx.length_eval hb
  have hv := Cond.le_ints hev (show (Term.int 2561).eval args s none [] s = some (.int 2561) from rfl)
  have hd : xs.length.toInt32 ≤ 2561 := by
    simpa [Cond.before, Cond.holds, hv] using hle
  have hN : xs.length ≤ 2561 := (Int32.ofNat_le_ofNat hsm (by decide)).mp (show Int32.ofNat xs.length ≤ Int32.ofNat 2561 from hd)
  exact ⟨b, xs, Cond.one_arg hc (show args[0]? = some (.ref b) from hb), hx, hN, h⟩
theorem lw_comes (l : Launch) : Comes l x (Jvm.Cond.code x code maxLocals ret :: tables_1) room_1 (fun tb e args s => Calls_1 tb e args s ∧ rest_1 tb e args s ∧ Pre_1 tb e args s)
    (fun _ _ args s o t => lw_Q args s o t) := by
  intro p e ha hc hk s m args below hf hfit hheap happ hpre
  obtain ⟨b, xs, hP⟩ := lw_pre_spec hpre.2.2 hpre.2.1
  obtain ⟨k, o, h1, h2, h3, hQ⟩ := lw_walk l b xs p e ha hc hk s m args below hf ((Spec.applies_iff_loose hf).mp happ).1 hP trivial
  exact ⟨k, o, h1, h2, h3, hQ⟩
theorem lw_frame {s t : State} {o : Outcome} {args : Array Value} (h : Framed s o t [] 600000 7302250) :
    Framed s o t (fieldLocs frame_1_writes args s ++ arrayLocs frame_1_arrays args s ++ staticLocs frame_1_statics s) 600000 7302250 := h
theorem lw_limb (L : Cond) (hL : ∀ (args : Array Value) (s t : State), L.after args s (.returned (some (.int 1))) t = true) :
    ArmFor flags0 classFile x code maxLocals ret World_1 tables_1 room_1 Calls_1 rest_1 Pre_1
      (fun tb e a s o t => postC L tb e a s o t ∧ Framed s o t (fieldLocs frame_1_writes a s ++ arrayLocs frame_1_arrays a s ++ staticLocs frame_1_statics s) 600000 7302250) := by
  intro l _ _ _ p e ha hc hk s m args below hf hfit hheap happ hpre
  obtain ⟨k, o, h1, h2, h3, rfl, hF⟩ := lw_comes l p e ha hc hk s m args below hf hfit hheap happ hpre
  exact ⟨k, _, h1, h2, h3, hL args s _, lw_frame hF⟩
theorem i_vc : Claimed_1_1 ∧ Claimed_1_2 := ⟨lw_limb limb_1_1 (fun args s t => by simp [limb_1_1, Cond.after, Cond.holds, Cond.value]), lw_limb limb_1_2 (fun args s t => Cond.after_iff.mpr (by
  first | (rw [show limb_1_2 = Cond.eq .result (.int 1) from rfl, Cond.eq_ints (x := 1) (y := 1) rfl rfl]; simp; done) | (simp [limb_1_2, Cond.value, Term.eval]; done)))⟩
end
