set_option maxHeartbeats 4000000 in
set_option maxRecDepth 100000 in
/-- isNumber(v) -/
theorem zd_isNumber (l : Launch) (v : Int32) : Met l yX1_isNumber wsX1_isNumber ({ frames := 0, cells := 0, slots := 0, locals := 0 }) (fun w9 _ => w9 = ([.int v] : List Value).toArray) (zw_Q (some (.int (zb_I (zf_n v))))) 0 0 (fun _ => False) := by
  refine Met.ofW (cc := cX1_isNumber) (maxL := 1) (ret := (some .boolean)) (by decide) rfl ?_
  intro p e s m args below meth c s₁ B hml hv
  obtain rfl := hv
  have hx := B.exec
  have hb := B.bytes
  have hr := B.returns
  have hts := atoms_spec (ws := wsX1_isNumber) B.pre
  have hown : s.vm.findClass RX1 = some m.cls := findClass_of_methodNamed B.named
  have hl := lv_entry ([.int v]) (n := 1) (Nat.le_of_ble_eq_true rfl)
  rw [lg_entry_eq]
  generalize (lg_sl ([.int v]) ++ List.replicate (1 - (lg_sl ([.int v])).length) Slot.unset).toArray = ls at hl ⊢
  have hl : lv_has ls 1 [(0, .int v)] := hl
  refine lv_iload_n hx hb dX1_isNumber_0 rfl (lv_at hl 0 rfl) ?_
  refine lv_if_lt (tgt := 14) hx hb dX1_isNumber_1 (by decide) (fun c_1 => ?_) (fun c_1 => ?_)
  · refine lv_iconst (v := 0) hx hb dX1_isNumber_14 (by decide) ?_
    refine zw_eqi (y := zb_I (zf_n v)) (by simp [zb_I, zf_n, c_1]) ?_
    exact W.zret hx hb hr (zb_nar _) (fun t ht hW => ⟨rfl, ht⟩) (fun q h => by cases h) dX1_isNumber_15
  · refine lv_iload_n hx hb dX1_isNumber_4 rfl (lv_at hl 0 rfl) ?_
    refine lv_ldc (v := 1048576) hx hb hown (hts (.constant RX1 29 1048576) (by decide +kernel)) dX1_isNumber_5 ?_
    refine lv_icmp_ge (tgt := 14) hx hb dX1_isNumber_7 (by decide) (fun c_7 => ?_) (fun c_7 => ?_)
    · have h7 : (1048575 : Int32) < v := zf_up.mp c_7
      refine lv_iconst (v := 0) hx hb dX1_isNumber_14 (by decide) ?_
      refine zw_eqi (y := zb_I (zf_n v)) (by simp [zb_I, zf_n, c_1, h7]) ?_
      exact W.zret hx hb hr (zb_nar _) (fun t ht hW => ⟨rfl, ht⟩) (fun q h => by cases h) dX1_isNumber_15
    · have h7 : ¬ (1048575 : Int32) < v := fun q => c_7 (zf_up.mpr q)
      refine lv_iconst (v := 1) hx hb dX1_isNumber_10 (by decide) ?_
      refine lv_goto (tgt := 15) hx hb dX1_isNumber_11 (by decide) ?_
      refine zw_eqi (y := zb_I (zf_n v)) (by simp [zb_I, zf_n, c_1, h7]) ?_
      exact W.zret hx hb hr (zb_nar _) (fun t ht hW => ⟨rfl, ht⟩) (fun q h => by cases h) dX1_isNumber_15
set_option maxHeartbeats 4000000 in
set_option maxRecDepth 100000 in
/-- areNumbers(k, a, b, d) -/
theorem zd_areNumbers (l : Launch) (k : Int32) (a : Int32) (b : Int32) (d : Int32) : Met l yX1_areNumbers wsX1_areNumbers ({ frames := 1, cells := 0, slots := 0, locals := 20 }) (fun w9 _ => w9 = ([.int k, .int a, .int b, .int d] : List Value).toArray) (zw_Q (some (.int (zb_I (zf_fn k a b d))))) 0 0 (fun _ => False) := by
  refine Met.ofW (cc := cX1_areNumbers) (maxL := 4) (ret := (some .boolean)) (by decide) rfl ?_
  intro p e s m args below meth c s₁ B hml hv
  obtain rfl := hv
  have hx := B.exec
  have hb := B.bytes
  have hr := B.returns
  have hts := atoms_spec (ws := wsX1_areNumbers) B.pre
  have hown : s.vm.findClass RX1 = some m.cls := findClass_of_methodNamed B.named
  have hl := lv_entry ([.int k, .int a, .int b, .int d]) (n := 4) (Nat.le_of_ble_eq_true rfl)
  rw [lg_entry_eq]
  generalize (lg_sl ([.int k, .int a, .int b, .int d]) ++ List.replicate (4 - (lg_sl ([.int k, .int a, .int b, .int d])).length) Slot.unset).toArray = ls at hl ⊢
  have hl : lv_has ls 4 [(0, .int k), (1, .int a), (2, .int b), (3, .int d)] := hl
  refine lv_iload_n hx hb dX1_areNumbers_0 rfl (lv_at hl 0 rfl) ?_
  refine lv_iconst (v := 1) hx hb dX1_areNumbers_1 (by decide) ?_
  refine lv_icmp_lt (tgt := 12) hx hb dX1_areNumbers_2 (by decide) (fun c_2 => ?_) (fun c_2 => ?_)
  · refine lv_iload_n hx hb dX1_areNumbers_12 rfl (lv_at hl 0 rfl) ?_
    refine lv_iconst (v := 2) hx hb dX1_areNumbers_13 (by decide) ?_
    refine lv_icmp_lt (tgt := 24) hx hb dX1_areNumbers_14 (by decide) (fun c_14 => ?_) (fun c_14 => ?_)
    · refine lv_iload_n hx hb dX1_areNumbers_24 rfl (lv_at hl 0 rfl) ?_
      refine lv_iconst (v := 3) hx hb dX1_areNumbers_25 (by decide) ?_
      refine lv_icmp_lt (tgt := 36) hx hb dX1_areNumbers_26 (by decide) (fun c_26 => ?_) (fun c_26 => ?_)
      · refine lv_iconst (v := 1) hx hb dX1_areNumbers_36 (by decide) ?_
        refine lv_goto (tgt := 41) hx hb dX1_areNumbers_37 (by decide) ?_
        refine zw_eqi (y := zb_I (zf_fn k a b d)) (by simp [zb_I, zf_fn, c_2, c_14, c_26]) ?_
        exact W.zret hx hb hr (zb_nar _) (fun t ht hW => ⟨rfl, ht⟩) (fun q h => by cases h) dX1_areNumbers_41
      · refine lv_iload_n hx hb dX1_areNumbers_29 rfl (lv_at hl 3 rfl) ?_
        refine zw_ci (va_runS (As := [.int d]) (rest := []) ⟨hx, hb, hml, hown, hts⟩ (zd_isNumber l d) (va_cwS 1 hts gX1_areNumbers_X1_isNumber rfl rfl rfl (by decide +kernel) ⟨Nat.le_of_ble_eq_true rfl, Nat.le_of_ble_eq_true rfl⟩) (preEq) rfl rfl hl.1 rfl (lv_room (Nat.le_of_ble_eq_true rfl)) dX1_areNumbers_30 ⟨Nat.zero_le _, Nat.zero_le _⟩) ?_
        refine zw_ifeq (tgt := 40) hx hb dX1_areNumbers_33 (by decide) (fun c_33 => ?_) (fun c_33 => ?_)
        · refine lv_iconst (v := 0) hx hb dX1_areNumbers_40 (by decide) ?_
          refine zw_eqi (y := zb_I (zf_fn k a b d)) (by simp [zb_I, zf_fn, c_2, c_14, c_26, c_33]) ?_
          exact W.zret hx hb hr (zb_nar _) (fun t ht hW => ⟨rfl, ht⟩) (fun q h => by cases h) dX1_areNumbers_41
        · refine lv_iconst (v := 1) hx hb dX1_areNumbers_36 (by decide) ?_
          refine lv_goto (tgt := 41) hx hb dX1_areNumbers_37 (by decide) ?_
          refine zw_eqi (y := zb_I (zf_fn k a b d)) (by simp [zb_I, zf_fn, c_2, c_14, c_26, c_33]) ?_
          exact W.zret hx hb hr (zb_nar _) (fun t ht hW => ⟨rfl, ht⟩) (fun q h => by cases h) dX1_areNumbers_41
    · refine lv_iload_n hx hb dX1_areNumbers_17 rfl (lv_at hl 2 rfl) ?_
      refine zw_ci (va_runS (As := [.int b]) (rest := []) ⟨hx, hb, hml, hown, hts⟩ (zd_isNumber l b) (va_cwS 1 hts gX1_areNumbers_X1_isNumber rfl rfl rfl (by decide +kernel) ⟨Nat.le_of_ble_eq_true rfl, Nat.le_of_ble_eq_true rfl⟩) (preEq) rfl rfl hl.1 rfl (lv_room (Nat.le_of_ble_eq_true rfl)) dX1_areNumbers_18 ⟨Nat.zero_le _, Nat.zero_le _⟩) ?_
      refine zw_ifeq (tgt := 40) hx hb dX1_areNumbers_21 (by decide) (fun c_21 => ?_) (fun c_21 => ?_)
      · refine lv_iconst (v := 0) hx hb dX1_areNumbers_40 (by decide) ?_
        refine zw_eqi (y := zb_I (zf_fn k a b d)) (by simp [zb_I, zf_fn, c_2, c_14, c_21]) ?_
        exact W.zret hx hb hr (zb_nar _) (fun t ht hW => ⟨rfl, ht⟩) (fun q h => by cases h) dX1_areNumbers_41
      · refine lv_iload_n hx hb dX1_areNumbers_24 rfl (lv_at hl 0 rfl) ?_
        refine lv_iconst (v := 3) hx hb dX1_areNumbers_25 (by decide) ?_
        refine lv_icmp_lt (tgt := 36) hx hb dX1_areNumbers_26 (by decide) (fun c_26 => ?_) (fun c_26 => ?_)
        · refine lv_iconst (v := 1) hx hb dX1_areNumbers_36 (by decide) ?_
          refine lv_goto (tgt := 41) hx hb dX1_areNumbers_37 (by decide) ?_
          refine zw_eqi (y := zb_I (zf_fn k a b d)) (by simp [zb_I, zf_fn, c_2, c_14, c_21, c_26]) ?_
          exact W.zret hx hb hr (zb_nar _) (fun t ht hW => ⟨rfl, ht⟩) (fun q h => by cases h) dX1_areNumbers_41
        · refine lv_iload_n hx hb dX1_areNumbers_29 rfl (lv_at hl 3 rfl) ?_
          refine zw_ci (va_runS (As := [.int d]) (rest := []) ⟨hx, hb, hml, hown, hts⟩ (zd_isNumber l d) (va_cwS 1 hts gX1_areNumbers_X1_isNumber rfl rfl rfl (by decide +kernel) ⟨Nat.le_of_ble_eq_true rfl, Nat.le_of_ble_eq_true rfl⟩) (preEq) rfl rfl hl.1 rfl (lv_room (Nat.le_of_ble_eq_true rfl)) dX1_areNumbers_30 ⟨Nat.zero_le _, Nat.zero_le _⟩) ?_
          refine zw_ifeq (tgt := 40) hx hb dX1_areNumbers_33 (by decide) (fun c_33 => ?_) (fun c_33 => ?_)
          · refine lv_iconst (v := 0) hx hb dX1_areNumbers_40 (by decide) ?_
            refine zw_eqi (y := zb_I (zf_fn k a b d)) (by simp [zb_I, zf_fn, c_2, c_14, c_21, c_26, c_33]) ?_
            exact W.zret hx hb hr (zb_nar _) (fun t ht hW => ⟨rfl, ht⟩) (fun q h => by cases h) dX1_areNumbers_41
          · refine lv_iconst (v := 1) hx hb dX1_areNumbers_36 (by decide) ?_
            refine lv_goto (tgt := 41) hx hb dX1_areNumbers_37 (by decide) ?_
            refine zw_eqi (y := zb_I (zf_fn k a b d)) (by simp [zb_I, zf_fn, c_2, c_14, c_21, c_26, c_33]) ?_
            exact W.zret hx hb hr (zb_nar _) (fun t ht hW => ⟨rfl, ht⟩) (fun q h => by cases h) dX1_areNumbers_41
  · refine lv_iload_n hx hb dX1_areNumbers_5 rfl (lv_at hl 1 rfl) ?_
    refine zw_ci (va_runS (As := [.int a]) (rest := []) ⟨hx, hb, hml, hown, hts⟩ (zd_isNumber l a) (va_cwS 1 hts gX1_areNumbers_X1_isNumber rfl rfl rfl (by decide +kernel) ⟨Nat.le_of_ble_eq_true rfl, Nat.le_of_ble_eq_true rfl⟩) (preEq) rfl rfl hl.1 rfl (lv_room (Nat.le_of_ble_eq_true rfl)) dX1_areNumbers_6 ⟨Nat.zero_le _, Nat.zero_le _⟩) ?_
    refine zw_ifeq (tgt := 40) hx hb dX1_areNumbers_9 (by decide) (fun c_9 => ?_) (fun c_9 => ?_)
    · refine lv_iconst (v := 0) hx hb dX1_areNumbers_40 (by decide) ?_
      refine zw_eqi (y := zb_I (zf_fn k a b d)) (by simp [zb_I, zf_fn, c_2, c_9]) ?_
      exact W.zret hx hb hr (zb_nar _) (fun t ht hW => ⟨rfl, ht⟩) (fun q h => by cases h) dX1_areNumbers_41
    · refine lv_iload_n hx hb dX1_areNumbers_12 rfl (lv_at hl 0 rfl) ?_
      refine lv_iconst (v := 2) hx hb dX1_areNumbers_13 (by decide) ?_
      refine lv_icmp_lt (tgt := 24) hx hb dX1_areNumbers_14 (by decide) (fun c_14 => ?_) (fun c_14 => ?_)
      · refine lv_iload_n hx hb dX1_areNumbers_24 rfl (lv_at hl 0 rfl) ?_
        refine lv_iconst (v := 3) hx hb dX1_areNumbers_25 (by decide) ?_
        refine lv_icmp_lt (tgt := 36) hx hb dX1_areNumbers_26 (by decide) (fun c_26 => ?_) (fun c_26 => ?_)
        · refine lv_iconst (v := 1) hx hb dX1_areNumbers_36 (by decide) ?_
          refine lv_goto (tgt := 41) hx hb dX1_areNumbers_37 (by decide) ?_
          refine zw_eqi (y := zb_I (zf_fn k a b d)) (by simp [zb_I, zf_fn, c_2, c_9, c_14, c_26]) ?_
          exact W.zret hx hb hr (zb_nar _) (fun t ht hW => ⟨rfl, ht⟩) (fun q h => by cases h) dX1_areNumbers_41
        · refine lv_iload_n hx hb dX1_areNumbers_29 rfl (lv_at hl 3 rfl) ?_
          refine zw_ci (va_runS (As := [.int d]) (rest := []) ⟨hx, hb, hml, hown, hts⟩ (zd_isNumber l d) (va_cwS 1 hts gX1_areNumbers_X1_isNumber rfl rfl rfl (by decide +kernel) ⟨Nat.le_of_ble_eq_true rfl, Nat.le_of_ble_eq_true rfl⟩) (preEq) rfl rfl hl.1 rfl (lv_room (Nat.le_of_ble_eq_true rfl)) dX1_areNumbers_30 ⟨Nat.zero_le _, Nat.zero_le _⟩) ?_
          refine zw_ifeq (tgt := 40) hx hb dX1_areNumbers_33 (by decide) (fun c_33 => ?_) (fun c_33 => ?_)
          · refine lv_iconst (v := 0) hx hb dX1_areNumbers_40 (by decide) ?_
            refine zw_eqi (y := zb_I (zf_fn k a b d)) (by simp [zb_I, zf_fn, c_2, c_9, c_14, c_26, c_33]) ?_
            exact W.zret hx hb hr (zb_nar _) (fun t ht hW => ⟨rfl, ht⟩) (fun q h => by cases h) dX1_areNumbers_41
          · refine lv_iconst (v := 1) hx hb dX1_areNumbers_36 (by decide) ?_
            refine lv_goto (tgt := 41) hx hb dX1_areNumbers_37 (by decide) ?_
            refine zw_eqi (y := zb_I (zf_fn k a b d)) (by simp [zb_I, zf_fn, c_2, c_9, c_14, c_26, c_33]) ?_
            exact W.zret hx hb hr (zb_nar _) (fun t ht hW => ⟨rfl, ht⟩) (fun q h => by cases h) dX1_areNumbers_41
      · refine lv_iload_n hx hb dX1_areNumbers_17 rfl (lv_at hl 2 rfl) ?_
        refine zw_ci (va_runS (As := [.int b]) (rest := []) ⟨hx, hb, hml, hown, hts⟩ (zd_isNumber l b) (va_cwS 1 hts gX1_areNumbers_X1_isNumber rfl rfl rfl (by decide +kernel) ⟨Nat.le_of_ble_eq_true rfl, Nat.le_of_ble_eq_true rfl⟩) (preEq) rfl rfl hl.1 rfl (lv_room (Nat.le_of_ble_eq_true rfl)) dX1_areNumbers_18 ⟨Nat.zero_le _, Nat.zero_le _⟩) ?_
        refine zw_ifeq (tgt := 40) hx hb dX1_areNumbers_21 (by decide) (fun c_21 => ?_) (fun c_21 => ?_)
        · refine lv_iconst (v := 0) hx hb dX1_areNumbers_40 (by decide) ?_
          refine zw_eqi (y := zb_I (zf_fn k a b d)) (by simp [zb_I, zf_fn, c_2, c_9, c_14, c_21]) ?_
          exact W.zret hx hb hr (zb_nar _) (fun t ht hW => ⟨rfl, ht⟩) (fun q h => by cases h) dX1_areNumbers_41
        · refine lv_iload_n hx hb dX1_areNumbers_24 rfl (lv_at hl 0 rfl) ?_
          refine lv_iconst (v := 3) hx hb dX1_areNumbers_25 (by decide) ?_
          refine lv_icmp_lt (tgt := 36) hx hb dX1_areNumbers_26 (by decide) (fun c_26 => ?_) (fun c_26 => ?_)
          · refine lv_iconst (v := 1) hx hb dX1_areNumbers_36 (by decide) ?_
            refine lv_goto (tgt := 41) hx hb dX1_areNumbers_37 (by decide) ?_
            refine zw_eqi (y := zb_I (zf_fn k a b d)) (by simp [zb_I, zf_fn, c_2, c_9, c_14, c_21, c_26]) ?_
            exact W.zret hx hb hr (zb_nar _) (fun t ht hW => ⟨rfl, ht⟩) (fun q h => by cases h) dX1_areNumbers_41
          · refine lv_iload_n hx hb dX1_areNumbers_29 rfl (lv_at hl 3 rfl) ?_
            refine zw_ci (va_runS (As := [.int d]) (rest := []) ⟨hx, hb, hml, hown, hts⟩ (zd_isNumber l d) (va_cwS 1 hts gX1_areNumbers_X1_isNumber rfl rfl rfl (by decide +kernel) ⟨Nat.le_of_ble_eq_true rfl, Nat.le_of_ble_eq_true rfl⟩) (preEq) rfl rfl hl.1 rfl (lv_room (Nat.le_of_ble_eq_true rfl)) dX1_areNumbers_30 ⟨Nat.zero_le _, Nat.zero_le _⟩) ?_
            refine zw_ifeq (tgt := 40) hx hb dX1_areNumbers_33 (by decide) (fun c_33 => ?_) (fun c_33 => ?_)
            · refine lv_iconst (v := 0) hx hb dX1_areNumbers_40 (by decide) ?_
              refine zw_eqi (y := zb_I (zf_fn k a b d)) (by simp [zb_I, zf_fn, c_2, c_9, c_14, c_21, c_26, c_33]) ?_
              exact W.zret hx hb hr (zb_nar _) (fun t ht hW => ⟨rfl, ht⟩) (fun q h => by cases h) dX1_areNumbers_41
            · refine lv_iconst (v := 1) hx hb dX1_areNumbers_36 (by decide) ?_
              refine lv_goto (tgt := 41) hx hb dX1_areNumbers_37 (by decide) ?_
              refine zw_eqi (y := zb_I (zf_fn k a b d)) (by simp [zb_I, zf_fn, c_2, c_9, c_14, c_21, c_26, c_33]) ?_
              exact W.zret hx hb hr (zb_nar _) (fun t ht hW => ⟨rfl, ht⟩) (fun q h => by cases h) dX1_areNumbers_41
set_option maxHeartbeats 4000000 in
set_option maxRecDepth 100000 in
/-- packed(a, b, d) -/
theorem zd_packed (l : Launch) (a b d : Int64) : Met l yX1_packed wsX1_packed ({ frames := 0, cells := 0, slots := 0, locals := 0 }) (fun w9 _ => w9 = ([.long a, .long b, .long d] : List Value).toArray) (zw_Q (some (.long (zf_pk a b d)))) 0 0 (fun _ => False) := by
  refine Met.ofW (cc := cX1_packed) (maxL := 6) (ret := (some .long)) (by decide) rfl ?_
  intro p e s m args below meth c s₁ B hml hv
  obtain rfl := hv
  have hx := B.exec
  have hb := B.bytes
  have hr := B.returns
  have hts := atoms_spec (ws := wsX1_packed) B.pre
  have hown : s.vm.findClass RX1 = some m.cls := findClass_of_methodNamed B.named
  have hl := lv_entry ([.long a, .long b, .long d]) (n := 6) (Nat.le_of_ble_eq_true rfl)
  rw [lg_entry_eq]
  generalize (lg_sl ([.long a, .long b, .long d]) ++ List.replicate (6 - (lg_sl ([.long a, .long b, .long d])).length) Slot.unset).toArray = ls at hl ⊢
  have hl : lv_has ls 6 [(0, .long a), (2, .long b), (4, .long d)] := hl
  refine lv_lload_n hx hb dX1_packed_0 rfl (lv_at hl 0 rfl) ?_
  refine lv_ldc2 (v := 1048576) hx hb hown (hts (.constantLong RX1 34 1048576) (by decide +kernel)) dX1_packed_1 ?_
  refine lv_lmul hx hb dX1_packed_4 ?_
  refine lv_lload_n hx hb dX1_packed_5 rfl (lv_at hl 1 rfl) ?_
  refine lv_ladd hx hb dX1_packed_6 ?_
  refine lv_ldc2 (v := 1048576) hx hb hown (hts (.constantLong RX1 34 1048576) (by decide +kernel)) dX1_packed_7 ?_
  refine lv_lmul hx hb dX1_packed_10 ?_
  refine lv_lload hx hb dX1_packed_11 (lv_at hl 2 rfl) ?_
  refine lv_ladd hx hb dX1_packed_13 ?_
  refine zw_eql (y := zf_pk a b d) (rfl) ?_
  exact W.lret hx hb hr (fun t ht hW => ⟨rfl, ht⟩) (fun q h => by cases h) dX1_packed_14
set_option maxHeartbeats 4000000 in
set_option maxRecDepth 100000 in
/-- beginning(k, a, b, d) -/
theorem zd_beginning (l : Launch) (k : Int32) (a : Int32) (b : Int32) (d : Int32) : Met l yX1_beginning wsX1_beginning ({ frames := 1, cells := 0, slots := 0, locals := 25 }) (fun w9 _ => w9 = ([.int k, .int a, .int b, .int d] : List Value).toArray) (zw_Q (some (.long (zf_bg k a b d)))) 0 0 (fun _ => False) := by
  refine Met.ofW (cc := cX1_beginning) (maxL := 4) (ret := (some .long)) (by decide) rfl ?_
  intro p e s m args below meth c s₁ B hml hv
  obtain rfl := hv
  have hx := B.exec
  have hb := B.bytes
  have hr := B.returns
  have hts := atoms_spec (ws := wsX1_beginning) B.pre
  have hown : s.vm.findClass RX1 = some m.cls := findClass_of_methodNamed B.named
  have hl := lv_entry ([.int k, .int a, .int b, .int d]) (n := 4) (Nat.le_of_ble_eq_true rfl)
  rw [lg_entry_eq]
  generalize (lg_sl ([.int k, .int a, .int b, .int d]) ++ List.replicate (4 - (lg_sl ([.int k, .int a, .int b, .int d])).length) Slot.unset).toArray = ls at hl ⊢
  have hl : lv_has ls 4 [(0, .int k), (1, .int a), (2, .int b), (3, .int d)] := hl
  refine lv_iload_n hx hb dX1_beginning_0 rfl (lv_at hl 0 rfl) ?_
  refine lv_if_le (tgt := 9) hx hb dX1_beginning_1 (by decide) (fun c_1 => ?_) (fun c_1 => ?_)
  · refine lv_lconst (v := 0) hx hb dX1_beginning_9 (by decide) ?_
    refine lv_iload_n hx hb dX1_beginning_10 rfl (lv_at hl 0 rfl) ?_
    refine lv_iconst (v := 1) hx hb dX1_beginning_11 (by decide) ?_
    refine lv_icmp_le (tgt := 20) hx hb dX1_beginning_12 (by decide) (fun c_12 => ?_) (fun c_12 => ?_)
    · refine lv_lconst (v := 0) hx hb dX1_beginning_20 (by decide) ?_
      refine lv_iload_n hx hb dX1_beginning_21 rfl (lv_at hl 0 rfl) ?_
      refine lv_iconst (v := 2) hx hb dX1_beginning_22 (by decide) ?_
      refine lv_icmp_le (tgt := 31) hx hb dX1_beginning_23 (by decide) (fun c_23 => ?_) (fun c_23 => ?_)
      · refine lv_lconst (v := 0) hx hb dX1_beginning_31 (by decide) ?_
        refine zw_cl (va_runS (As := [.long 0, .long 0, .long 0]) (rest := []) ⟨hx, hb, hml, hown, hts⟩ (zd_packed l 0 0 0) (va_cwS 3 hts gX1_beginning_X1_packed rfl rfl rfl (by decide +kernel) ⟨Nat.le_of_ble_eq_true rfl, Nat.le_of_ble_eq_true rfl⟩) (preEq) rfl rfl hl.1 rfl (lv_room (Nat.le_of_ble_eq_true rfl)) dX1_beginning_32 ⟨Nat.zero_le _, Nat.zero_le _⟩) ?_
        refine zw_eql (y := zf_bg k a b d) (by simp [zf_bg, c_1, c_12, c_23]) ?_
        exact W.lret hx hb hr (fun t ht hW => ⟨rfl, ht⟩) (fun q h => by cases h) dX1_beginning_35
      · refine lv_iload_n hx hb dX1_beginning_26 rfl (lv_at hl 3 rfl) ?_
        refine lv_i2l (v := Int32.toInt64 d) hx hb dX1_beginning_27 rfl ?_
        refine lv_goto (tgt := 32) hx hb dX1_beginning_28 (by decide) ?_
        refine zw_cl (va_runS (As := [.long 0, .long 0, .long (Int32.toInt64 d)]) (rest := []) ⟨hx, hb, hml, hown, hts⟩ (zd_packed l 0 0 (Int32.toInt64 d)) (va_cwS 3 hts gX1_beginning_X1_packed rfl rfl rfl (by decide +kernel) ⟨Nat.le_of_ble_eq_true rfl, Nat.le_of_ble_eq_true rfl⟩) (preEq) rfl rfl hl.1 rfl (lv_room (Nat.le_of_ble_eq_true rfl)) dX1_beginning_32 ⟨Nat.zero_le _, Nat.zero_le _⟩) ?_
        refine zw_eql (y := zf_bg k a b d) (by simp [zf_bg, c_1, c_12, c_23]) ?_
        exact W.lret hx hb hr (fun t ht hW => ⟨rfl, ht⟩) (fun q h => by cases h) dX1_beginning_35
    · refine lv_iload_n hx hb dX1_beginning_15 rfl (lv_at hl 2 rfl) ?_
      refine lv_i2l (v := Int32.toInt64 b) hx hb dX1_beginning_16 rfl ?_
      refine lv_goto (tgt := 21) hx hb dX1_beginning_17 (by decide) ?_
      refine lv_iload_n hx hb dX1_beginning_21 rfl (lv_at hl 0 rfl) ?_
      refine lv_iconst (v := 2) hx hb dX1_beginning_22 (by decide) ?_
      refine lv_icmp_le (tgt := 31) hx hb dX1_beginning_23 (by decide) (fun c_23 => ?_) (fun c_23 => ?_)
      · refine lv_lconst (v := 0) hx hb dX1_beginning_31 (by decide) ?_
        refine zw_cl (va_runS (As := [.long 0, .long (Int32.toInt64 b), .long 0]) (rest := []) ⟨hx, hb, hml, hown, hts⟩ (zd_packed l 0 (Int32.toInt64 b) 0) (va_cwS 3 hts gX1_beginning_X1_packed rfl rfl rfl (by decide +kernel) ⟨Nat.le_of_ble_eq_true rfl, Nat.le_of_ble_eq_true rfl⟩) (preEq) rfl rfl hl.1 rfl (lv_room (Nat.le_of_ble_eq_true rfl)) dX1_beginning_32 ⟨Nat.zero_le _, Nat.zero_le _⟩) ?_
        refine zw_eql (y := zf_bg k a b d) (by simp [zf_bg, c_1, c_12, c_23]) ?_
        exact W.lret hx hb hr (fun t ht hW => ⟨rfl, ht⟩) (fun q h => by cases h) dX1_beginning_35
      · refine lv_iload_n hx hb dX1_beginning_26 rfl (lv_at hl 3 rfl) ?_
        refine lv_i2l (v := Int32.toInt64 d) hx hb dX1_beginning_27 rfl ?_
        refine lv_goto (tgt := 32) hx hb dX1_beginning_28 (by decide) ?_
        refine zw_cl (va_runS (As := [.long 0, .long (Int32.toInt64 b), .long (Int32.toInt64 d)]) (rest := []) ⟨hx, hb, hml, hown, hts⟩ (zd_packed l 0 (Int32.toInt64 b) (Int32.toInt64 d)) (va_cwS 3 hts gX1_beginning_X1_packed rfl rfl rfl (by decide +kernel) ⟨Nat.le_of_ble_eq_true rfl, Nat.le_of_ble_eq_true rfl⟩) (preEq) rfl rfl hl.1 rfl (lv_room (Nat.le_of_ble_eq_true rfl)) dX1_beginning_32 ⟨Nat.zero_le _, Nat.zero_le _⟩) ?_
        refine zw_eql (y := zf_bg k a b d) (by simp [zf_bg, c_1, c_12, c_23]) ?_
        exact W.lret hx hb hr (fun t ht hW => ⟨rfl, ht⟩) (fun q h => by cases h) dX1_beginning_35
  · refine lv_iload_n hx hb dX1_beginning_4 rfl (lv_at hl 1 rfl) ?_
    refine lv_i2l (v := Int32.toInt64 a) hx hb dX1_beginning_5 rfl ?_
    refine lv_goto (tgt := 10) hx hb dX1_beginning_6 (by decide) ?_
    refine lv_iload_n hx hb dX1_beginning_10 rfl (lv_at hl 0 rfl) ?_
    refine lv_iconst (v := 1) hx hb dX1_beginning_11 (by decide) ?_
    refine lv_icmp_le (tgt := 20) hx hb dX1_beginning_12 (by decide) (fun c_12 => ?_) (fun c_12 => ?_)
    · refine lv_lconst (v := 0) hx hb dX1_beginning_20 (by decide) ?_
      refine lv_iload_n hx hb dX1_beginning_21 rfl (lv_at hl 0 rfl) ?_
      refine lv_iconst (v := 2) hx hb dX1_beginning_22 (by decide) ?_
      refine lv_icmp_le (tgt := 31) hx hb dX1_beginning_23 (by decide) (fun c_23 => ?_) (fun c_23 => ?_)
      · refine lv_lconst (v := 0) hx hb dX1_beginning_31 (by decide) ?_
        refine zw_cl (va_runS (As := [.long (Int32.toInt64 a), .long 0, .long 0]) (rest := []) ⟨hx, hb, hml, hown, hts⟩ (zd_packed l (Int32.toInt64 a) 0 0) (va_cwS 3 hts gX1_beginning_X1_packed rfl rfl rfl (by decide +kernel) ⟨Nat.le_of_ble_eq_true rfl, Nat.le_of_ble_eq_true rfl⟩) (preEq) rfl rfl hl.1 rfl (lv_room (Nat.le_of_ble_eq_true rfl)) dX1_beginning_32 ⟨Nat.zero_le _, Nat.zero_le _⟩) ?_
        refine zw_eql (y := zf_bg k a b d) (by simp [zf_bg, c_1, c_12, c_23]) ?_
        exact W.lret hx hb hr (fun t ht hW => ⟨rfl, ht⟩) (fun q h => by cases h) dX1_beginning_35
      · refine lv_iload_n hx hb dX1_beginning_26 rfl (lv_at hl 3 rfl) ?_
        refine lv_i2l (v := Int32.toInt64 d) hx hb dX1_beginning_27 rfl ?_
        refine lv_goto (tgt := 32) hx hb dX1_beginning_28 (by decide) ?_
        refine zw_cl (va_runS (As := [.long (Int32.toInt64 a), .long 0, .long (Int32.toInt64 d)]) (rest := []) ⟨hx, hb, hml, hown, hts⟩ (zd_packed l (Int32.toInt64 a) 0 (Int32.toInt64 d)) (va_cwS 3 hts gX1_beginning_X1_packed rfl rfl rfl (by decide +kernel) ⟨Nat.le_of_ble_eq_true rfl, Nat.le_of_ble_eq_true rfl⟩) (preEq) rfl rfl hl.1 rfl (lv_room (Nat.le_of_ble_eq_true rfl)) dX1_beginning_32 ⟨Nat.zero_le _, Nat.zero_le _⟩) ?_
        refine zw_eql (y := zf_bg k a b d) (by simp [zf_bg, c_1, c_12, c_23]) ?_
        exact W.lret hx hb hr (fun t ht hW => ⟨rfl, ht⟩) (fun q h => by cases h) dX1_beginning_35
    · refine lv_iload_n hx hb dX1_beginning_15 rfl (lv_at hl 2 rfl) ?_
      refine lv_i2l (v := Int32.toInt64 b) hx hb dX1_beginning_16 rfl ?_
      refine lv_goto (tgt := 21) hx hb dX1_beginning_17 (by decide) ?_
      refine lv_iload_n hx hb dX1_beginning_21 rfl (lv_at hl 0 rfl) ?_
      refine lv_iconst (v := 2) hx hb dX1_beginning_22 (by decide) ?_
      refine lv_icmp_le (tgt := 31) hx hb dX1_beginning_23 (by decide) (fun c_23 => ?_) (fun c_23 => ?_)
      · refine lv_lconst (v := 0) hx hb dX1_beginning_31 (by decide) ?_
        refine zw_cl (va_runS (As := [.long (Int32.toInt64 a), .long (Int32.toInt64 b), .long 0]) (rest := []) ⟨hx, hb, hml, hown, hts⟩ (zd_packed l (Int32.toInt64 a) (Int32.toInt64 b) 0) (va_cwS 3 hts gX1_beginning_X1_packed rfl rfl rfl (by decide +kernel) ⟨Nat.le_of_ble_eq_true rfl, Nat.le_of_ble_eq_true rfl⟩) (preEq) rfl rfl hl.1 rfl (lv_room (Nat.le_of_ble_eq_true rfl)) dX1_beginning_32 ⟨Nat.zero_le _, Nat.zero_le _⟩) ?_
        refine zw_eql (y := zf_bg k a b d) (by simp [zf_bg, c_1, c_12, c_23]) ?_
        exact W.lret hx hb hr (fun t ht hW => ⟨rfl, ht⟩) (fun q h => by cases h) dX1_beginning_35
      · refine lv_iload_n hx hb dX1_beginning_26 rfl (lv_at hl 3 rfl) ?_
        refine lv_i2l (v := Int32.toInt64 d) hx hb dX1_beginning_27 rfl ?_
        refine lv_goto (tgt := 32) hx hb dX1_beginning_28 (by decide) ?_
        refine zw_cl (va_runS (As := [.long (Int32.toInt64 a), .long (Int32.toInt64 b), .long (Int32.toInt64 d)]) (rest := []) ⟨hx, hb, hml, hown, hts⟩ (zd_packed l (Int32.toInt64 a) (Int32.toInt64 b) (Int32.toInt64 d)) (va_cwS 3 hts gX1_beginning_X1_packed rfl rfl rfl (by decide +kernel) ⟨Nat.le_of_ble_eq_true rfl, Nat.le_of_ble_eq_true rfl⟩) (preEq) rfl rfl hl.1 rfl (lv_room (Nat.le_of_ble_eq_true rfl)) dX1_beginning_32 ⟨Nat.zero_le _, Nat.zero_le _⟩) ?_
        refine zw_eql (y := zf_bg k a b d) (by simp [zf_bg, c_1, c_12, c_23]) ?_
        exact W.lret hx hb hr (fun t ht hW => ⟨rfl, ht⟩) (fun q h => by cases h) dX1_beginning_35
set_option maxHeartbeats 4000000 in
set_option maxRecDepth 100000 in
/-- first(q, i) -/
theorem zd_first (l : Launch) (q i : Nat) (hq : q < 1152921504606846976) (hi : i ≤ 3) : Met l yX1_first wsX1_first ({ frames := 0, cells := 0, slots := 0, locals := 0 }) (fun w9 _ => w9 = ([.long (lN q), .int (nI i)] : List Value).toArray) (zw_Q (some (.long (lN (zk_fst i q))))) 0 0 (fun _ => False) := by
  refine Met.ofW (cc := cX1_first) (maxL := 5) (ret := (some .long)) (by decide) rfl ?_
  intro p e s m args below meth c s₁ B hml hv
  obtain rfl := hv
  have hx := B.exec
  have hb := B.bytes
  have hr := B.returns
  have hts := atoms_spec (ws := wsX1_first) B.pre
  have hown : s.vm.findClass RX1 = some m.cls := findClass_of_methodNamed B.named
  have hl := lv_entry ([.long (lN q), .int (nI i)]) (n := 5) (Nat.le_of_ble_eq_true rfl)
  rw [lg_entry_eq]
  generalize (lg_sl ([.long (lN q), .int (nI i)]) ++ List.replicate (5 - (lg_sl ([.long (lN q), .int (nI i)])).length) Slot.unset).toArray = ls at hl ⊢
  have hl : lv_has ls 5 [(0, .long (lN q)), (2, .int (nI i))] := hl
  match i, hi with
  | 0, _ =>
    refine lv_iload_n hx hb dX1_first_0 rfl (lv_at hl 1 rfl) ?_
    refine lv_if_ne (tgt := 10) hx hb dX1_first_1 (by decide) (fun c_1 => absurd (rfl) c_1) (fun c_1 => ?_)
    refine lv_ldc2 (v := 1152921504606846976) hx hb hown (hts (.constantLong RX1 63 1152921504606846976) (by decide +kernel)) dX1_first_4 ?_
    refine lv_goto (tgt := 33) hx hb dX1_first_7 (by decide) ?_
    refine lv_lstore_n (lv' := [(3, .long 1152921504606846976), (0, .long (lN q)), (2, .int (nI 0))]) hx hb dX1_first_33 rfl hl (by decide) rfl (fun ls hl => ?_)
    refine lv_iload_n hx hb dX1_first_34 rfl (lv_at hl 2 rfl) ?_
    refine lv_if_ne (tgt := 42) hx hb dX1_first_35 (by decide) (fun c_35 => absurd (rfl) c_35) (fun c_35 => ?_)
    refine lv_lconst (v := 0) hx hb dX1_first_38 (by decide) ?_
    refine lv_goto (tgt := 47) hx hb dX1_first_39 (by decide) ?_
    refine zw_eql (y := lN (zk_fst 0 q)) (rfl) ?_
    exact W.lret hx hb hr (fun t ht hW => ⟨rfl, ht⟩) (fun q h => by cases h) dX1_first_47
  | 1, _ =>
    refine lv_iload_n hx hb dX1_first_0 rfl (lv_at hl 1 rfl) ?_
    refine lv_if_ne (tgt := 10) hx hb dX1_first_1 (by decide) (fun c_1 => ?_) (fun c_1 => absurd c_1 (by decide))
    refine lv_iload_n hx hb dX1_first_10 rfl (lv_at hl 1 rfl) ?_
    refine lv_iconst (v := 1) hx hb dX1_first_11 (by decide) ?_
    refine lv_icmp_ne (tgt := 21) hx hb dX1_first_12 (by decide) (fun c_12 => absurd (rfl) c_12) (fun c_12 => ?_)
    refine lv_ldc2 (v := 1099511627776) hx hb hown (hts (.constantLong RX1 65 1099511627776) (by decide +kernel)) dX1_first_15 ?_
    refine lv_goto (tgt := 33) hx hb dX1_first_18 (by decide) ?_
    refine lv_lstore_n (lv' := [(3, .long 1099511627776), (0, .long (lN q)), (2, .int (nI 1))]) hx hb dX1_first_33 rfl hl (by decide) rfl (fun ls hl => ?_)
    refine lv_iload_n hx hb dX1_first_34 rfl (lv_at hl 2 rfl) ?_
    refine lv_if_ne (tgt := 42) hx hb dX1_first_35 (by decide) (fun c_35 => ?_) (fun c_35 => absurd c_35 (by decide))
    refine lv_lload_n hx hb dX1_first_42 rfl (lv_at hl 1 rfl) ?_
    refine lv_lload_n hx hb dX1_first_43 rfl (lv_at hl 1 rfl) ?_
    refine lv_lload_n hx hb dX1_first_44 rfl (lv_at hl 0 rfl) ?_
    refine lv_lrem hx hb dX1_first_45 (by decide) ?_
    refine zw_eql (y := lN (q % 1099511627776)) (pk_lRem (b := 1099511627776) (by omega) (by decide) (by decide)) ?_
    refine lv_lsub hx hb dX1_first_46 ?_
    refine zw_eql (y := lN (zk_fst 1 q)) (by rw [lN_sub (Nat.mod_le _ _)]; rfl) ?_
    exact W.lret hx hb hr (fun t ht hW => ⟨rfl, ht⟩) (fun q h => by cases h) dX1_first_47
  | 2, _ =>
    refine lv_iload_n hx hb dX1_first_0 rfl (lv_at hl 1 rfl) ?_
    refine lv_if_ne (tgt := 10) hx hb dX1_first_1 (by decide) (fun c_1 => ?_) (fun c_1 => absurd c_1 (by decide))
    refine lv_iload_n hx hb dX1_first_10 rfl (lv_at hl 1 rfl) ?_
    refine lv_iconst (v := 1) hx hb dX1_first_11 (by decide) ?_
    refine lv_icmp_ne (tgt := 21) hx hb dX1_first_12 (by decide) (fun c_12 => ?_) (fun c_12 => absurd c_12 (by decide))
    refine lv_iload_n hx hb dX1_first_21 rfl (lv_at hl 1 rfl) ?_
    refine lv_iconst (v := 2) hx hb dX1_first_22 (by decide) ?_
    refine lv_icmp_ne (tgt := 32) hx hb dX1_first_23 (by decide) (fun c_23 => absurd (rfl) c_23) (fun c_23 => ?_)
    refine lv_ldc2 (v := 1048576) hx hb hown (hts (.constantLong RX1 34 1048576) (by decide +kernel)) dX1_first_26 ?_
    refine lv_goto (tgt := 33) hx hb dX1_first_29 (by decide) ?_
    refine lv_lstore_n (lv' := [(3, .long 1048576), (0, .long (lN q)), (2, .int (nI 2))]) hx hb dX1_first_33 rfl hl (by decide) rfl (fun ls hl => ?_)
    refine lv_iload_n hx hb dX1_first_34 rfl (lv_at hl 2 rfl) ?_
    refine lv_if_ne (tgt := 42) hx hb dX1_first_35 (by decide) (fun c_35 => ?_) (fun c_35 => absurd c_35 (by decide))
    refine lv_lload_n hx hb dX1_first_42 rfl (lv_at hl 1 rfl) ?_
    refine lv_lload_n hx hb dX1_first_43 rfl (lv_at hl 1 rfl) ?_
    refine lv_lload_n hx hb dX1_first_44 rfl (lv_at hl 0 rfl) ?_
    refine lv_lrem hx hb dX1_first_45 (by decide) ?_
    refine zw_eql (y := lN (q % 1048576)) (pk_lRem (b := 1048576) (by omega) (by decide) (by decide)) ?_
    refine lv_lsub hx hb dX1_first_46 ?_
    refine zw_eql (y := lN (zk_fst 2 q)) (by rw [lN_sub (Nat.mod_le _ _)]; rfl) ?_
    exact W.lret hx hb hr (fun t ht hW => ⟨rfl, ht⟩) (fun q h => by cases h) dX1_first_47
  | 3, _ =>
    refine lv_iload_n hx hb dX1_first_0 rfl (lv_at hl 1 rfl) ?_
    refine lv_if_ne (tgt := 10) hx hb dX1_first_1 (by decide) (fun c_1 => ?_) (fun c_1 => absurd c_1 (by decide))
    refine lv_iload_n hx hb dX1_first_10 rfl (lv_at hl 1 rfl) ?_
    refine lv_iconst (v := 1) hx hb dX1_first_11 (by decide) ?_
    refine lv_icmp_ne (tgt := 21) hx hb dX1_first_12 (by decide) (fun c_12 => ?_) (fun c_12 => absurd c_12 (by decide))
    refine lv_iload_n hx hb dX1_first_21 rfl (lv_at hl 1 rfl) ?_
    refine lv_iconst (v := 2) hx hb dX1_first_22 (by decide) ?_
    refine lv_icmp_ne (tgt := 32) hx hb dX1_first_23 (by decide) (fun c_23 => ?_) (fun c_23 => absurd c_23 (by decide))
    refine lv_lconst (v := 1) hx hb dX1_first_32 (by decide) ?_
    refine lv_lstore_n (lv' := [(3, .long 1), (0, .long (lN q)), (2, .int (nI 3))]) hx hb dX1_first_33 rfl hl (by decide) rfl (fun ls hl => ?_)
    refine lv_iload_n hx hb dX1_first_34 rfl (lv_at hl 2 rfl) ?_
    refine lv_if_ne (tgt := 42) hx hb dX1_first_35 (by decide) (fun c_35 => ?_) (fun c_35 => absurd c_35 (by decide))
    refine lv_lload_n hx hb dX1_first_42 rfl (lv_at hl 1 rfl) ?_
    refine lv_lload_n hx hb dX1_first_43 rfl (lv_at hl 1 rfl) ?_
    refine lv_lload_n hx hb dX1_first_44 rfl (lv_at hl 0 rfl) ?_
    refine lv_lrem hx hb dX1_first_45 (by decide) ?_
    refine zw_eql (y := lN (q % 1)) (pk_lRem (b := 1) (by omega) (by decide) (by decide)) ?_
    refine lv_lsub hx hb dX1_first_46 ?_
    refine zw_eql (y := lN (zk_fst 3 q)) (by rw [lN_sub (Nat.mod_le _ _)]; rfl) ?_
    exact W.lret hx hb hr (fun t ht hW => ⟨rfl, ht⟩) (fun q h => by cases h) dX1_first_47
set_option maxHeartbeats 4000000 in
set_option maxRecDepth 100000 in
/-- key(x, y, z) -/
theorem zd_key (l : Launch) (dC : Nat → ClassId) (dI : Nat → Nat → Nat) (h0 ha : Nat) (cA : ClassId) (f : Nat → Int64) (o : Nat) (ks : List Nat) (cur : Int64) (x : Int32) (y : Int32) (z : Int32) (ho : o < 6) : Met l yX1_key wsX1_key ({ frames := 1, cells := 0, slots := 0, locals := 25 }) (zw_P [.ref h0, .int x, .int y, .int z] (dC, dI) vwCl (zy_w h0 ha cA f o ks.length cur) [(cA, .long)]) (zw_Q (some (.long (zf_ky o x y z)))) 0 0 (fun _ => False) := by
  refine Met.ofW (cc := cX1_key) (maxL := 4) (ret := (some .long)) (by decide) rfl ?_
  intro p e s m args below meth c s₁ B hml hv
  obtain ⟨rfl, hP, hK⟩ := hv
  have hx := B.exec
  have hb := B.bytes
  have hr := B.returns
  have hts := atoms_spec (ws := wsX1_key) B.pre
  have hown : s.vm.findClass RX1 = some m.cls := findClass_of_methodNamed B.named
  have hl := lv_entry ([.ref h0, .int x, .int y, .int z]) (n := 4) (Nat.le_of_ble_eq_true rfl)
  rw [lg_entry_eq]
  generalize (lg_sl ([.ref h0, .int x, .int y, .int z]) ++ List.replicate (4 - (lg_sl ([.ref h0, .int x, .int y, .int z])).length) Slot.unset).toArray = ls at hl ⊢
  have hl : lv_has ls 4 [(0, .ref h0), (1, .int x), (2, .int y), (3, .int z)] := hl
  have hP : va_P (dC, dI) vwCl (zy_w h0 ha cA f o ks.length cur) s.heap := hP
  match o, ho with
  | 0, _ =>
    have hP : va_P (dC, dI) vwCl (zy_w h0 ha cA f 0 ks.length cur) s.heap := hP
    refine lv_aload_n hx hb dX1_key_0 rfl (lv_at hl 0 rfl) ?_
    refine va_get (D := (dC, dI)) (ci := 1) (v := .int (nI 0)) (C := RX1) (T := TX1) (N := 4) hx hb hts (by decide +kernel) hown hK hP 0 rfl rfl 2 (by decide) (hts (.fieldLink RX1 25 "PageIndexModel" "order" "I") (by decide +kernel)) (fun _ h9 => h9) rfl dX1_key_1 ?_
    refine lv_tableIn (tgt := 40) hx hb dX1_key_4 (by decide) (by decide) rfl (by decide) ?_
    refine lv_iload_n hx hb dX1_key_40 rfl (lv_at hl 1 rfl) ?_
    refine lv_i2l (v := Int32.toInt64 x) hx hb dX1_key_41 rfl ?_
    refine lv_iload_n hx hb dX1_key_42 rfl (lv_at hl 2 rfl) ?_
    refine lv_i2l (v := Int32.toInt64 y) hx hb dX1_key_43 rfl ?_
    refine lv_iload_n hx hb dX1_key_44 rfl (lv_at hl 3 rfl) ?_
    refine lv_i2l (v := Int32.toInt64 z) hx hb dX1_key_45 rfl ?_
    refine zw_cl (va_runS (As := [.long (Int32.toInt64 x), .long (Int32.toInt64 y), .long (Int32.toInt64 z)]) (rest := []) ⟨hx, hb, hml, hown, hts⟩ (zd_packed l (Int32.toInt64 x) (Int32.toInt64 y) (Int32.toInt64 z)) (va_cwS 3 hts gX1_key_X1_packed rfl rfl rfl (by decide +kernel) ⟨Nat.le_of_ble_eq_true rfl, Nat.le_of_ble_eq_true rfl⟩) (preEq) rfl rfl hl.1 rfl (lv_room (Nat.le_of_ble_eq_true rfl)) dX1_key_46 ⟨Nat.zero_le _, Nat.zero_le _⟩) ?_
    refine zw_eql (y := zf_ky 0 x y z) (rfl) ?_
    exact W.lret hx hb hr (fun t ht hW => ⟨rfl, ht⟩) (fun q h => by cases h) dX1_key_49
  | 1, _ =>
    have hP : va_P (dC, dI) vwCl (zy_w h0 ha cA f 1 ks.length cur) s.heap := hP
    refine lv_aload_n hx hb dX1_key_0 rfl (lv_at hl 0 rfl) ?_
    refine va_get (D := (dC, dI)) (ci := 1) (v := .int (nI 1)) (C := RX1) (T := TX1) (N := 4) hx hb hts (by decide +kernel) hown hK hP 0 rfl rfl 2 (by decide) (hts (.fieldLink RX1 25 "PageIndexModel" "order" "I") (by decide +kernel)) (fun _ h9 => h9) rfl dX1_key_1 ?_
    refine lv_tableIn (tgt := 50) hx hb dX1_key_4 (by decide) (by decide) rfl (by decide) ?_
    refine lv_iload_n hx hb dX1_key_50 rfl (lv_at hl 1 rfl) ?_
    refine lv_i2l (v := Int32.toInt64 x) hx hb dX1_key_51 rfl ?_
    refine lv_iload_n hx hb dX1_key_52 rfl (lv_at hl 3 rfl) ?_
    refine lv_i2l (v := Int32.toInt64 z) hx hb dX1_key_53 rfl ?_
    refine lv_iload_n hx hb dX1_key_54 rfl (lv_at hl 2 rfl) ?_
    refine lv_i2l (v := Int32.toInt64 y) hx hb dX1_key_55 rfl ?_
    refine zw_cl (va_runS (As := [.long (Int32.toInt64 x), .long (Int32.toInt64 z), .long (Int32.toInt64 y)]) (rest := []) ⟨hx, hb, hml, hown, hts⟩ (zd_packed l (Int32.toInt64 x) (Int32.toInt64 z) (Int32.toInt64 y)) (va_cwS 3 hts gX1_key_X1_packed rfl rfl rfl (by decide +kernel) ⟨Nat.le_of_ble_eq_true rfl, Nat.le_of_ble_eq_true rfl⟩) (preEq) rfl rfl hl.1 rfl (lv_room (Nat.le_of_ble_eq_true rfl)) dX1_key_56 ⟨Nat.zero_le _, Nat.zero_le _⟩) ?_
    refine zw_eql (y := zf_ky 1 x y z) (rfl) ?_
    exact W.lret hx hb hr (fun t ht hW => ⟨rfl, ht⟩) (fun q h => by cases h) dX1_key_59
  | 2, _ =>
    have hP : va_P (dC, dI) vwCl (zy_w h0 ha cA f 2 ks.length cur) s.heap := hP
    refine lv_aload_n hx hb dX1_key_0 rfl (lv_at hl 0 rfl) ?_
    refine va_get (D := (dC, dI)) (ci := 1) (v := .int (nI 2)) (C := RX1) (T := TX1) (N := 4) hx hb hts (by decide +kernel) hown hK hP 0 rfl rfl 2 (by decide) (hts (.fieldLink RX1 25 "PageIndexModel" "order" "I") (by decide +kernel)) (fun _ h9 => h9) rfl dX1_key_1 ?_
    refine lv_tableIn (tgt := 60) hx hb dX1_key_4 (by decide) (by decide) rfl (by decide) ?_
    refine lv_iload_n hx hb dX1_key_60 rfl (lv_at hl 2 rfl) ?_
    refine lv_i2l (v := Int32.toInt64 y) hx hb dX1_key_61 rfl ?_
    refine lv_iload_n hx hb dX1_key_62 rfl (lv_at hl 1 rfl) ?_
    refine lv_i2l (v := Int32.toInt64 x) hx hb dX1_key_63 rfl ?_
    refine lv_iload_n hx hb dX1_key_64 rfl (lv_at hl 3 rfl) ?_
    refine lv_i2l (v := Int32.toInt64 z) hx hb dX1_key_65 rfl ?_
    refine zw_cl (va_runS (As := [.long (Int32.toInt64 y), .long (Int32.toInt64 x), .long (Int32.toInt64 z)]) (rest := []) ⟨hx, hb, hml, hown, hts⟩ (zd_packed l (Int32.toInt64 y) (Int32.toInt64 x) (Int32.toInt64 z)) (va_cwS 3 hts gX1_key_X1_packed rfl rfl rfl (by decide +kernel) ⟨Nat.le_of_ble_eq_true rfl, Nat.le_of_ble_eq_true rfl⟩) (preEq) rfl rfl hl.1 rfl (lv_room (Nat.le_of_ble_eq_true rfl)) dX1_key_66 ⟨Nat.zero_le _, Nat.zero_le _⟩) ?_
    refine zw_eql (y := zf_ky 2 x y z) (rfl) ?_
    exact W.lret hx hb hr (fun t ht hW => ⟨rfl, ht⟩) (fun q h => by cases h) dX1_key_69
  | 3, _ =>
    have hP : va_P (dC, dI) vwCl (zy_w h0 ha cA f 3 ks.length cur) s.heap := hP
    refine lv_aload_n hx hb dX1_key_0 rfl (lv_at hl 0 rfl) ?_
    refine va_get (D := (dC, dI)) (ci := 1) (v := .int (nI 3)) (C := RX1) (T := TX1) (N := 4) hx hb hts (by decide +kernel) hown hK hP 0 rfl rfl 2 (by decide) (hts (.fieldLink RX1 25 "PageIndexModel" "order" "I") (by decide +kernel)) (fun _ h9 => h9) rfl dX1_key_1 ?_
    refine lv_tableIn (tgt := 70) hx hb dX1_key_4 (by decide) (by decide) rfl (by decide) ?_
    refine lv_iload_n hx hb dX1_key_70 rfl (lv_at hl 2 rfl) ?_
    refine lv_i2l (v := Int32.toInt64 y) hx hb dX1_key_71 rfl ?_
    refine lv_iload_n hx hb dX1_key_72 rfl (lv_at hl 3 rfl) ?_
    refine lv_i2l (v := Int32.toInt64 z) hx hb dX1_key_73 rfl ?_
    refine lv_iload_n hx hb dX1_key_74 rfl (lv_at hl 1 rfl) ?_
    refine lv_i2l (v := Int32.toInt64 x) hx hb dX1_key_75 rfl ?_
    refine zw_cl (va_runS (As := [.long (Int32.toInt64 y), .long (Int32.toInt64 z), .long (Int32.toInt64 x)]) (rest := []) ⟨hx, hb, hml, hown, hts⟩ (zd_packed l (Int32.toInt64 y) (Int32.toInt64 z) (Int32.toInt64 x)) (va_cwS 3 hts gX1_key_X1_packed rfl rfl rfl (by decide +kernel) ⟨Nat.le_of_ble_eq_true rfl, Nat.le_of_ble_eq_true rfl⟩) (preEq) rfl rfl hl.1 rfl (lv_room (Nat.le_of_ble_eq_true rfl)) dX1_key_76 ⟨Nat.zero_le _, Nat.zero_le _⟩) ?_
    refine zw_eql (y := zf_ky 3 x y z) (rfl) ?_
    exact W.lret hx hb hr (fun t ht hW => ⟨rfl, ht⟩) (fun q h => by cases h) dX1_key_79
  | 4, _ =>
    have hP : va_P (dC, dI) vwCl (zy_w h0 ha cA f 4 ks.length cur) s.heap := hP
    refine lv_aload_n hx hb dX1_key_0 rfl (lv_at hl 0 rfl) ?_
    refine va_get (D := (dC, dI)) (ci := 1) (v := .int (nI 4)) (C := RX1) (T := TX1) (N := 4) hx hb hts (by decide +kernel) hown hK hP 0 rfl rfl 2 (by decide) (hts (.fieldLink RX1 25 "PageIndexModel" "order" "I") (by decide +kernel)) (fun _ h9 => h9) rfl dX1_key_1 ?_
    refine lv_tableIn (tgt := 80) hx hb dX1_key_4 (by decide) (by decide) rfl (by decide) ?_
    refine lv_iload_n hx hb dX1_key_80 rfl (lv_at hl 3 rfl) ?_
    refine lv_i2l (v := Int32.toInt64 z) hx hb dX1_key_81 rfl ?_
    refine lv_iload_n hx hb dX1_key_82 rfl (lv_at hl 1 rfl) ?_
    refine lv_i2l (v := Int32.toInt64 x) hx hb dX1_key_83 rfl ?_
    refine lv_iload_n hx hb dX1_key_84 rfl (lv_at hl 2 rfl) ?_
    refine lv_i2l (v := Int32.toInt64 y) hx hb dX1_key_85 rfl ?_
    refine zw_cl (va_runS (As := [.long (Int32.toInt64 z), .long (Int32.toInt64 x), .long (Int32.toInt64 y)]) (rest := []) ⟨hx, hb, hml, hown, hts⟩ (zd_packed l (Int32.toInt64 z) (Int32.toInt64 x) (Int32.toInt64 y)) (va_cwS 3 hts gX1_key_X1_packed rfl rfl rfl (by decide +kernel) ⟨Nat.le_of_ble_eq_true rfl, Nat.le_of_ble_eq_true rfl⟩) (preEq) rfl rfl hl.1 rfl (lv_room (Nat.le_of_ble_eq_true rfl)) dX1_key_86 ⟨Nat.zero_le _, Nat.zero_le _⟩) ?_
    refine zw_eql (y := zf_ky 4 x y z) (rfl) ?_
    exact W.lret hx hb hr (fun t ht hW => ⟨rfl, ht⟩) (fun q h => by cases h) dX1_key_89
  | 5, _ =>
    have hP : va_P (dC, dI) vwCl (zy_w h0 ha cA f 5 ks.length cur) s.heap := hP
    refine lv_aload_n hx hb dX1_key_0 rfl (lv_at hl 0 rfl) ?_
    refine va_get (D := (dC, dI)) (ci := 1) (v := .int (nI 5)) (C := RX1) (T := TX1) (N := 4) hx hb hts (by decide +kernel) hown hK hP 0 rfl rfl 2 (by decide) (hts (.fieldLink RX1 25 "PageIndexModel" "order" "I") (by decide +kernel)) (fun _ h9 => h9) rfl dX1_key_1 ?_
    refine lv_tableOut (tgt := 90) hx hb dX1_key_4 (by decide) (by decide) ?_
    refine lv_iload_n hx hb dX1_key_90 rfl (lv_at hl 3 rfl) ?_
    refine lv_i2l (v := Int32.toInt64 z) hx hb dX1_key_91 rfl ?_
    refine lv_iload_n hx hb dX1_key_92 rfl (lv_at hl 2 rfl) ?_
    refine lv_i2l (v := Int32.toInt64 y) hx hb dX1_key_93 rfl ?_
    refine lv_iload_n hx hb dX1_key_94 rfl (lv_at hl 1 rfl) ?_
    refine lv_i2l (v := Int32.toInt64 x) hx hb dX1_key_95 rfl ?_
    refine zw_cl (va_runS (As := [.long (Int32.toInt64 z), .long (Int32.toInt64 y), .long (Int32.toInt64 x)]) (rest := []) ⟨hx, hb, hml, hown, hts⟩ (zd_packed l (Int32.toInt64 z) (Int32.toInt64 y) (Int32.toInt64 x)) (va_cwS 3 hts gX1_key_X1_packed rfl rfl rfl (by decide +kernel) ⟨Nat.le_of_ble_eq_true rfl, Nat.le_of_ble_eq_true rfl⟩) (preEq) rfl rfl hl.1 rfl (lv_room (Nat.le_of_ble_eq_true rfl)) dX1_key_96 ⟨Nat.zero_le _, Nat.zero_le _⟩) ?_
    refine zw_eql (y := zf_ky 5 x y z) (rfl) ?_
    exact W.lret hx hb hr (fun t ht hW => ⟨rfl, ht⟩) (fun q h => by cases h) dX1_key_99
set_option maxHeartbeats 4000000 in
set_option maxRecDepth 100000 in
/-- placeOf(v) -/
theorem zd_placeOf (l : Launch) (dC : Nat → ClassId) (dI : Nat → Nat → Nat) (h0 ha : Nat) (cA : ClassId) (f : Nat → Int64) (o : Nat) (ks : List Nat) (cur : Int64) (v : Int32) (ho : o < 6) : Met l yX1_placeOf wsX1_placeOf ({ frames := 0, cells := 0, slots := 0, locals := 0 }) (zw_P [.ref h0, .int v] (dC, dI) vwCl (zy_w h0 ha cA f o ks.length cur) [(cA, .long)]) (zw_Q (some (.int (zf_pl o v)))) 0 0 (fun _ => False) := by
  refine Met.ofW (cc := cX1_placeOf) (maxL := 2) (ret := (some .int)) (by decide) rfl ?_
  intro p e s m args below meth c s₁ B hml hv
  obtain ⟨rfl, hP, hK⟩ := hv
  have hx := B.exec
  have hb := B.bytes
  have hr := B.returns
  have hts := atoms_spec (ws := wsX1_placeOf) B.pre
  have hown : s.vm.findClass RX1 = some m.cls := findClass_of_methodNamed B.named
  have hl := lv_entry ([.ref h0, .int v]) (n := 2) (Nat.le_of_ble_eq_true rfl)
  rw [lg_entry_eq]
  generalize (lg_sl ([.ref h0, .int v]) ++ List.replicate (2 - (lg_sl ([.ref h0, .int v])).length) Slot.unset).toArray = ls at hl ⊢
  have hl : lv_has ls 2 [(0, .ref h0), (1, .int v)] := hl
  have hP : va_P (dC, dI) vwCl (zy_w h0 ha cA f o ks.length cur) s.heap := hP
  match o, ho with
  | 0, _ =>
    have hP : va_P (dC, dI) vwCl (zy_w h0 ha cA f 0 ks.length cur) s.heap := hP
    refine lv_aload_n hx hb dX1_placeOf_0 rfl (lv_at hl 0 rfl) ?_
    refine va_get (D := (dC, dI)) (ci := 1) (v := .int (nI 0)) (C := RX1) (T := TX1) (N := 4) hx hb hts (by decide +kernel) hown hK hP 0 rfl rfl 2 (by decide) (hts (.fieldLink RX1 25 "PageIndexModel" "order" "I") (by decide +kernel)) (fun _ h9 => h9) rfl dX1_placeOf_1 ?_
    refine lv_tableIn (tgt := 40) hx hb dX1_placeOf_4 (by decide) (by decide) rfl (by decide) ?_
    refine lv_iload_n hx hb dX1_placeOf_40 rfl (lv_at hl 1 rfl) ?_
    refine zw_eqi (y := zf_pl 0 v) (rfl) ?_
    exact W.iret hx hb hr (fun t ht hW => ⟨rfl, ht⟩) (fun q h => by cases h) dX1_placeOf_41
  | 1, _ =>
    have hP : va_P (dC, dI) vwCl (zy_w h0 ha cA f 1 ks.length cur) s.heap := hP
    refine lv_aload_n hx hb dX1_placeOf_0 rfl (lv_at hl 0 rfl) ?_
    refine va_get (D := (dC, dI)) (ci := 1) (v := .int (nI 1)) (C := RX1) (T := TX1) (N := 4) hx hb hts (by decide +kernel) hown hK hP 0 rfl rfl 2 (by decide) (hts (.fieldLink RX1 25 "PageIndexModel" "order" "I") (by decide +kernel)) (fun _ h9 => h9) rfl dX1_placeOf_1 ?_
    refine lv_tableIn (tgt := 42) hx hb dX1_placeOf_4 (by decide) (by decide) rfl (by decide) ?_
    refine lv_iload_n hx hb dX1_placeOf_42 rfl (lv_at hl 1 rfl) ?_
    refine lv_if_ne (tgt := 50) hx hb dX1_placeOf_43 (by decide) (fun c_43 => ?_) (fun c_43 => ?_)
    · refine lv_iconst (v := 3) hx hb dX1_placeOf_50 (by decide) ?_
      refine lv_iload_n hx hb dX1_placeOf_51 rfl (lv_at hl 1 rfl) ?_
      refine lv_isub hx hb dX1_placeOf_52 ?_
      refine zw_eqi (y := zf_pl 1 v) (by simp [zf_pl, c_43]) ?_
      exact W.iret hx hb hr (fun t ht hW => ⟨rfl, ht⟩) (fun q h => by cases h) dX1_placeOf_53
    · refine lv_iconst (v := 0) hx hb dX1_placeOf_46 (by decide) ?_
      refine lv_goto (tgt := 53) hx hb dX1_placeOf_47 (by decide) ?_
      refine zw_eqi (y := zf_pl 1 v) (by simp [zf_pl, c_43]) ?_
      exact W.iret hx hb hr (fun t ht hW => ⟨rfl, ht⟩) (fun q h => by cases h) dX1_placeOf_53
  | 2, _ =>
    have hP : va_P (dC, dI) vwCl (zy_w h0 ha cA f 2 ks.length cur) s.heap := hP
    refine lv_aload_n hx hb dX1_placeOf_0 rfl (lv_at hl 0 rfl) ?_
    refine va_get (D := (dC, dI)) (ci := 1) (v := .int (nI 2)) (C := RX1) (T := TX1) (N := 4) hx hb hts (by decide +kernel) hown hK hP 0 rfl rfl 2 (by decide) (hts (.fieldLink RX1 25 "PageIndexModel" "order" "I") (by decide +kernel)) (fun _ h9 => h9) rfl dX1_placeOf_1 ?_
    refine lv_tableIn (tgt := 54) hx hb dX1_placeOf_4 (by decide) (by decide) rfl (by decide) ?_
    refine lv_iload_n hx hb dX1_placeOf_54 rfl (lv_at hl 1 rfl) ?_
    refine lv_iconst (v := 2) hx hb dX1_placeOf_55 (by decide) ?_
    refine lv_icmp_ne (tgt := 63) hx hb dX1_placeOf_56 (by decide) (fun c_56 => ?_) (fun c_56 => ?_)
    · refine lv_iconst (v := 1) hx hb dX1_placeOf_63 (by decide) ?_
      refine lv_iload_n hx hb dX1_placeOf_64 rfl (lv_at hl 1 rfl) ?_
      refine lv_isub hx hb dX1_placeOf_65 ?_
      refine zw_eqi (y := zf_pl 2 v) (by simp [zf_pl, c_56]) ?_
      exact W.iret hx hb hr (fun t ht hW => ⟨rfl, ht⟩) (fun q h => by cases h) dX1_placeOf_66
    · refine lv_iconst (v := 2) hx hb dX1_placeOf_59 (by decide) ?_
      refine lv_goto (tgt := 66) hx hb dX1_placeOf_60 (by decide) ?_
      refine zw_eqi (y := zf_pl 2 v) (by simp [zf_pl, c_56]) ?_
      exact W.iret hx hb hr (fun t ht hW => ⟨rfl, ht⟩) (fun q h => by cases h) dX1_placeOf_66
  | 3, _ =>
    have hP : va_P (dC, dI) vwCl (zy_w h0 ha cA f 3 ks.length cur) s.heap := hP
    refine lv_aload_n hx hb dX1_placeOf_0 rfl (lv_at hl 0 rfl) ?_
    refine va_get (D := (dC, dI)) (ci := 1) (v := .int (nI 3)) (C := RX1) (T := TX1) (N := 4) hx hb hts (by decide +kernel) hown hK hP 0 rfl rfl 2 (by decide) (hts (.fieldLink RX1 25 "PageIndexModel" "order" "I") (by decide +kernel)) (fun _ h9 => h9) rfl dX1_placeOf_1 ?_
    refine lv_tableIn (tgt := 67) hx hb dX1_placeOf_4 (by decide) (by decide) rfl (by decide) ?_
    refine lv_iload_n hx hb dX1_placeOf_67 rfl (lv_at hl 1 rfl) ?_
    refine lv_if_ne (tgt := 75) hx hb dX1_placeOf_68 (by decide) (fun c_68 => ?_) (fun c_68 => ?_)
    · refine lv_iload_n hx hb dX1_placeOf_75 rfl (lv_at hl 1 rfl) ?_
      refine lv_iconst (v := 1) hx hb dX1_placeOf_76 (by decide) ?_
      refine lv_isub hx hb dX1_placeOf_77 ?_
      refine zw_eqi (y := zf_pl 3 v) (by simp [zf_pl, c_68]) ?_
      exact W.iret hx hb hr (fun t ht hW => ⟨rfl, ht⟩) (fun q h => by cases h) dX1_placeOf_78
    · refine lv_iconst (v := 2) hx hb dX1_placeOf_71 (by decide) ?_
      refine lv_goto (tgt := 78) hx hb dX1_placeOf_72 (by decide) ?_
      refine zw_eqi (y := zf_pl 3 v) (by simp [zf_pl, c_68]) ?_
      exact W.iret hx hb hr (fun t ht hW => ⟨rfl, ht⟩) (fun q h => by cases h) dX1_placeOf_78
  | 4, _ =>
    have hP : va_P (dC, dI) vwCl (zy_w h0 ha cA f 4 ks.length cur) s.heap := hP
    refine lv_aload_n hx hb dX1_placeOf_0 rfl (lv_at hl 0 rfl) ?_
    refine va_get (D := (dC, dI)) (ci := 1) (v := .int (nI 4)) (C := RX1) (T := TX1) (N := 4) hx hb hts (by decide +kernel) hown hK hP 0 rfl rfl 2 (by decide) (hts (.fieldLink RX1 25 "PageIndexModel" "order" "I") (by decide +kernel)) (fun _ h9 => h9) rfl dX1_placeOf_1 ?_
    refine lv_tableIn (tgt := 79) hx hb dX1_placeOf_4 (by decide) (by decide) rfl (by decide) ?_
    refine lv_iload_n hx hb dX1_placeOf_79 rfl (lv_at hl 1 rfl) ?_
    refine lv_iconst (v := 2) hx hb dX1_placeOf_80 (by decide) ?_
    refine lv_icmp_ne (tgt := 88) hx hb dX1_placeOf_81 (by decide) (fun c_81 => ?_) (fun c_81 => ?_)
    · refine lv_iload_n hx hb dX1_placeOf_88 rfl (lv_at hl 1 rfl) ?_
      refine lv_iconst (v := 1) hx hb dX1_placeOf_89 (by decide) ?_
      refine lv_iadd hx hb dX1_placeOf_90 ?_
      refine zw_eqi (y := zf_pl 4 v) (by simp [zf_pl, c_81]) ?_
      exact W.iret hx hb hr (fun t ht hW => ⟨rfl, ht⟩) (fun q h => by cases h) dX1_placeOf_91
    · refine lv_iconst (v := 0) hx hb dX1_placeOf_84 (by decide) ?_
      refine lv_goto (tgt := 91) hx hb dX1_placeOf_85 (by decide) ?_
      refine zw_eqi (y := zf_pl 4 v) (by simp [zf_pl, c_81]) ?_
      exact W.iret hx hb hr (fun t ht hW => ⟨rfl, ht⟩) (fun q h => by cases h) dX1_placeOf_91
  | 5, _ =>
    have hP : va_P (dC, dI) vwCl (zy_w h0 ha cA f 5 ks.length cur) s.heap := hP
    refine lv_aload_n hx hb dX1_placeOf_0 rfl (lv_at hl 0 rfl) ?_
    refine va_get (D := (dC, dI)) (ci := 1) (v := .int (nI 5)) (C := RX1) (T := TX1) (N := 4) hx hb hts (by decide +kernel) hown hK hP 0 rfl rfl 2 (by decide) (hts (.fieldLink RX1 25 "PageIndexModel" "order" "I") (by decide +kernel)) (fun _ h9 => h9) rfl dX1_placeOf_1 ?_
    refine lv_tableOut (tgt := 92) hx hb dX1_placeOf_4 (by decide) (by decide) ?_
    refine lv_iconst (v := 2) hx hb dX1_placeOf_92 (by decide) ?_
    refine lv_iload_n hx hb dX1_placeOf_93 rfl (lv_at hl 1 rfl) ?_
    refine lv_isub hx hb dX1_placeOf_94 ?_
    refine zw_eqi (y := zf_pl 5 v) (rfl) ?_
    exact W.iret hx hb hr (fun t ht hW => ⟨rfl, ht⟩) (fun q h => by cases h) dX1_placeOf_95
set_option maxHeartbeats 4000000 in
set_option maxRecDepth 100000 in
/-- size() -/
theorem zd_size (l : Launch) (dC : Nat → ClassId) (dI : Nat → Nat → Nat) (h0 ha : Nat) (cA : ClassId) (f : Nat → Int64) (o : Nat) (ks : List Nat) (cur : Int64) : Met l yX1_size wsX1_size ({ frames := 0, cells := 0, slots := 0, locals := 0 }) (zw_P [.ref h0] (dC, dI) vwCl (zy_w h0 ha cA f o ks.length cur) [(cA, .long)]) (zw_Q (some (.int (nI ks.length)))) 0 0 (fun _ => False) := by
  refine Met.ofW (cc := cX1_size) (maxL := 1) (ret := (some .int)) (by decide) rfl ?_
  intro p e s m args below meth c s₁ B hml hv
  obtain ⟨rfl, hP, hK⟩ := hv
  have hx := B.exec
  have hb := B.bytes
  have hr := B.returns
  have hts := atoms_spec (ws := wsX1_size) B.pre
  have hown : s.vm.findClass RX1 = some m.cls := findClass_of_methodNamed B.named
  have hl := lv_entry ([.ref h0]) (n := 1) (Nat.le_of_ble_eq_true rfl)
  rw [lg_entry_eq]
  generalize (lg_sl ([.ref h0]) ++ List.replicate (1 - (lg_sl ([.ref h0])).length) Slot.unset).toArray = ls at hl ⊢
  have hl : lv_has ls 1 [(0, .ref h0)] := hl
  have hP : va_P (dC, dI) vwCl (zy_w h0 ha cA f o ks.length cur) s.heap := hP
  refine lv_aload_n hx hb dX1_size_0 rfl (lv_at hl 0 rfl) ?_
  refine va_get (D := (dC, dI)) (ci := 1) (v := .int (nI ks.length)) (C := RX1) (T := TX1) (N := 4) hx hb hts (by decide +kernel) hown hK hP 0 rfl rfl 1 (by decide) (hts (.fieldLink RX1 40 "PageIndexModel" "size" "I") (by decide +kernel)) (fun _ h9 => h9) rfl dX1_size_1 ?_
  exact W.iret hx hb hr (fun t ht hW => ⟨rfl, ht⟩) (fun q h => by cases h) dX1_size_4
