set_option maxHeartbeats 4000000 in
set_option maxRecDepth 100000 in
/-- isNumber(v) -/
theorem zc_isNumber (l : Launch) (v : Int32) : Met l yX0_isNumber wsX0_isNumber ({ frames := 0, cells := 0, slots := 0, locals := 0 }) (fun w9 _ => w9 = ([.int v] : List Value).toArray) (zw_Q (some (.int (zb_I (zf_n v))))) 0 0 (fun _ => False) := by
  refine Met.ofW (cc := cX0_isNumber) (maxL := 1) (ret := (some .boolean)) (by decide) rfl ?_
  intro p e s m args below meth c s₁ B hml hv
  obtain rfl := hv
  have hx := B.exec
  have hb := B.bytes
  have hr := B.returns
  have hts := atoms_spec (ws := wsX0_isNumber) B.pre
  have hown : s.vm.findClass RX0 = some m.cls := findClass_of_methodNamed B.named
  have hl := lv_entry ([.int v]) (n := 1) (Nat.le_of_ble_eq_true rfl)
  rw [lg_entry_eq]
  generalize (lg_sl ([.int v]) ++ List.replicate (1 - (lg_sl ([.int v])).length) Slot.unset).toArray = ls at hl ⊢
  have hl : lv_has ls 1 [(0, .int v)] := hl
  refine lv_iload_n hx hb dX0_isNumber_0 rfl (lv_at hl 0 rfl) ?_
  refine lv_if_lt (tgt := 14) hx hb dX0_isNumber_1 (by decide) (fun c_1 => ?_) (fun c_1 => ?_)
  · refine lv_iconst (v := 0) hx hb dX0_isNumber_14 (by decide) ?_
    refine zw_eqi (y := zb_I (zf_n v)) (by simp [zb_I, zf_n, c_1]) ?_
    exact W.zret hx hb hr (zb_nar _) (fun t ht hW => ⟨rfl, ht⟩) (fun q h => by cases h) dX0_isNumber_15
  · refine lv_iload_n hx hb dX0_isNumber_4 rfl (lv_at hl 0 rfl) ?_
    refine lv_ldc (v := 1048575) hx hb hown (hts (.constant RX0 95 1048575) (by decide +kernel)) dX0_isNumber_5 ?_
    refine lv_icmp_gt (tgt := 14) hx hb dX0_isNumber_7 (by decide) (fun c_7 => ?_) (fun c_7 => ?_)
    · refine lv_iconst (v := 0) hx hb dX0_isNumber_14 (by decide) ?_
      refine zw_eqi (y := zb_I (zf_n v)) (by simp [zb_I, zf_n, c_1, c_7]) ?_
      exact W.zret hx hb hr (zb_nar _) (fun t ht hW => ⟨rfl, ht⟩) (fun q h => by cases h) dX0_isNumber_15
    · refine lv_iconst (v := 1) hx hb dX0_isNumber_10 (by decide) ?_
      refine lv_goto (tgt := 15) hx hb dX0_isNumber_11 (by decide) ?_
      refine zw_eqi (y := zb_I (zf_n v)) (by simp [zb_I, zf_n, c_1, c_7]) ?_
      exact W.zret hx hb hr (zb_nar _) (fun t ht hW => ⟨rfl, ht⟩) (fun q h => by cases h) dX0_isNumber_15
set_option maxHeartbeats 4000000 in
set_option maxRecDepth 100000 in
/-- areNumbers(a, b, d) -/
theorem zc_areNumbers (l : Launch) (a : Int32) (b : Int32) (d : Int32) : Met l yX0_areNumbers wsX0_areNumbers ({ frames := 1, cells := 0, slots := 0, locals := 20 }) (fun w9 _ => w9 = ([.int a, .int b, .int d] : List Value).toArray) (zw_Q (some (.int (zb_I (zf_nn a b d))))) 0 0 (fun _ => False) := by
  refine Met.ofW (cc := cX0_areNumbers) (maxL := 3) (ret := (some .boolean)) (by decide) rfl ?_
  intro p e s m args below meth c s₁ B hml hv
  obtain rfl := hv
  have hx := B.exec
  have hb := B.bytes
  have hr := B.returns
  have hts := atoms_spec (ws := wsX0_areNumbers) B.pre
  have hown : s.vm.findClass RX0 = some m.cls := findClass_of_methodNamed B.named
  have hl := lv_entry ([.int a, .int b, .int d]) (n := 3) (Nat.le_of_ble_eq_true rfl)
  rw [lg_entry_eq]
  generalize (lg_sl ([.int a, .int b, .int d]) ++ List.replicate (3 - (lg_sl ([.int a, .int b, .int d])).length) Slot.unset).toArray = ls at hl ⊢
  have hl : lv_has ls 3 [(0, .int a), (1, .int b), (2, .int d)] := hl
  refine lv_iload_n hx hb dX0_areNumbers_0 rfl (lv_at hl 0 rfl) ?_
  refine zw_ci (va_runS (As := [.int a]) (rest := []) ⟨hx, hb, hml, hown, hts⟩ (zc_isNumber l a) (va_cwS 1 hts gX0_areNumbers_X0_isNumber rfl rfl rfl (by decide +kernel) ⟨Nat.le_of_ble_eq_true rfl, Nat.le_of_ble_eq_true rfl⟩) (preEq) rfl rfl hl.1 rfl (lv_room (Nat.le_of_ble_eq_true rfl)) dX0_areNumbers_1 ⟨Nat.zero_le _, Nat.zero_le _⟩) ?_
  refine zw_ifeq (tgt := 25) hx hb dX0_areNumbers_4 (by decide) (fun c_4 => ?_) (fun c_4 => ?_)
  · refine lv_iconst (v := 0) hx hb dX0_areNumbers_25 (by decide) ?_
    refine zw_eqi (y := zb_I (zf_nn a b d)) (by simp [zb_I, zf_nn, c_4]) ?_
    exact W.zret hx hb hr (zb_nar _) (fun t ht hW => ⟨rfl, ht⟩) (fun q h => by cases h) dX0_areNumbers_26
  · refine lv_iload_n hx hb dX0_areNumbers_7 rfl (lv_at hl 1 rfl) ?_
    refine zw_ci (va_runS (As := [.int b]) (rest := []) ⟨hx, hb, hml, hown, hts⟩ (zc_isNumber l b) (va_cwS 1 hts gX0_areNumbers_X0_isNumber rfl rfl rfl (by decide +kernel) ⟨Nat.le_of_ble_eq_true rfl, Nat.le_of_ble_eq_true rfl⟩) (preEq) rfl rfl hl.1 rfl (lv_room (Nat.le_of_ble_eq_true rfl)) dX0_areNumbers_8 ⟨Nat.zero_le _, Nat.zero_le _⟩) ?_
    refine zw_ifeq (tgt := 25) hx hb dX0_areNumbers_11 (by decide) (fun c_11 => ?_) (fun c_11 => ?_)
    · refine lv_iconst (v := 0) hx hb dX0_areNumbers_25 (by decide) ?_
      refine zw_eqi (y := zb_I (zf_nn a b d)) (by simp [zb_I, zf_nn, c_4, c_11]) ?_
      exact W.zret hx hb hr (zb_nar _) (fun t ht hW => ⟨rfl, ht⟩) (fun q h => by cases h) dX0_areNumbers_26
    · refine lv_iload_n hx hb dX0_areNumbers_14 rfl (lv_at hl 2 rfl) ?_
      refine zw_ci (va_runS (As := [.int d]) (rest := []) ⟨hx, hb, hml, hown, hts⟩ (zc_isNumber l d) (va_cwS 1 hts gX0_areNumbers_X0_isNumber rfl rfl rfl (by decide +kernel) ⟨Nat.le_of_ble_eq_true rfl, Nat.le_of_ble_eq_true rfl⟩) (preEq) rfl rfl hl.1 rfl (lv_room (Nat.le_of_ble_eq_true rfl)) dX0_areNumbers_15 ⟨Nat.zero_le _, Nat.zero_le _⟩) ?_
      refine zw_ifeq (tgt := 25) hx hb dX0_areNumbers_18 (by decide) (fun c_18 => ?_) (fun c_18 => ?_)
      · refine lv_iconst (v := 0) hx hb dX0_areNumbers_25 (by decide) ?_
        refine zw_eqi (y := zb_I (zf_nn a b d)) (by simp [zb_I, zf_nn, c_4, c_11, c_18]) ?_
        exact W.zret hx hb hr (zb_nar _) (fun t ht hW => ⟨rfl, ht⟩) (fun q h => by cases h) dX0_areNumbers_26
      · refine lv_iconst (v := 1) hx hb dX0_areNumbers_21 (by decide) ?_
        refine lv_goto (tgt := 26) hx hb dX0_areNumbers_22 (by decide) ?_
        refine zw_eqi (y := zb_I (zf_nn a b d)) (by simp [zb_I, zf_nn, c_4, c_11, c_18]) ?_
        exact W.zret hx hb hr (zb_nar _) (fun t ht hW => ⟨rfl, ht⟩) (fun q h => by cases h) dX0_areNumbers_26
set_option maxHeartbeats 4000000 in
set_option maxRecDepth 100000 in
/-- areFirstNumbers(k, a, b, d) -/
theorem zc_areFirstNumbers (l : Launch) (k : Int32) (a : Int32) (b : Int32) (d : Int32) : Met l yX0_areFirstNumbers wsX0_areFirstNumbers ({ frames := 1, cells := 0, slots := 0, locals := 20 }) (fun w9 _ => w9 = ([.int k, .int a, .int b, .int d] : List Value).toArray) (zw_Q (some (.int (zb_I (zf_fn k a b d))))) 0 0 (fun _ => False) := by
  refine Met.ofW (cc := cX0_areFirstNumbers) (maxL := 4) (ret := (some .boolean)) (by decide) rfl ?_
  intro p e s m args below meth c s₁ B hml hv
  obtain rfl := hv
  have hx := B.exec
  have hb := B.bytes
  have hr := B.returns
  have hts := atoms_spec (ws := wsX0_areFirstNumbers) B.pre
  have hown : s.vm.findClass RX0 = some m.cls := findClass_of_methodNamed B.named
  have hl := lv_entry ([.int k, .int a, .int b, .int d]) (n := 4) (Nat.le_of_ble_eq_true rfl)
  rw [lg_entry_eq]
  generalize (lg_sl ([.int k, .int a, .int b, .int d]) ++ List.replicate (4 - (lg_sl ([.int k, .int a, .int b, .int d])).length) Slot.unset).toArray = ls at hl ⊢
  have hl : lv_has ls 4 [(0, .int k), (1, .int a), (2, .int b), (3, .int d)] := hl
  refine lv_iload_n hx hb dX0_areFirstNumbers_0 rfl (lv_at hl 0 rfl) ?_
  refine lv_iconst (v := 1) hx hb dX0_areFirstNumbers_1 (by decide) ?_
  refine lv_icmp_lt (tgt := 12) hx hb dX0_areFirstNumbers_2 (by decide) (fun c_2 => ?_) (fun c_2 => ?_)
  · refine lv_iload_n hx hb dX0_areFirstNumbers_12 rfl (lv_at hl 0 rfl) ?_
    refine lv_iconst (v := 2) hx hb dX0_areFirstNumbers_13 (by decide) ?_
    refine lv_icmp_lt (tgt := 24) hx hb dX0_areFirstNumbers_14 (by decide) (fun c_14 => ?_) (fun c_14 => ?_)
    · refine lv_iload_n hx hb dX0_areFirstNumbers_24 rfl (lv_at hl 0 rfl) ?_
      refine lv_iconst (v := 3) hx hb dX0_areFirstNumbers_25 (by decide) ?_
      refine lv_icmp_lt (tgt := 36) hx hb dX0_areFirstNumbers_26 (by decide) (fun c_26 => ?_) (fun c_26 => ?_)
      · refine lv_iconst (v := 1) hx hb dX0_areFirstNumbers_36 (by decide) ?_
        refine lv_goto (tgt := 41) hx hb dX0_areFirstNumbers_37 (by decide) ?_
        refine zw_eqi (y := zb_I (zf_fn k a b d)) (by simp [zb_I, zf_fn, c_2, c_14, c_26]) ?_
        exact W.zret hx hb hr (zb_nar _) (fun t ht hW => ⟨rfl, ht⟩) (fun q h => by cases h) dX0_areFirstNumbers_41
      · refine lv_iload_n hx hb dX0_areFirstNumbers_29 rfl (lv_at hl 3 rfl) ?_
        refine zw_ci (va_runS (As := [.int d]) (rest := []) ⟨hx, hb, hml, hown, hts⟩ (zc_isNumber l d) (va_cwS 1 hts gX0_areFirstNumbers_X0_isNumber rfl rfl rfl (by decide +kernel) ⟨Nat.le_of_ble_eq_true rfl, Nat.le_of_ble_eq_true rfl⟩) (preEq) rfl rfl hl.1 rfl (lv_room (Nat.le_of_ble_eq_true rfl)) dX0_areFirstNumbers_30 ⟨Nat.zero_le _, Nat.zero_le _⟩) ?_
        refine zw_ifeq (tgt := 40) hx hb dX0_areFirstNumbers_33 (by decide) (fun c_33 => ?_) (fun c_33 => ?_)
        · refine lv_iconst (v := 0) hx hb dX0_areFirstNumbers_40 (by decide) ?_
          refine zw_eqi (y := zb_I (zf_fn k a b d)) (by simp [zb_I, zf_fn, c_2, c_14, c_26, c_33]) ?_
          exact W.zret hx hb hr (zb_nar _) (fun t ht hW => ⟨rfl, ht⟩) (fun q h => by cases h) dX0_areFirstNumbers_41
        · refine lv_iconst (v := 1) hx hb dX0_areFirstNumbers_36 (by decide) ?_
          refine lv_goto (tgt := 41) hx hb dX0_areFirstNumbers_37 (by decide) ?_
          refine zw_eqi (y := zb_I (zf_fn k a b d)) (by simp [zb_I, zf_fn, c_2, c_14, c_26, c_33]) ?_
          exact W.zret hx hb hr (zb_nar _) (fun t ht hW => ⟨rfl, ht⟩) (fun q h => by cases h) dX0_areFirstNumbers_41
    · refine lv_iload_n hx hb dX0_areFirstNumbers_17 rfl (lv_at hl 2 rfl) ?_
      refine zw_ci (va_runS (As := [.int b]) (rest := []) ⟨hx, hb, hml, hown, hts⟩ (zc_isNumber l b) (va_cwS 1 hts gX0_areFirstNumbers_X0_isNumber rfl rfl rfl (by decide +kernel) ⟨Nat.le_of_ble_eq_true rfl, Nat.le_of_ble_eq_true rfl⟩) (preEq) rfl rfl hl.1 rfl (lv_room (Nat.le_of_ble_eq_true rfl)) dX0_areFirstNumbers_18 ⟨Nat.zero_le _, Nat.zero_le _⟩) ?_
      refine zw_ifeq (tgt := 40) hx hb dX0_areFirstNumbers_21 (by decide) (fun c_21 => ?_) (fun c_21 => ?_)
      · refine lv_iconst (v := 0) hx hb dX0_areFirstNumbers_40 (by decide) ?_
        refine zw_eqi (y := zb_I (zf_fn k a b d)) (by simp [zb_I, zf_fn, c_2, c_14, c_21]) ?_
        exact W.zret hx hb hr (zb_nar _) (fun t ht hW => ⟨rfl, ht⟩) (fun q h => by cases h) dX0_areFirstNumbers_41
      · refine lv_iload_n hx hb dX0_areFirstNumbers_24 rfl (lv_at hl 0 rfl) ?_
        refine lv_iconst (v := 3) hx hb dX0_areFirstNumbers_25 (by decide) ?_
        refine lv_icmp_lt (tgt := 36) hx hb dX0_areFirstNumbers_26 (by decide) (fun c_26 => ?_) (fun c_26 => ?_)
        · refine lv_iconst (v := 1) hx hb dX0_areFirstNumbers_36 (by decide) ?_
          refine lv_goto (tgt := 41) hx hb dX0_areFirstNumbers_37 (by decide) ?_
          refine zw_eqi (y := zb_I (zf_fn k a b d)) (by simp [zb_I, zf_fn, c_2, c_14, c_21, c_26]) ?_
          exact W.zret hx hb hr (zb_nar _) (fun t ht hW => ⟨rfl, ht⟩) (fun q h => by cases h) dX0_areFirstNumbers_41
        · refine lv_iload_n hx hb dX0_areFirstNumbers_29 rfl (lv_at hl 3 rfl) ?_
          refine zw_ci (va_runS (As := [.int d]) (rest := []) ⟨hx, hb, hml, hown, hts⟩ (zc_isNumber l d) (va_cwS 1 hts gX0_areFirstNumbers_X0_isNumber rfl rfl rfl (by decide +kernel) ⟨Nat.le_of_ble_eq_true rfl, Nat.le_of_ble_eq_true rfl⟩) (preEq) rfl rfl hl.1 rfl (lv_room (Nat.le_of_ble_eq_true rfl)) dX0_areFirstNumbers_30 ⟨Nat.zero_le _, Nat.zero_le _⟩) ?_
          refine zw_ifeq (tgt := 40) hx hb dX0_areFirstNumbers_33 (by decide) (fun c_33 => ?_) (fun c_33 => ?_)
          · refine lv_iconst (v := 0) hx hb dX0_areFirstNumbers_40 (by decide) ?_
            refine zw_eqi (y := zb_I (zf_fn k a b d)) (by simp [zb_I, zf_fn, c_2, c_14, c_21, c_26, c_33]) ?_
            exact W.zret hx hb hr (zb_nar _) (fun t ht hW => ⟨rfl, ht⟩) (fun q h => by cases h) dX0_areFirstNumbers_41
          · refine lv_iconst (v := 1) hx hb dX0_areFirstNumbers_36 (by decide) ?_
            refine lv_goto (tgt := 41) hx hb dX0_areFirstNumbers_37 (by decide) ?_
            refine zw_eqi (y := zb_I (zf_fn k a b d)) (by simp [zb_I, zf_fn, c_2, c_14, c_21, c_26, c_33]) ?_
            exact W.zret hx hb hr (zb_nar _) (fun t ht hW => ⟨rfl, ht⟩) (fun q h => by cases h) dX0_areFirstNumbers_41
  · refine lv_iload_n hx hb dX0_areFirstNumbers_5 rfl (lv_at hl 1 rfl) ?_
    refine zw_ci (va_runS (As := [.int a]) (rest := []) ⟨hx, hb, hml, hown, hts⟩ (zc_isNumber l a) (va_cwS 1 hts gX0_areFirstNumbers_X0_isNumber rfl rfl rfl (by decide +kernel) ⟨Nat.le_of_ble_eq_true rfl, Nat.le_of_ble_eq_true rfl⟩) (preEq) rfl rfl hl.1 rfl (lv_room (Nat.le_of_ble_eq_true rfl)) dX0_areFirstNumbers_6 ⟨Nat.zero_le _, Nat.zero_le _⟩) ?_
    refine zw_ifeq (tgt := 40) hx hb dX0_areFirstNumbers_9 (by decide) (fun c_9 => ?_) (fun c_9 => ?_)
    · refine lv_iconst (v := 0) hx hb dX0_areFirstNumbers_40 (by decide) ?_
      refine zw_eqi (y := zb_I (zf_fn k a b d)) (by simp [zb_I, zf_fn, c_2, c_9]) ?_
      exact W.zret hx hb hr (zb_nar _) (fun t ht hW => ⟨rfl, ht⟩) (fun q h => by cases h) dX0_areFirstNumbers_41
    · refine lv_iload_n hx hb dX0_areFirstNumbers_12 rfl (lv_at hl 0 rfl) ?_
      refine lv_iconst (v := 2) hx hb dX0_areFirstNumbers_13 (by decide) ?_
      refine lv_icmp_lt (tgt := 24) hx hb dX0_areFirstNumbers_14 (by decide) (fun c_14 => ?_) (fun c_14 => ?_)
      · refine lv_iload_n hx hb dX0_areFirstNumbers_24 rfl (lv_at hl 0 rfl) ?_
        refine lv_iconst (v := 3) hx hb dX0_areFirstNumbers_25 (by decide) ?_
        refine lv_icmp_lt (tgt := 36) hx hb dX0_areFirstNumbers_26 (by decide) (fun c_26 => ?_) (fun c_26 => ?_)
        · refine lv_iconst (v := 1) hx hb dX0_areFirstNumbers_36 (by decide) ?_
          refine lv_goto (tgt := 41) hx hb dX0_areFirstNumbers_37 (by decide) ?_
          refine zw_eqi (y := zb_I (zf_fn k a b d)) (by simp [zb_I, zf_fn, c_2, c_9, c_14, c_26]) ?_
          exact W.zret hx hb hr (zb_nar _) (fun t ht hW => ⟨rfl, ht⟩) (fun q h => by cases h) dX0_areFirstNumbers_41
        · refine lv_iload_n hx hb dX0_areFirstNumbers_29 rfl (lv_at hl 3 rfl) ?_
          refine zw_ci (va_runS (As := [.int d]) (rest := []) ⟨hx, hb, hml, hown, hts⟩ (zc_isNumber l d) (va_cwS 1 hts gX0_areFirstNumbers_X0_isNumber rfl rfl rfl (by decide +kernel) ⟨Nat.le_of_ble_eq_true rfl, Nat.le_of_ble_eq_true rfl⟩) (preEq) rfl rfl hl.1 rfl (lv_room (Nat.le_of_ble_eq_true rfl)) dX0_areFirstNumbers_30 ⟨Nat.zero_le _, Nat.zero_le _⟩) ?_
          refine zw_ifeq (tgt := 40) hx hb dX0_areFirstNumbers_33 (by decide) (fun c_33 => ?_) (fun c_33 => ?_)
          · refine lv_iconst (v := 0) hx hb dX0_areFirstNumbers_40 (by decide) ?_
            refine zw_eqi (y := zb_I (zf_fn k a b d)) (by simp [zb_I, zf_fn, c_2, c_9, c_14, c_26, c_33]) ?_
            exact W.zret hx hb hr (zb_nar _) (fun t ht hW => ⟨rfl, ht⟩) (fun q h => by cases h) dX0_areFirstNumbers_41
          · refine lv_iconst (v := 1) hx hb dX0_areFirstNumbers_36 (by decide) ?_
            refine lv_goto (tgt := 41) hx hb dX0_areFirstNumbers_37 (by decide) ?_
            refine zw_eqi (y := zb_I (zf_fn k a b d)) (by simp [zb_I, zf_fn, c_2, c_9, c_14, c_26, c_33]) ?_
            exact W.zret hx hb hr (zb_nar _) (fun t ht hW => ⟨rfl, ht⟩) (fun q h => by cases h) dX0_areFirstNumbers_41
      · refine lv_iload_n hx hb dX0_areFirstNumbers_17 rfl (lv_at hl 2 rfl) ?_
        refine zw_ci (va_runS (As := [.int b]) (rest := []) ⟨hx, hb, hml, hown, hts⟩ (zc_isNumber l b) (va_cwS 1 hts gX0_areFirstNumbers_X0_isNumber rfl rfl rfl (by decide +kernel) ⟨Nat.le_of_ble_eq_true rfl, Nat.le_of_ble_eq_true rfl⟩) (preEq) rfl rfl hl.1 rfl (lv_room (Nat.le_of_ble_eq_true rfl)) dX0_areFirstNumbers_18 ⟨Nat.zero_le _, Nat.zero_le _⟩) ?_
        refine zw_ifeq (tgt := 40) hx hb dX0_areFirstNumbers_21 (by decide) (fun c_21 => ?_) (fun c_21 => ?_)
        · refine lv_iconst (v := 0) hx hb dX0_areFirstNumbers_40 (by decide) ?_
          refine zw_eqi (y := zb_I (zf_fn k a b d)) (by simp [zb_I, zf_fn, c_2, c_9, c_14, c_21]) ?_
          exact W.zret hx hb hr (zb_nar _) (fun t ht hW => ⟨rfl, ht⟩) (fun q h => by cases h) dX0_areFirstNumbers_41
        · refine lv_iload_n hx hb dX0_areFirstNumbers_24 rfl (lv_at hl 0 rfl) ?_
          refine lv_iconst (v := 3) hx hb dX0_areFirstNumbers_25 (by decide) ?_
          refine lv_icmp_lt (tgt := 36) hx hb dX0_areFirstNumbers_26 (by decide) (fun c_26 => ?_) (fun c_26 => ?_)
          · refine lv_iconst (v := 1) hx hb dX0_areFirstNumbers_36 (by decide) ?_
            refine lv_goto (tgt := 41) hx hb dX0_areFirstNumbers_37 (by decide) ?_
            refine zw_eqi (y := zb_I (zf_fn k a b d)) (by simp [zb_I, zf_fn, c_2, c_9, c_14, c_21, c_26]) ?_
            exact W.zret hx hb hr (zb_nar _) (fun t ht hW => ⟨rfl, ht⟩) (fun q h => by cases h) dX0_areFirstNumbers_41
          · refine lv_iload_n hx hb dX0_areFirstNumbers_29 rfl (lv_at hl 3 rfl) ?_
            refine zw_ci (va_runS (As := [.int d]) (rest := []) ⟨hx, hb, hml, hown, hts⟩ (zc_isNumber l d) (va_cwS 1 hts gX0_areFirstNumbers_X0_isNumber rfl rfl rfl (by decide +kernel) ⟨Nat.le_of_ble_eq_true rfl, Nat.le_of_ble_eq_true rfl⟩) (preEq) rfl rfl hl.1 rfl (lv_room (Nat.le_of_ble_eq_true rfl)) dX0_areFirstNumbers_30 ⟨Nat.zero_le _, Nat.zero_le _⟩) ?_
            refine zw_ifeq (tgt := 40) hx hb dX0_areFirstNumbers_33 (by decide) (fun c_33 => ?_) (fun c_33 => ?_)
            · refine lv_iconst (v := 0) hx hb dX0_areFirstNumbers_40 (by decide) ?_
              refine zw_eqi (y := zb_I (zf_fn k a b d)) (by simp [zb_I, zf_fn, c_2, c_9, c_14, c_21, c_26, c_33]) ?_
              exact W.zret hx hb hr (zb_nar _) (fun t ht hW => ⟨rfl, ht⟩) (fun q h => by cases h) dX0_areFirstNumbers_41
            · refine lv_iconst (v := 1) hx hb dX0_areFirstNumbers_36 (by decide) ?_
              refine lv_goto (tgt := 41) hx hb dX0_areFirstNumbers_37 (by decide) ?_
              refine zw_eqi (y := zb_I (zf_fn k a b d)) (by simp [zb_I, zf_fn, c_2, c_9, c_14, c_21, c_26, c_33]) ?_
              exact W.zret hx hb hr (zb_nar _) (fun t ht hW => ⟨rfl, ht⟩) (fun q h => by cases h) dX0_areFirstNumbers_41
set_option maxHeartbeats 4000000 in
set_option maxRecDepth 100000 in
/-- shiftOf(v) -/
theorem zc_shiftOf (l : Launch) (v : Int32) : Met l yX0_shiftOf wsX0_shiftOf ({ frames := 0, cells := 0, slots := 0, locals := 0 }) (fun w9 _ => w9 = ([.int v] : List Value).toArray) (zw_Q (some (.int (zf_sh v)))) 0 0 (fun _ => False) := by
  refine Met.ofW (cc := cX0_shiftOf) (maxL := 1) (ret := (some .int)) (by decide) rfl ?_
  intro p e s m args below meth c s₁ B hml hv
  obtain rfl := hv
  have hx := B.exec
  have hb := B.bytes
  have hr := B.returns
  have hts := atoms_spec (ws := wsX0_shiftOf) B.pre
  have hown : s.vm.findClass RX0 = some m.cls := findClass_of_methodNamed B.named
  have hl := lv_entry ([.int v]) (n := 1) (Nat.le_of_ble_eq_true rfl)
  rw [lg_entry_eq]
  generalize (lg_sl ([.int v]) ++ List.replicate (1 - (lg_sl ([.int v])).length) Slot.unset).toArray = ls at hl ⊢
  have hl : lv_has ls 1 [(0, .int v)] := hl
  refine lv_bipush (v := 20) hx hb dX0_shiftOf_0 (by decide) ?_
  refine lv_iconst (v := 2) hx hb dX0_shiftOf_2 (by decide) ?_
  refine lv_iload_n hx hb dX0_shiftOf_3 rfl (lv_at hl 0 rfl) ?_
  refine lv_isub hx hb dX0_shiftOf_4 ?_
  refine lv_imul hx hb dX0_shiftOf_5 ?_
  refine zw_eqi (y := zf_sh v) (rfl) ?_
  exact W.iret hx hb hr (fun t ht hW => ⟨rfl, ht⟩) (fun q h => by cases h) dX0_shiftOf_6
set_option maxHeartbeats 4000000 in
set_option maxRecDepth 100000 in
/-- keyOf(a, b, d) -/
theorem zc_keyOf (l : Launch) (a : Int32) (b : Int32) (d : Int32) : Met l yX0_keyOf wsX0_keyOf ({ frames := 1, cells := 0, slots := 0, locals := 20 }) (fun w9 _ => w9 = ([.int a, .int b, .int d] : List Value).toArray) (zw_Q (some (.long (zf_key a b d)))) 0 0 (fun _ => False) := by
  refine Met.ofW (cc := cX0_keyOf) (maxL := 3) (ret := (some .long)) (by decide) rfl ?_
  intro p e s m args below meth c s₁ B hml hv
  obtain rfl := hv
  have hx := B.exec
  have hb := B.bytes
  have hr := B.returns
  have hts := atoms_spec (ws := wsX0_keyOf) B.pre
  have hown : s.vm.findClass RX0 = some m.cls := findClass_of_methodNamed B.named
  have hl := lv_entry ([.int a, .int b, .int d]) (n := 3) (Nat.le_of_ble_eq_true rfl)
  rw [lg_entry_eq]
  generalize (lg_sl ([.int a, .int b, .int d]) ++ List.replicate (3 - (lg_sl ([.int a, .int b, .int d])).length) Slot.unset).toArray = ls at hl ⊢
  have hl : lv_has ls 3 [(0, .int a), (1, .int b), (2, .int d)] := hl
  refine lv_iload_n hx hb dX0_keyOf_0 rfl (lv_at hl 0 rfl) ?_
  refine lv_i2l (v := Int32.toInt64 a) hx hb dX0_keyOf_1 rfl ?_
  refine lv_iconst (v := 0) hx hb dX0_keyOf_2 (by decide) ?_
  refine zw_ci (va_runS (As := [.int 0]) (rest := [.long (Int32.toInt64 a)]) ⟨hx, hb, hml, hown, hts⟩ (zc_shiftOf l 0) (va_cwS 1 hts gX0_keyOf_X0_shiftOf rfl rfl rfl (by decide +kernel) ⟨Nat.le_of_ble_eq_true rfl, Nat.le_of_ble_eq_true rfl⟩) (preEq) rfl rfl hl.1 rfl (lv_room (Nat.le_of_ble_eq_true rfl)) dX0_keyOf_3 ⟨Nat.zero_le _, Nat.zero_le _⟩) ?_
  refine lv_lshl (v := (Int32.toInt64 a) <<< (Int32.toInt64 (zf_sh 0) &&& 63)) hx hb dX0_keyOf_6 rfl ?_
  refine lv_iload_n hx hb dX0_keyOf_7 rfl (lv_at hl 1 rfl) ?_
  refine lv_i2l (v := Int32.toInt64 b) hx hb dX0_keyOf_8 rfl ?_
  refine lv_iconst (v := 1) hx hb dX0_keyOf_9 (by decide) ?_
  refine zw_ci (va_runS (As := [.int 1]) (rest := [.long (Int32.toInt64 b), .long ((Int32.toInt64 a) <<< (Int32.toInt64 (zf_sh 0) &&& 63))]) ⟨hx, hb, hml, hown, hts⟩ (zc_shiftOf l 1) (va_cwS 1 hts gX0_keyOf_X0_shiftOf rfl rfl rfl (by decide +kernel) ⟨Nat.le_of_ble_eq_true rfl, Nat.le_of_ble_eq_true rfl⟩) (preEq) rfl rfl hl.1 rfl (lv_room (Nat.le_of_ble_eq_true rfl)) dX0_keyOf_10 ⟨Nat.zero_le _, Nat.zero_le _⟩) ?_
  refine lv_lshl (v := (Int32.toInt64 b) <<< (Int32.toInt64 (zf_sh 1) &&& 63)) hx hb dX0_keyOf_13 rfl ?_
  refine lv_lor hx hb dX0_keyOf_14 ?_
  refine lv_iload_n hx hb dX0_keyOf_15 rfl (lv_at hl 2 rfl) ?_
  refine lv_i2l (v := Int32.toInt64 d) hx hb dX0_keyOf_16 rfl ?_
  refine lv_lor hx hb dX0_keyOf_17 ?_
  refine zw_eql (y := zf_key a b d) (rfl) ?_
  exact W.lret hx hb hr (fun t ht hW => ⟨rfl, ht⟩) (fun q h => by cases h) dX0_keyOf_18
set_option maxHeartbeats 4000000 in
set_option maxRecDepth 100000 in
/-- firstKey(k, a, b, d) -/
theorem zc_firstKey (l : Launch) (k : Int32) (a : Int32) (b : Int32) (d : Int32) : Met l yX0_firstKey wsX0_firstKey ({ frames := 2, cells := 0, slots := 0, locals := 42 }) (fun w9 _ => w9 = ([.int k, .int a, .int b, .int d] : List Value).toArray) (zw_Q (some (.long (zf_first k a b d)))) 0 0 (fun _ => False) := by
  refine Met.ofW (cc := cX0_firstKey) (maxL := 4) (ret := (some .long)) (by decide) rfl ?_
  intro p e s m args below meth c s₁ B hml hv
  obtain rfl := hv
  have hx := B.exec
  have hb := B.bytes
  have hr := B.returns
  have hts := atoms_spec (ws := wsX0_firstKey) B.pre
  have hown : s.vm.findClass RX0 = some m.cls := findClass_of_methodNamed B.named
  have hl := lv_entry ([.int k, .int a, .int b, .int d]) (n := 4) (Nat.le_of_ble_eq_true rfl)
  rw [lg_entry_eq]
  generalize (lg_sl ([.int k, .int a, .int b, .int d]) ++ List.replicate (4 - (lg_sl ([.int k, .int a, .int b, .int d])).length) Slot.unset).toArray = ls at hl ⊢
  have hl : lv_has ls 4 [(0, .int k), (1, .int a), (2, .int b), (3, .int d)] := hl
  refine lv_iload_n hx hb dX0_firstKey_0 rfl (lv_at hl 0 rfl) ?_
  refine lv_iconst (v := 1) hx hb dX0_firstKey_1 (by decide) ?_
  refine lv_icmp_ge (tgt := 9) hx hb dX0_firstKey_2 (by decide) (fun c_2 => ?_) (fun c_2 => ?_)
  · refine lv_iload_n hx hb dX0_firstKey_9 rfl (lv_at hl 1 rfl) ?_
    refine lv_iload_n hx hb dX0_firstKey_10 rfl (lv_at hl 0 rfl) ?_
    refine lv_iconst (v := 2) hx hb dX0_firstKey_11 (by decide) ?_
    refine lv_icmp_ge (tgt := 19) hx hb dX0_firstKey_12 (by decide) (fun c_12 => ?_) (fun c_12 => ?_)
    · refine lv_iload_n hx hb dX0_firstKey_19 rfl (lv_at hl 2 rfl) ?_
      refine lv_iload_n hx hb dX0_firstKey_20 rfl (lv_at hl 0 rfl) ?_
      refine lv_iconst (v := 3) hx hb dX0_firstKey_21 (by decide) ?_
      refine lv_icmp_ge (tgt := 29) hx hb dX0_firstKey_22 (by decide) (fun c_22 => ?_) (fun c_22 => ?_)
      · refine lv_iload_n hx hb dX0_firstKey_29 rfl (lv_at hl 3 rfl) ?_
        refine zw_cl (va_runS (As := [.int a, .int b, .int d]) (rest := []) ⟨hx, hb, hml, hown, hts⟩ (zc_keyOf l a b d) (va_cwS 3 hts gX0_firstKey_X0_keyOf rfl rfl rfl (by decide +kernel) ⟨Nat.le_of_ble_eq_true rfl, Nat.le_of_ble_eq_true rfl⟩) (preEq) rfl rfl hl.1 rfl (lv_room (Nat.le_of_ble_eq_true rfl)) dX0_firstKey_30 ⟨Nat.zero_le _, Nat.zero_le _⟩) ?_
        refine zw_eql (y := zf_first k a b d) (by simp [zf_first, c_2, c_12, c_22]) ?_
        exact W.lret hx hb hr (fun t ht hW => ⟨rfl, ht⟩) (fun q h => by cases h) dX0_firstKey_33
      · refine lv_iconst (v := 0) hx hb dX0_firstKey_25 (by decide) ?_
        refine lv_goto (tgt := 30) hx hb dX0_firstKey_26 (by decide) ?_
        refine zw_cl (va_runS (As := [.int a, .int b, .int 0]) (rest := []) ⟨hx, hb, hml, hown, hts⟩ (zc_keyOf l a b 0) (va_cwS 3 hts gX0_firstKey_X0_keyOf rfl rfl rfl (by decide +kernel) ⟨Nat.le_of_ble_eq_true rfl, Nat.le_of_ble_eq_true rfl⟩) (preEq) rfl rfl hl.1 rfl (lv_room (Nat.le_of_ble_eq_true rfl)) dX0_firstKey_30 ⟨Nat.zero_le _, Nat.zero_le _⟩) ?_
        refine zw_eql (y := zf_first k a b d) (by simp [zf_first, c_2, c_12, c_22]) ?_
        exact W.lret hx hb hr (fun t ht hW => ⟨rfl, ht⟩) (fun q h => by cases h) dX0_firstKey_33
    · refine lv_iconst (v := 0) hx hb dX0_firstKey_15 (by decide) ?_
      refine lv_goto (tgt := 20) hx hb dX0_firstKey_16 (by decide) ?_
      refine lv_iload_n hx hb dX0_firstKey_20 rfl (lv_at hl 0 rfl) ?_
      refine lv_iconst (v := 3) hx hb dX0_firstKey_21 (by decide) ?_
      refine lv_icmp_ge (tgt := 29) hx hb dX0_firstKey_22 (by decide) (fun c_22 => ?_) (fun c_22 => ?_)
      · refine lv_iload_n hx hb dX0_firstKey_29 rfl (lv_at hl 3 rfl) ?_
        refine zw_cl (va_runS (As := [.int a, .int 0, .int d]) (rest := []) ⟨hx, hb, hml, hown, hts⟩ (zc_keyOf l a 0 d) (va_cwS 3 hts gX0_firstKey_X0_keyOf rfl rfl rfl (by decide +kernel) ⟨Nat.le_of_ble_eq_true rfl, Nat.le_of_ble_eq_true rfl⟩) (preEq) rfl rfl hl.1 rfl (lv_room (Nat.le_of_ble_eq_true rfl)) dX0_firstKey_30 ⟨Nat.zero_le _, Nat.zero_le _⟩) ?_
        refine zw_eql (y := zf_first k a b d) (by simp [zf_first, c_2, c_12, c_22]) ?_
        exact W.lret hx hb hr (fun t ht hW => ⟨rfl, ht⟩) (fun q h => by cases h) dX0_firstKey_33
      · refine lv_iconst (v := 0) hx hb dX0_firstKey_25 (by decide) ?_
        refine lv_goto (tgt := 30) hx hb dX0_firstKey_26 (by decide) ?_
        refine zw_cl (va_runS (As := [.int a, .int 0, .int 0]) (rest := []) ⟨hx, hb, hml, hown, hts⟩ (zc_keyOf l a 0 0) (va_cwS 3 hts gX0_firstKey_X0_keyOf rfl rfl rfl (by decide +kernel) ⟨Nat.le_of_ble_eq_true rfl, Nat.le_of_ble_eq_true rfl⟩) (preEq) rfl rfl hl.1 rfl (lv_room (Nat.le_of_ble_eq_true rfl)) dX0_firstKey_30 ⟨Nat.zero_le _, Nat.zero_le _⟩) ?_
        refine zw_eql (y := zf_first k a b d) (by simp [zf_first, c_2, c_12, c_22]) ?_
        exact W.lret hx hb hr (fun t ht hW => ⟨rfl, ht⟩) (fun q h => by cases h) dX0_firstKey_33
  · refine lv_iconst (v := 0) hx hb dX0_firstKey_5 (by decide) ?_
    refine lv_goto (tgt := 10) hx hb dX0_firstKey_6 (by decide) ?_
    refine lv_iload_n hx hb dX0_firstKey_10 rfl (lv_at hl 0 rfl) ?_
    refine lv_iconst (v := 2) hx hb dX0_firstKey_11 (by decide) ?_
    refine lv_icmp_ge (tgt := 19) hx hb dX0_firstKey_12 (by decide) (fun c_12 => ?_) (fun c_12 => ?_)
    · refine lv_iload_n hx hb dX0_firstKey_19 rfl (lv_at hl 2 rfl) ?_
      refine lv_iload_n hx hb dX0_firstKey_20 rfl (lv_at hl 0 rfl) ?_
      refine lv_iconst (v := 3) hx hb dX0_firstKey_21 (by decide) ?_
      refine lv_icmp_ge (tgt := 29) hx hb dX0_firstKey_22 (by decide) (fun c_22 => ?_) (fun c_22 => ?_)
      · refine lv_iload_n hx hb dX0_firstKey_29 rfl (lv_at hl 3 rfl) ?_
        refine zw_cl (va_runS (As := [.int 0, .int b, .int d]) (rest := []) ⟨hx, hb, hml, hown, hts⟩ (zc_keyOf l 0 b d) (va_cwS 3 hts gX0_firstKey_X0_keyOf rfl rfl rfl (by decide +kernel) ⟨Nat.le_of_ble_eq_true rfl, Nat.le_of_ble_eq_true rfl⟩) (preEq) rfl rfl hl.1 rfl (lv_room (Nat.le_of_ble_eq_true rfl)) dX0_firstKey_30 ⟨Nat.zero_le _, Nat.zero_le _⟩) ?_
        refine zw_eql (y := zf_first k a b d) (by simp [zf_first, c_2, c_12, c_22]) ?_
        exact W.lret hx hb hr (fun t ht hW => ⟨rfl, ht⟩) (fun q h => by cases h) dX0_firstKey_33
      · refine lv_iconst (v := 0) hx hb dX0_firstKey_25 (by decide) ?_
        refine lv_goto (tgt := 30) hx hb dX0_firstKey_26 (by decide) ?_
        refine zw_cl (va_runS (As := [.int 0, .int b, .int 0]) (rest := []) ⟨hx, hb, hml, hown, hts⟩ (zc_keyOf l 0 b 0) (va_cwS 3 hts gX0_firstKey_X0_keyOf rfl rfl rfl (by decide +kernel) ⟨Nat.le_of_ble_eq_true rfl, Nat.le_of_ble_eq_true rfl⟩) (preEq) rfl rfl hl.1 rfl (lv_room (Nat.le_of_ble_eq_true rfl)) dX0_firstKey_30 ⟨Nat.zero_le _, Nat.zero_le _⟩) ?_
        refine zw_eql (y := zf_first k a b d) (by simp [zf_first, c_2, c_12, c_22]) ?_
        exact W.lret hx hb hr (fun t ht hW => ⟨rfl, ht⟩) (fun q h => by cases h) dX0_firstKey_33
    · refine lv_iconst (v := 0) hx hb dX0_firstKey_15 (by decide) ?_
      refine lv_goto (tgt := 20) hx hb dX0_firstKey_16 (by decide) ?_
      refine lv_iload_n hx hb dX0_firstKey_20 rfl (lv_at hl 0 rfl) ?_
      refine lv_iconst (v := 3) hx hb dX0_firstKey_21 (by decide) ?_
      refine lv_icmp_ge (tgt := 29) hx hb dX0_firstKey_22 (by decide) (fun c_22 => ?_) (fun c_22 => ?_)
      · refine lv_iload_n hx hb dX0_firstKey_29 rfl (lv_at hl 3 rfl) ?_
        refine zw_cl (va_runS (As := [.int 0, .int 0, .int d]) (rest := []) ⟨hx, hb, hml, hown, hts⟩ (zc_keyOf l 0 0 d) (va_cwS 3 hts gX0_firstKey_X0_keyOf rfl rfl rfl (by decide +kernel) ⟨Nat.le_of_ble_eq_true rfl, Nat.le_of_ble_eq_true rfl⟩) (preEq) rfl rfl hl.1 rfl (lv_room (Nat.le_of_ble_eq_true rfl)) dX0_firstKey_30 ⟨Nat.zero_le _, Nat.zero_le _⟩) ?_
        refine zw_eql (y := zf_first k a b d) (by simp [zf_first, c_2, c_12, c_22]) ?_
        exact W.lret hx hb hr (fun t ht hW => ⟨rfl, ht⟩) (fun q h => by cases h) dX0_firstKey_33
      · refine lv_iconst (v := 0) hx hb dX0_firstKey_25 (by decide) ?_
        refine lv_goto (tgt := 30) hx hb dX0_firstKey_26 (by decide) ?_
        refine zw_cl (va_runS (As := [.int 0, .int 0, .int 0]) (rest := []) ⟨hx, hb, hml, hown, hts⟩ (zc_keyOf l 0 0 0) (va_cwS 3 hts gX0_firstKey_X0_keyOf rfl rfl rfl (by decide +kernel) ⟨Nat.le_of_ble_eq_true rfl, Nat.le_of_ble_eq_true rfl⟩) (preEq) rfl rfl hl.1 rfl (lv_room (Nat.le_of_ble_eq_true rfl)) dX0_firstKey_30 ⟨Nat.zero_le _, Nat.zero_le _⟩) ?_
        refine zw_eql (y := zf_first k a b d) (by simp [zf_first, c_2, c_12, c_22]) ?_
        exact W.lret hx hb hr (fun t ht hW => ⟨rfl, ht⟩) (fun q h => by cases h) dX0_firstKey_33
set_option maxHeartbeats 4000000 in
set_option maxRecDepth 100000 in
/-- keysInAll(k) -/
theorem zc_keysInAll (l : Launch) (k : Int32) : Met l yX0_keysInAll wsX0_keysInAll ({ frames := 0, cells := 0, slots := 0, locals := 0 }) (fun w9 _ => w9 = ([.int k] : List Value).toArray) (zw_Q (some (.long (zf_all k)))) 0 0 (fun _ => False) := by
  refine Met.ofW (cc := cX0_keysInAll) (maxL := 1) (ret := (some .long)) (by decide) rfl ?_
  intro p e s m args below meth c s₁ B hml hv
  obtain rfl := hv
  have hx := B.exec
  have hb := B.bytes
  have hr := B.returns
  have hts := atoms_spec (ws := wsX0_keysInAll) B.pre
  have hown : s.vm.findClass RX0 = some m.cls := findClass_of_methodNamed B.named
  have hl := lv_entry ([.int k]) (n := 1) (Nat.le_of_ble_eq_true rfl)
  rw [lg_entry_eq]
  generalize (lg_sl ([.int k]) ++ List.replicate (1 - (lg_sl ([.int k])).length) Slot.unset).toArray = ls at hl ⊢
  have hl : lv_has ls 1 [(0, .int k)] := hl
  refine lv_lconst (v := 1) hx hb dX0_keysInAll_0 (by decide) ?_
  refine lv_bipush (v := 20) hx hb dX0_keysInAll_1 (by decide) ?_
  refine lv_iconst (v := 3) hx hb dX0_keysInAll_3 (by decide) ?_
  refine lv_iload_n hx hb dX0_keysInAll_4 rfl (lv_at hl 0 rfl) ?_
  refine lv_isub hx hb dX0_keysInAll_5 ?_
  refine lv_imul hx hb dX0_keysInAll_6 ?_
  refine lv_lshl (v := 1 <<< (Int32.toInt64 (20 * (3 - k)) &&& 63)) hx hb dX0_keysInAll_7 rfl ?_
  refine zw_eql (y := zf_all k) (rfl) ?_
  exact W.lret hx hb hr (fun t ht hW => ⟨rfl, ht⟩) (fun q h => by cases h) dX0_keysInAll_8
set_option maxHeartbeats 4000000 in
set_option maxRecDepth 100000 in
/-- keyOfTriple(x, y, z) -/
theorem zc_keyOfTriple (l : Launch) (dC : Nat → ClassId) (dI : Nat → Nat → Nat) (h0 ha : Nat) (cA : ClassId) (n : Nat) (f : Nat → Int64) (px py pz : Int32) (ks : List Nat) (cur : Int64) (x : Int32) (y : Int32) (z : Int32) : Met l yX0_keyOfTriple wsX0_keyOfTriple ({ frames := 1, cells := 0, slots := 0, locals := 20 }) (zw_P [.ref h0, .int x, .int y, .int z] (dC, dI) vwCl (zx_w h0 ha cA n f px py pz ks.length cur) [(cA, .long)]) (zw_Q (some (.long (zf_kt px py pz x y z)))) 0 0 (fun _ => False) := by
  refine Met.ofW (cc := cX0_keyOfTriple) (maxL := 4) (ret := (some .long)) (by decide) rfl ?_
  intro p e s m args below meth c s₁ B hml hv
  obtain ⟨rfl, hP, hK⟩ := hv
  have hx := B.exec
  have hb := B.bytes
  have hr := B.returns
  have hts := atoms_spec (ws := wsX0_keyOfTriple) B.pre
  have hown : s.vm.findClass RX0 = some m.cls := findClass_of_methodNamed B.named
  have hl := lv_entry ([.ref h0, .int x, .int y, .int z]) (n := 4) (Nat.le_of_ble_eq_true rfl)
  rw [lg_entry_eq]
  generalize (lg_sl ([.ref h0, .int x, .int y, .int z]) ++ List.replicate (4 - (lg_sl ([.ref h0, .int x, .int y, .int z])).length) Slot.unset).toArray = ls at hl ⊢
  have hl : lv_has ls 4 [(0, .ref h0), (1, .int x), (2, .int y), (3, .int z)] := hl
  have hP : va_P (dC, dI) vwCl (zx_w h0 ha cA n f px py pz ks.length cur) s.heap := hP
  refine lv_iload_n hx hb dX0_keyOfTriple_0 rfl (lv_at hl 1 rfl) ?_
  refine lv_i2l (v := Int32.toInt64 x) hx hb dX0_keyOfTriple_1 rfl ?_
  refine lv_aload_n hx hb dX0_keyOfTriple_2 rfl (lv_at hl 0 rfl) ?_
  refine va_get (D := (dC, dI)) (ci := 0) (v := .int px) (C := RX0) (T := TX0) (N := 6) hx hb hts (by decide +kernel) hown hK hP 0 rfl rfl 0 (by decide) (hts (.fieldLink RX0 19 "PageIndex" "placeOfX" "I") (by decide +kernel)) (fun _ h9 => h9) rfl dX0_keyOfTriple_3 ?_
  refine zw_ci (va_runS (As := [.int px]) (rest := [.long (Int32.toInt64 x)]) ⟨hx, hb, hml, hown, hts⟩ (zc_shiftOf l px) (va_cwS 1 hts gX0_keyOfTriple_X0_shiftOf rfl rfl rfl (by decide +kernel) ⟨Nat.le_of_ble_eq_true rfl, Nat.le_of_ble_eq_true rfl⟩) (preEq) rfl rfl hl.1 rfl (lv_room (Nat.le_of_ble_eq_true rfl)) dX0_keyOfTriple_6 ⟨Nat.zero_le _, Nat.zero_le _⟩) ?_
  refine lv_lshl (v := (Int32.toInt64 x) <<< (Int32.toInt64 (zf_sh px) &&& 63)) hx hb dX0_keyOfTriple_9 rfl ?_
  refine lv_iload_n hx hb dX0_keyOfTriple_10 rfl (lv_at hl 2 rfl) ?_
  refine lv_i2l (v := Int32.toInt64 y) hx hb dX0_keyOfTriple_11 rfl ?_
  refine lv_aload_n hx hb dX0_keyOfTriple_12 rfl (lv_at hl 0 rfl) ?_
  refine va_get (D := (dC, dI)) (ci := 0) (v := .int py) (C := RX0) (T := TX0) (N := 6) hx hb hts (by decide +kernel) hown hK hP 0 rfl rfl 1 (by decide) (hts (.fieldLink RX0 23 "PageIndex" "placeOfY" "I") (by decide +kernel)) (fun _ h9 => h9) rfl dX0_keyOfTriple_13 ?_
  refine zw_ci (va_runS (As := [.int py]) (rest := [.long (Int32.toInt64 y), .long ((Int32.toInt64 x) <<< (Int32.toInt64 (zf_sh px) &&& 63))]) ⟨hx, hb, hml, hown, hts⟩ (zc_shiftOf l py) (va_cwS 1 hts gX0_keyOfTriple_X0_shiftOf rfl rfl rfl (by decide +kernel) ⟨Nat.le_of_ble_eq_true rfl, Nat.le_of_ble_eq_true rfl⟩) (preEq) rfl rfl hl.1 rfl (lv_room (Nat.le_of_ble_eq_true rfl)) dX0_keyOfTriple_16 ⟨Nat.zero_le _, Nat.zero_le _⟩) ?_
  refine lv_lshl (v := (Int32.toInt64 y) <<< (Int32.toInt64 (zf_sh py) &&& 63)) hx hb dX0_keyOfTriple_19 rfl ?_
  refine lv_lor hx hb dX0_keyOfTriple_20 ?_
  refine lv_iload_n hx hb dX0_keyOfTriple_21 rfl (lv_at hl 3 rfl) ?_
  refine lv_i2l (v := Int32.toInt64 z) hx hb dX0_keyOfTriple_22 rfl ?_
  refine lv_aload_n hx hb dX0_keyOfTriple_23 rfl (lv_at hl 0 rfl) ?_
  refine va_get (D := (dC, dI)) (ci := 0) (v := .int pz) (C := RX0) (T := TX0) (N := 6) hx hb hts (by decide +kernel) hown hK hP 0 rfl rfl 2 (by decide) (hts (.fieldLink RX0 26 "PageIndex" "placeOfZ" "I") (by decide +kernel)) (fun _ h9 => h9) rfl dX0_keyOfTriple_24 ?_
  refine zw_ci (va_runS (As := [.int pz]) (rest := [.long (Int32.toInt64 z), .long (((Int32.toInt64 x) <<< (Int32.toInt64 (zf_sh px) &&& 63)) ||| ((Int32.toInt64 y) <<< (Int32.toInt64 (zf_sh py) &&& 63)))]) ⟨hx, hb, hml, hown, hts⟩ (zc_shiftOf l pz) (va_cwS 1 hts gX0_keyOfTriple_X0_shiftOf rfl rfl rfl (by decide +kernel) ⟨Nat.le_of_ble_eq_true rfl, Nat.le_of_ble_eq_true rfl⟩) (preEq) rfl rfl hl.1 rfl (lv_room (Nat.le_of_ble_eq_true rfl)) dX0_keyOfTriple_27 ⟨Nat.zero_le _, Nat.zero_le _⟩) ?_
  refine lv_lshl (v := (Int32.toInt64 z) <<< (Int32.toInt64 (zf_sh pz) &&& 63)) hx hb dX0_keyOfTriple_30 rfl ?_
  refine lv_lor hx hb dX0_keyOfTriple_31 ?_
  refine zw_eql (y := zf_kt px py pz x y z) (rfl) ?_
  exact W.lret hx hb hr (fun t ht hW => ⟨rfl, ht⟩) (fun q h => by cases h) dX0_keyOfTriple_32
set_option maxHeartbeats 4000000 in
set_option maxRecDepth 100000 in
/-- cursorNumber(v) -/
theorem zc_cursorNumber (l : Launch) (dC : Nat → ClassId) (dI : Nat → Nat → Nat) (h0 ha : Nat) (cA : ClassId) (n : Nat) (f : Nat → Int64) (px py pz : Int32) (ks : List Nat) (cur : Int64) (v : Int32) : Met l yX0_cursorNumber wsX0_cursorNumber ({ frames := 1, cells := 0, slots := 0, locals := 20 }) (zw_P [.ref h0, .int v] (dC, dI) vwCl (zx_w h0 ha cA n f px py pz ks.length cur) [(cA, .long)]) (zw_Q (some (.int (zf_cn cur v)))) 0 0 (fun _ => False) := by
  refine Met.ofW (cc := cX0_cursorNumber) (maxL := 2) (ret := (some .int)) (by decide) rfl ?_
  intro p e s m args below meth c s₁ B hml hv
  obtain ⟨rfl, hP, hK⟩ := hv
  have hx := B.exec
  have hb := B.bytes
  have hr := B.returns
  have hts := atoms_spec (ws := wsX0_cursorNumber) B.pre
  have hown : s.vm.findClass RX0 = some m.cls := findClass_of_methodNamed B.named
  have hl := lv_entry ([.ref h0, .int v]) (n := 2) (Nat.le_of_ble_eq_true rfl)
  rw [lg_entry_eq]
  generalize (lg_sl ([.ref h0, .int v]) ++ List.replicate (2 - (lg_sl ([.ref h0, .int v])).length) Slot.unset).toArray = ls at hl ⊢
  have hl : lv_has ls 2 [(0, .ref h0), (1, .int v)] := hl
  have hP : va_P (dC, dI) vwCl (zx_w h0 ha cA n f px py pz ks.length cur) s.heap := hP
  refine lv_aload_n hx hb dX0_cursorNumber_0 rfl (lv_at hl 0 rfl) ?_
  refine va_get (D := (dC, dI)) (ci := 0) (v := .long cur) (C := RX0) (T := TX0) (N := 6) hx hb hts (by decide +kernel) hown hK hP 0 rfl rfl 5 (by decide) (hts (.fieldLink RX0 38 "PageIndex" "cursor" "J") (by decide +kernel)) (fun _ h9 => h9) rfl dX0_cursorNumber_1 ?_
  refine lv_iload_n hx hb dX0_cursorNumber_4 rfl (lv_at hl 1 rfl) ?_
  refine zw_ci (va_runS (As := [.int v]) (rest := [.long cur]) ⟨hx, hb, hml, hown, hts⟩ (zc_shiftOf l v) (va_cwS 1 hts gX0_cursorNumber_X0_shiftOf rfl rfl rfl (by decide +kernel) ⟨Nat.le_of_ble_eq_true rfl, Nat.le_of_ble_eq_true rfl⟩) (preEq) rfl rfl hl.1 rfl (lv_room (Nat.le_of_ble_eq_true rfl)) dX0_cursorNumber_5 ⟨Nat.zero_le _, Nat.zero_le _⟩) ?_
  refine lv_lshr (v := cur >>> (Int32.toInt64 (zf_sh v) &&& 63)) hx hb dX0_cursorNumber_8 rfl ?_
  refine lv_l2i (v := Int64.toInt32 (cur >>> (Int32.toInt64 (zf_sh v) &&& 63))) hx hb dX0_cursorNumber_9 rfl ?_
  refine lv_ldc (v := 1048575) hx hb hown (hts (.constant RX0 95 1048575) (by decide +kernel)) dX0_cursorNumber_10 ?_
  refine lv_iand hx hb dX0_cursorNumber_12 ?_
  refine zw_eqi (y := zf_cn cur v) (rfl) ?_
  exact W.iret hx hb hr (fun t ht hW => ⟨rfl, ht⟩) (fun q h => by cases h) dX0_cursorNumber_13
set_option maxHeartbeats 4000000 in
set_option maxRecDepth 100000 in
/-- size() -/
theorem zc_size (l : Launch) (dC : Nat → ClassId) (dI : Nat → Nat → Nat) (h0 ha : Nat) (cA : ClassId) (n : Nat) (f : Nat → Int64) (px py pz : Int32) (ks : List Nat) (cur : Int64) : Met l yX0_size wsX0_size ({ frames := 0, cells := 0, slots := 0, locals := 0 }) (zw_P [.ref h0] (dC, dI) vwCl (zx_w h0 ha cA n f px py pz ks.length cur) [(cA, .long)]) (zw_Q (some (.int (nI ks.length)))) 0 0 (fun _ => False) := by
  refine Met.ofW (cc := cX0_size) (maxL := 1) (ret := (some .int)) (by decide) rfl ?_
  intro p e s m args below meth c s₁ B hml hv
  obtain ⟨rfl, hP, hK⟩ := hv
  have hx := B.exec
  have hb := B.bytes
  have hr := B.returns
  have hts := atoms_spec (ws := wsX0_size) B.pre
  have hown : s.vm.findClass RX0 = some m.cls := findClass_of_methodNamed B.named
  have hl := lv_entry ([.ref h0]) (n := 1) (Nat.le_of_ble_eq_true rfl)
  rw [lg_entry_eq]
  generalize (lg_sl ([.ref h0]) ++ List.replicate (1 - (lg_sl ([.ref h0])).length) Slot.unset).toArray = ls at hl ⊢
  have hl : lv_has ls 1 [(0, .ref h0)] := hl
  have hP : va_P (dC, dI) vwCl (zx_w h0 ha cA n f px py pz ks.length cur) s.heap := hP
  refine lv_aload_n hx hb dX0_size_0 rfl (lv_at hl 0 rfl) ?_
  refine va_get (D := (dC, dI)) (ci := 0) (v := .int (nI ks.length)) (C := RX0) (T := TX0) (N := 6) hx hb hts (by decide +kernel) hown hK hP 0 rfl rfl 4 (by decide) (hts (.fieldLink RX0 33 "PageIndex" "held" "I") (by decide +kernel)) (fun _ h9 => h9) rfl dX0_size_1 ?_
  exact W.iret hx hb hr (fun t ht hW => ⟨rfl, ht⟩) (fun q h => by cases h) dX0_size_4
