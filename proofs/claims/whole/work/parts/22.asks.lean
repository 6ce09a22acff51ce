set_option maxHeartbeats 4000000 in
set_option maxRecDepth 100000 in
/-- startOf -/
theorem zc_startOf (l : Launch) (dC : Nat → ClassId) (dI : Nat → Nat → Nat) (h0 ha : Nat) (cA : ClassId) (n : Nat) (f : Nat → Int64) (px py pz : Int32) (ks : List Nat) (cur : Int64) (v : Int32) (a : Int32) (b : Int32) (d : Int32) (i : Nat) (hi : i ≤ 3) (ev : v = nI i) (hG : zk_G ks n f) : Met l yX0_startOf wsX0_startOf ({ frames := 3, cells := 0, slots := 0, locals := 65 }) (zw_P [.ref h0, .int v, .int a, .int b, .int d] (dC, dI) vwCl (zx_w h0 ha cA n f px py pz ks.length cur) [(cA, .long)]) (zw_Q (some (.int (nI (zk_st ks v a b d))))) 0 0 (fun _ => False) := by
  refine Met.ofW (cc := cX0_startOf) (maxL := 5) (ret := (some .int)) (by decide) rfl ?_
  intro p e s m args below meth c s₁ B hml hv
  obtain ⟨rfl, hP, hK⟩ := hv
  have hx := B.exec
  have hb := B.bytes
  have hr := B.returns
  have hts := atoms_spec (ws := wsX0_startOf) B.pre
  have hown : s.vm.findClass RX0 = some m.cls := findClass_of_methodNamed B.named
  have hl := lv_entry ([.ref h0, .int v, .int a, .int b, .int d]) (n := 5) (Nat.le_of_ble_eq_true rfl)
  rw [lg_entry_eq]
  generalize (lg_sl ([.ref h0, .int v, .int a, .int b, .int d]) ++ List.replicate (5 - (lg_sl ([.ref h0, .int v, .int a, .int b, .int d])).length) Slot.unset).toArray = ls at hl ⊢
  have hl : lv_has ls 5 [(0, .ref h0), (1, .int v), (2, .int a), (3, .int b), (4, .int d)] := hl
  have hP : va_P (dC, dI) vwCl (zx_w h0 ha cA n f px py pz ks.length cur) s.heap := hP
  refine lv_iload_n hx hb dX0_startOf_0 rfl (lv_at hl 1 rfl) ?_
  refine lv_iload_n hx hb dX0_startOf_1 rfl (lv_at hl 2 rfl) ?_
  refine lv_iload_n hx hb dX0_startOf_2 rfl (lv_at hl 3 rfl) ?_
  refine lv_iload hx hb dX0_startOf_3 (lv_at hl 4 rfl) ?_
  refine zw_ci (va_runS (As := [.int v, .int a, .int b, .int d]) (rest := []) ⟨hx, hb, hml, hown, hts⟩ (zc_areFirstNumbers l v a b d) (va_cwS 4 hts gX0_startOf_X0_areFirstNumbers rfl rfl rfl (by decide +kernel) ⟨Nat.le_of_ble_eq_true rfl, Nat.le_of_ble_eq_true rfl⟩) (preEq) rfl rfl hl.1 rfl (lv_room (Nat.le_of_ble_eq_true rfl)) dX0_startOf_5 ⟨Nat.zero_le _, Nat.zero_le _⟩) ?_
  refine zw_ifeq (tgt := 26) hx hb dX0_startOf_8 (by decide) (fun c_8 => ?_) (fun c_8 => ?_)
  · refine lv_iconst (v := 0) hx hb dX0_startOf_26 (by decide) ?_
    refine zw_eqi (y := nI (zk_st ks v a b d)) (by simp [zk_st, c_8, nI_0]) ?_
    exact W.iret hx hb hr (fun t ht hW => ⟨rfl, ht⟩) (fun q h => by cases h) dX0_startOf_27
  · refine lv_aload_n hx hb dX0_startOf_11 rfl (lv_at hl 0 rfl) ?_
    refine lv_iload_n hx hb dX0_startOf_12 rfl (lv_at hl 1 rfl) ?_
    refine lv_iload_n hx hb dX0_startOf_13 rfl (lv_at hl 2 rfl) ?_
    refine lv_iload_n hx hb dX0_startOf_14 rfl (lv_at hl 3 rfl) ?_
    refine lv_iload hx hb dX0_startOf_15 (lv_at hl 4 rfl) ?_
    refine zw_cl (va_runS (As := [.int v, .int a, .int b, .int d]) (rest := [.ref h0]) ⟨hx, hb, hml, hown, hts⟩ (zc_firstKey l v a b d) (va_cwS 4 hts gX0_startOf_X0_firstKey rfl rfl rfl (by decide +kernel) ⟨Nat.le_of_ble_eq_true rfl, Nat.le_of_ble_eq_true rfl⟩) (preEq) rfl rfl hl.1 rfl (lv_room (Nat.le_of_ble_eq_true rfl)) dX0_startOf_17 ⟨Nat.zero_le _, Nat.zero_le _⟩) ?_
    have hN := zk_first_N hi ev c_8
    refine zw_eql (y := lN (Int.toNat (Int64.toInt (zf_first v a b d)))) hN.1 ?_
    refine zw_ci (va_runV (As := [.long (lN (Int.toNat (Int64.toInt (zf_first v a b d))))]) (rest := []) ⟨hx, hb, hml, hown, hts⟩ (zc_keysBefore l dC dI h0 ha cA n f px py pz ks cur (Int.toNat (Int64.toInt (zf_first v a b d))) (hN.2) hG) (cwV 1 hts gX0_startOf_X0_keysBefore rfl rfl rfl (by decide +kernel) ⟨Nat.le_of_ble_eq_true rfl, Nat.le_of_ble_eq_true rfl⟩) (zw_preV (ci := 0) (q0 := 0) hP hK rfl rfl) rfl rfl hl.1 rfl (lv_room (Nat.le_of_ble_eq_true rfl)) dX0_startOf_20 ⟨Nat.zero_le _, Nat.zero_le _⟩) ?_
    refine lv_goto (tgt := 27) hx hb dX0_startOf_23 (by decide) ?_
    refine zw_eqi (y := nI (zk_st ks v a b d)) (by simp [zk_st, c_8]) ?_
    exact W.iret hx hb hr (fun t ht hW => ⟨rfl, ht⟩) (fun q h => by cases h) dX0_startOf_27
set_option maxHeartbeats 4000000 in
set_option maxRecDepth 100000 in
/-- endOf -/
theorem zc_endOf (l : Launch) (dC : Nat → ClassId) (dI : Nat → Nat → Nat) (h0 ha : Nat) (cA : ClassId) (n : Nat) (f : Nat → Int64) (px py pz : Int32) (ks : List Nat) (cur : Int64) (v : Int32) (a : Int32) (b : Int32) (d : Int32) (i : Nat) (hi : i ≤ 3) (ev : v = nI i) (hG : zk_G ks n f) : Met l yX0_endOf wsX0_endOf ({ frames := 3, cells := 0, slots := 0, locals := 65 }) (zw_P [.ref h0, .int v, .int a, .int b, .int d] (dC, dI) vwCl (zx_w h0 ha cA n f px py pz ks.length cur) [(cA, .long)]) (zw_Q (some (.int (nI (zk_en ks v a b d))))) 0 0 (fun _ => False) := by
  refine Met.ofW (cc := cX0_endOf) (maxL := 5) (ret := (some .int)) (by decide) rfl ?_
  intro p e s m args below meth c s₁ B hml hv
  obtain ⟨rfl, hP, hK⟩ := hv
  have hx := B.exec
  have hb := B.bytes
  have hr := B.returns
  have hts := atoms_spec (ws := wsX0_endOf) B.pre
  have hown : s.vm.findClass RX0 = some m.cls := findClass_of_methodNamed B.named
  have hl := lv_entry ([.ref h0, .int v, .int a, .int b, .int d]) (n := 5) (Nat.le_of_ble_eq_true rfl)
  rw [lg_entry_eq]
  generalize (lg_sl ([.ref h0, .int v, .int a, .int b, .int d]) ++ List.replicate (5 - (lg_sl ([.ref h0, .int v, .int a, .int b, .int d])).length) Slot.unset).toArray = ls at hl ⊢
  have hl : lv_has ls 5 [(0, .ref h0), (1, .int v), (2, .int a), (3, .int b), (4, .int d)] := hl
  have hP : va_P (dC, dI) vwCl (zx_w h0 ha cA n f px py pz ks.length cur) s.heap := hP
  refine lv_iload_n hx hb dX0_endOf_0 rfl (lv_at hl 1 rfl) ?_
  refine lv_iload_n hx hb dX0_endOf_1 rfl (lv_at hl 2 rfl) ?_
  refine lv_iload_n hx hb dX0_endOf_2 rfl (lv_at hl 3 rfl) ?_
  refine lv_iload hx hb dX0_endOf_3 (lv_at hl 4 rfl) ?_
  refine zw_ci (va_runS (As := [.int v, .int a, .int b, .int d]) (rest := []) ⟨hx, hb, hml, hown, hts⟩ (zc_areFirstNumbers l v a b d) (va_cwS 4 hts gX0_endOf_X0_areFirstNumbers rfl rfl rfl (by decide +kernel) ⟨Nat.le_of_ble_eq_true rfl, Nat.le_of_ble_eq_true rfl⟩) (preEq) rfl rfl hl.1 rfl (lv_room (Nat.le_of_ble_eq_true rfl)) dX0_endOf_5 ⟨Nat.zero_le _, Nat.zero_le _⟩) ?_
  refine zw_ifeq (tgt := 31) hx hb dX0_endOf_8 (by decide) (fun c_8 => ?_) (fun c_8 => ?_)
  · refine lv_iconst (v := 0) hx hb dX0_endOf_31 (by decide) ?_
    refine zw_eqi (y := nI (zk_en ks v a b d)) (by simp [zk_en, c_8, nI_0]) ?_
    exact W.iret hx hb hr (fun t ht hW => ⟨rfl, ht⟩) (fun q h => by cases h) dX0_endOf_32
  · refine lv_aload_n hx hb dX0_endOf_11 rfl (lv_at hl 0 rfl) ?_
    refine lv_iload_n hx hb dX0_endOf_12 rfl (lv_at hl 1 rfl) ?_
    refine lv_iload_n hx hb dX0_endOf_13 rfl (lv_at hl 2 rfl) ?_
    refine lv_iload_n hx hb dX0_endOf_14 rfl (lv_at hl 3 rfl) ?_
    refine lv_iload hx hb dX0_endOf_15 (lv_at hl 4 rfl) ?_
    refine zw_cl (va_runS (As := [.int v, .int a, .int b, .int d]) (rest := [.ref h0]) ⟨hx, hb, hml, hown, hts⟩ (zc_firstKey l v a b d) (va_cwS 4 hts gX0_endOf_X0_firstKey rfl rfl rfl (by decide +kernel) ⟨Nat.le_of_ble_eq_true rfl, Nat.le_of_ble_eq_true rfl⟩) (preEq) rfl rfl hl.1 rfl (lv_room (Nat.le_of_ble_eq_true rfl)) dX0_endOf_17 ⟨Nat.zero_le _, Nat.zero_le _⟩) ?_
    refine lv_iload_n hx hb dX0_endOf_20 rfl (lv_at hl 1 rfl) ?_
    refine zw_cl (va_runS (As := [.int v]) (rest := [.long (zf_first v a b d), .ref h0]) ⟨hx, hb, hml, hown, hts⟩ (zc_keysInAll l v) (va_cwS 1 hts gX0_endOf_X0_keysInAll rfl rfl rfl (by decide +kernel) ⟨Nat.le_of_ble_eq_true rfl, Nat.le_of_ble_eq_true rfl⟩) (preEq) rfl rfl hl.1 rfl (lv_room (Nat.le_of_ble_eq_true rfl)) dX0_endOf_21 ⟨Nat.zero_le _, Nat.zero_le _⟩) ?_
    refine lv_ladd hx hb dX0_endOf_24 ?_
    have hN := zk_past_N hi ev c_8
    refine zw_eql (y := lN (Int.toNat (Int64.toInt (zf_first v a b d + zf_all v)))) hN.1 ?_
    refine zw_ci (va_runV (As := [.long (lN (Int.toNat (Int64.toInt (zf_first v a b d + zf_all v))))]) (rest := []) ⟨hx, hb, hml, hown, hts⟩ (zc_keysBefore l dC dI h0 ha cA n f px py pz ks cur (Int.toNat (Int64.toInt (zf_first v a b d + zf_all v))) (hN.2) hG) (cwV 1 hts gX0_endOf_X0_keysBefore rfl rfl rfl (by decide +kernel) ⟨Nat.le_of_ble_eq_true rfl, Nat.le_of_ble_eq_true rfl⟩) (zw_preV (ci := 0) (q0 := 0) hP hK rfl rfl) rfl rfl hl.1 rfl (lv_room (Nat.le_of_ble_eq_true rfl)) dX0_endOf_25 ⟨Nat.zero_le _, Nat.zero_le _⟩) ?_
    refine lv_goto (tgt := 32) hx hb dX0_endOf_28 (by decide) ?_
    refine zw_eqi (y := nI (zk_en ks v a b d)) (by simp [zk_en, c_8]) ?_
    exact W.iret hx hb hr (fun t ht hW => ⟨rfl, ht⟩) (fun q h => by cases h) dX0_endOf_32
set_option maxHeartbeats 4000000 in
set_option maxRecDepth 100000 in
/-- has(x, y, z) -/
theorem zc_has (l : Launch) (dC : Nat → ClassId) (dI : Nat → Nat → Nat) (h0 ha : Nat) (cA : ClassId) (n : Nat) (f : Nat → Int64) (px py pz : Int32) (ks : List Nat) (cur : Int64) (x : Int32) (y : Int32) (z : Int32) (k : Nat) (hk : zf_nn x y z = true → zf_kt px py pz x y z = lN k ∧ k < 1152921504606846976) (hG : zk_G ks n f) : Met l yX0_has wsX0_has ({ frames := 2, cells := 0, slots := 0, locals := 47 }) (zw_P [.ref h0, .int x, .int y, .int z] (dC, dI) vwCl (zx_w h0 ha cA n f px py pz ks.length cur) [(cA, .long)]) (zw_Q (some (.int (if zf_nn x y z then zb_I (decide (k ∈ ks)) else -1)))) 0 0 (fun _ => False) := by
  refine Met.ofW (cc := cX0_has) (maxL := 4) (ret := (some .int)) (by decide) rfl ?_
  intro p e s m args below meth c s₁ B hml hv
  obtain ⟨rfl, hP, hK⟩ := hv
  have hx := B.exec
  have hb := B.bytes
  have hr := B.returns
  have hts := atoms_spec (ws := wsX0_has) B.pre
  have hown : s.vm.findClass RX0 = some m.cls := findClass_of_methodNamed B.named
  have hl := lv_entry ([.ref h0, .int x, .int y, .int z]) (n := 4) (Nat.le_of_ble_eq_true rfl)
  rw [lg_entry_eq]
  generalize (lg_sl ([.ref h0, .int x, .int y, .int z]) ++ List.replicate (4 - (lg_sl ([.ref h0, .int x, .int y, .int z])).length) Slot.unset).toArray = ls at hl ⊢
  have hl : lv_has ls 4 [(0, .ref h0), (1, .int x), (2, .int y), (3, .int z)] := hl
  have hP : va_P (dC, dI) vwCl (zx_w h0 ha cA n f px py pz ks.length cur) s.heap := hP
  refine lv_iload_n hx hb dX0_has_0 rfl (lv_at hl 1 rfl) ?_
  refine lv_iload_n hx hb dX0_has_1 rfl (lv_at hl 2 rfl) ?_
  refine lv_iload_n hx hb dX0_has_2 rfl (lv_at hl 3 rfl) ?_
  refine zw_ci (va_runS (As := [.int x, .int y, .int z]) (rest := []) ⟨hx, hb, hml, hown, hts⟩ (zc_areNumbers l x y z) (va_cwS 3 hts gX0_has_X0_areNumbers rfl rfl rfl (by decide +kernel) ⟨Nat.le_of_ble_eq_true rfl, Nat.le_of_ble_eq_true rfl⟩) (preEq) rfl rfl hl.1 rfl (lv_room (Nat.le_of_ble_eq_true rfl)) dX0_has_3 ⟨Nat.zero_le _, Nat.zero_le _⟩) ?_
  refine zw_ifne (tgt := 11) hx hb dX0_has_6 (by decide) (fun c_6 => ?_) (fun c_6 => ?_)
  · refine lv_aload_n hx hb dX0_has_11 rfl (lv_at hl 0 rfl) ?_
    refine lv_aload_n hx hb dX0_has_12 rfl (lv_at hl 0 rfl) ?_
    refine lv_iload_n hx hb dX0_has_13 rfl (lv_at hl 1 rfl) ?_
    refine lv_iload_n hx hb dX0_has_14 rfl (lv_at hl 2 rfl) ?_
    refine lv_iload_n hx hb dX0_has_15 rfl (lv_at hl 3 rfl) ?_
    refine zw_cl (va_runV (As := [.int x, .int y, .int z]) (rest := [.ref h0]) ⟨hx, hb, hml, hown, hts⟩ (zc_keyOfTriple l dC dI h0 ha cA n f px py pz ks cur x y z) (cwV 3 hts gX0_has_X0_keyOfTriple rfl rfl rfl (by decide +kernel) ⟨Nat.le_of_ble_eq_true rfl, Nat.le_of_ble_eq_true rfl⟩) (zw_preV (ci := 0) (q0 := 0) hP hK rfl rfl) rfl rfl hl.1 rfl (lv_room (Nat.le_of_ble_eq_true rfl)) dX0_has_16 ⟨Nat.zero_le _, Nat.zero_le _⟩) ?_
    refine zw_eql (y := lN k) (hk c_6).1 ?_
    refine zw_ci (va_runV (As := [.long (lN k)]) (rest := []) ⟨hx, hb, hml, hown, hts⟩ (zc_isHeld l dC dI h0 ha cA n f px py pz ks cur k (Nat.le_of_lt (hk c_6).2) hG) (cwV 1 hts gX0_has_X0_isHeld rfl rfl rfl (by decide +kernel) ⟨Nat.le_of_ble_eq_true rfl, Nat.le_of_ble_eq_true rfl⟩) (zw_preV (ci := 0) (q0 := 0) hP hK rfl rfl) rfl rfl hl.1 rfl (lv_room (Nat.le_of_ble_eq_true rfl)) dX0_has_19 ⟨Nat.zero_le _, Nat.zero_le _⟩) ?_
    refine zw_ifeq (tgt := 29) hx hb dX0_has_22 (by decide) (fun c_22 => ?_) (fun c_22 => ?_)
    · refine lv_iconst (v := 0) hx hb dX0_has_29 (by decide) ?_
      refine zw_eqi (y := if zf_nn x y z then zb_I (decide (k ∈ ks)) else -1) (by simp [zb_I, c_6, c_22]) ?_
      exact W.iret hx hb hr (fun t ht hW => ⟨rfl, ht⟩) (fun q h => by cases h) dX0_has_30
    · refine lv_iconst (v := 1) hx hb dX0_has_25 (by decide) ?_
      refine lv_goto (tgt := 30) hx hb dX0_has_26 (by decide) ?_
      refine zw_eqi (y := if zf_nn x y z then zb_I (decide (k ∈ ks)) else -1) (by simp [zb_I, c_6, c_22]) ?_
      exact W.iret hx hb hr (fun t ht hW => ⟨rfl, ht⟩) (fun q h => by cases h) dX0_has_30
  · refine lv_iconst (v := (-1)) hx hb dX0_has_9 (by decide) ?_
    refine zw_eqi (y := if zf_nn x y z then zb_I (decide (k ∈ ks)) else -1) (by simp [zb_I, c_6]) ?_
    exact W.iret hx hb hr (fun t ht hW => ⟨rfl, ht⟩) (fun q h => by cases h) dX0_has_10
set_option maxHeartbeats 4000000 in
set_option maxRecDepth 100000 in
/-- rank(a, b, d) -/
theorem zc_rank (l : Launch) (dC : Nat → ClassId) (dI : Nat → Nat → Nat) (h0 ha : Nat) (cA : ClassId) (n : Nat) (f : Nat → Int64) (px py pz : Int32) (ks : List Nat) (cur : Int64) (a : Int32) (b : Int32) (d : Int32) (k : Nat) (hk : zf_nn a b d = true → zf_key a b d = lN k ∧ k < 1152921504606846976) (hG : zk_G ks n f) : Met l yX0_rank wsX0_rank ({ frames := 2, cells := 0, slots := 0, locals := 42 }) (zw_P [.ref h0, .int a, .int b, .int d] (dC, dI) vwCl (zx_w h0 ha cA n f px py pz ks.length cur) [(cA, .long)]) (zw_Q (some (.int (if zf_nn a b d then nI (zk_c ks k) else -1)))) 0 0 (fun _ => False) := by
  refine Met.ofW (cc := cX0_rank) (maxL := 4) (ret := (some .int)) (by decide) rfl ?_
  intro p e s m args below meth c s₁ B hml hv
  obtain ⟨rfl, hP, hK⟩ := hv
  have hx := B.exec
  have hb := B.bytes
  have hr := B.returns
  have hts := atoms_spec (ws := wsX0_rank) B.pre
  have hown : s.vm.findClass RX0 = some m.cls := findClass_of_methodNamed B.named
  have hl := lv_entry ([.ref h0, .int a, .int b, .int d]) (n := 4) (Nat.le_of_ble_eq_true rfl)
  rw [lg_entry_eq]
  generalize (lg_sl ([.ref h0, .int a, .int b, .int d]) ++ List.replicate (4 - (lg_sl ([.ref h0, .int a, .int b, .int d])).length) Slot.unset).toArray = ls at hl ⊢
  have hl : lv_has ls 4 [(0, .ref h0), (1, .int a), (2, .int b), (3, .int d)] := hl
  have hP : va_P (dC, dI) vwCl (zx_w h0 ha cA n f px py pz ks.length cur) s.heap := hP
  refine lv_iload_n hx hb dX0_rank_0 rfl (lv_at hl 1 rfl) ?_
  refine lv_iload_n hx hb dX0_rank_1 rfl (lv_at hl 2 rfl) ?_
  refine lv_iload_n hx hb dX0_rank_2 rfl (lv_at hl 3 rfl) ?_
  refine zw_ci (va_runS (As := [.int a, .int b, .int d]) (rest := []) ⟨hx, hb, hml, hown, hts⟩ (zc_areNumbers l a b d) (va_cwS 3 hts gX0_rank_X0_areNumbers rfl rfl rfl (by decide +kernel) ⟨Nat.le_of_ble_eq_true rfl, Nat.le_of_ble_eq_true rfl⟩) (preEq) rfl rfl hl.1 rfl (lv_room (Nat.le_of_ble_eq_true rfl)) dX0_rank_3 ⟨Nat.zero_le _, Nat.zero_le _⟩) ?_
  refine zw_ifne (tgt := 11) hx hb dX0_rank_6 (by decide) (fun c_6 => ?_) (fun c_6 => ?_)
  · refine lv_aload_n hx hb dX0_rank_11 rfl (lv_at hl 0 rfl) ?_
    refine lv_iload_n hx hb dX0_rank_12 rfl (lv_at hl 1 rfl) ?_
    refine lv_iload_n hx hb dX0_rank_13 rfl (lv_at hl 2 rfl) ?_
    refine lv_iload_n hx hb dX0_rank_14 rfl (lv_at hl 3 rfl) ?_
    refine zw_cl (va_runS (As := [.int a, .int b, .int d]) (rest := [.ref h0]) ⟨hx, hb, hml, hown, hts⟩ (zc_keyOf l a b d) (va_cwS 3 hts gX0_rank_X0_keyOf rfl rfl rfl (by decide +kernel) ⟨Nat.le_of_ble_eq_true rfl, Nat.le_of_ble_eq_true rfl⟩) (preEq) rfl rfl hl.1 rfl (lv_room (Nat.le_of_ble_eq_true rfl)) dX0_rank_15 ⟨Nat.zero_le _, Nat.zero_le _⟩) ?_
    refine zw_eql (y := lN k) (hk c_6).1 ?_
    refine zw_ci (va_runV (As := [.long (lN k)]) (rest := []) ⟨hx, hb, hml, hown, hts⟩ (zc_keysBefore l dC dI h0 ha cA n f px py pz ks cur k (Nat.le_of_lt (hk c_6).2) hG) (cwV 1 hts gX0_rank_X0_keysBefore rfl rfl rfl (by decide +kernel) ⟨Nat.le_of_ble_eq_true rfl, Nat.le_of_ble_eq_true rfl⟩) (zw_preV (ci := 0) (q0 := 0) hP hK rfl rfl) rfl rfl hl.1 rfl (lv_room (Nat.le_of_ble_eq_true rfl)) dX0_rank_18 ⟨Nat.zero_le _, Nat.zero_le _⟩) ?_
    refine zw_eqi (y := if zf_nn a b d then nI (zk_c ks k) else -1) (by simp [c_6]) ?_
    exact W.iret hx hb hr (fun t ht hW => ⟨rfl, ht⟩) (fun q h => by cases h) dX0_rank_21
  · refine lv_iconst (v := (-1)) hx hb dX0_rank_9 (by decide) ?_
    refine zw_eqi (y := if zf_nn a b d then nI (zk_c ks k) else -1) (by simp [c_6]) ?_
    exact W.iret hx hb hr (fun t ht hW => ⟨rfl, ht⟩) (fun q h => by cases h) dX0_rank_10
set_option maxHeartbeats 4000000 in
set_option maxRecDepth 100000 in
/-- count(v, a, b, d) -/
theorem zc_count (l : Launch) (dC : Nat → ClassId) (dI : Nat → Nat → Nat) (h0 ha : Nat) (cA : ClassId) (n : Nat) (f : Nat → Int64) (px py pz : Int32) (ks : List Nat) (cur : Int64) (v : Int32) (a : Int32) (b : Int32) (d : Int32) (hG : zk_G ks n f) : Met l yX0_count wsX0_count ({ frames := 4, cells := 0, slots := 0, locals := 89 }) (zw_P [.ref h0, .int v, .int a, .int b, .int d] (dC, dI) vwCl (zx_w h0 ha cA n f px py pz ks.length cur) [(cA, .long)]) (zw_Q (some (.int (zs_count ks v a b d)))) 0 0 (fun _ => False) := by
  refine Met.ofW (cc := cX0_count) (maxL := 5) (ret := (some .int)) (by decide) rfl ?_
  intro p e s m args below meth c s₁ B hml hv
  obtain ⟨rfl, hP, hK⟩ := hv
  have hx := B.exec
  have hb := B.bytes
  have hr := B.returns
  have hts := atoms_spec (ws := wsX0_count) B.pre
  have hown : s.vm.findClass RX0 = some m.cls := findClass_of_methodNamed B.named
  have hl := lv_entry ([.ref h0, .int v, .int a, .int b, .int d]) (n := 5) (Nat.le_of_ble_eq_true rfl)
  rw [lg_entry_eq]
  generalize (lg_sl ([.ref h0, .int v, .int a, .int b, .int d]) ++ List.replicate (5 - (lg_sl ([.ref h0, .int v, .int a, .int b, .int d])).length) Slot.unset).toArray = ls at hl ⊢
  have hl : lv_has ls 5 [(0, .ref h0), (1, .int v), (2, .int a), (3, .int b), (4, .int d)] := hl
  have hP : va_P (dC, dI) vwCl (zx_w h0 ha cA n f px py pz ks.length cur) s.heap := hP
  refine lv_iload_n hx hb dX0_count_0 rfl (lv_at hl 1 rfl) ?_
  refine lv_if_lt (tgt := 9) hx hb dX0_count_1 (by decide) (fun c_1 => ?_) (fun c_1 => ?_)
  · refine lv_iconst (v := (-1)) hx hb dX0_count_9 (by decide) ?_
    refine zw_eqi (y := zs_count ks v a b d) (zs_count_bad (Or.inl c_1)) ?_
    exact W.iret hx hb hr (fun t ht hW => ⟨rfl, ht⟩) (fun q h => by cases h) dX0_count_10
  · refine lv_iload_n hx hb dX0_count_4 rfl (lv_at hl 1 rfl) ?_
    refine lv_iconst (v := 3) hx hb dX0_count_5 (by decide) ?_
    refine lv_icmp_le (tgt := 11) hx hb dX0_count_6 (by decide) (fun c_6 => ?_) (fun c_6 => ?_)
    · obtain ⟨i, hi, ev⟩ := nI_of2 (x := v) (M := 3) (n := 3) (by decide) c_1 c_6
      refine lv_aload_n hx hb dX0_count_11 rfl (lv_at hl 0 rfl) ?_
      refine lv_iload_n hx hb dX0_count_12 rfl (lv_at hl 1 rfl) ?_
      refine lv_iload_n hx hb dX0_count_13 rfl (lv_at hl 2 rfl) ?_
      refine lv_iload_n hx hb dX0_count_14 rfl (lv_at hl 3 rfl) ?_
      refine lv_iload hx hb dX0_count_15 (lv_at hl 4 rfl) ?_
      refine zw_ci (va_runV (As := [.int v, .int a, .int b, .int d]) (rest := []) ⟨hx, hb, hml, hown, hts⟩ (zc_endOf l dC dI h0 ha cA n f px py pz ks cur v a b d i hi ev hG) (cwV 4 hts gX0_count_X0_endOf rfl rfl rfl (by decide +kernel) ⟨Nat.le_of_ble_eq_true rfl, Nat.le_of_ble_eq_true rfl⟩) (zw_preV (ci := 0) (q0 := 0) hP hK rfl rfl) rfl rfl hl.1 rfl (lv_room (Nat.le_of_ble_eq_true rfl)) dX0_count_17 ⟨Nat.zero_le _, Nat.zero_le _⟩) ?_
      refine lv_aload_n hx hb dX0_count_20 rfl (lv_at hl 0 rfl) ?_
      refine lv_iload_n hx hb dX0_count_21 rfl (lv_at hl 1 rfl) ?_
      refine lv_iload_n hx hb dX0_count_22 rfl (lv_at hl 2 rfl) ?_
      refine lv_iload_n hx hb dX0_count_23 rfl (lv_at hl 3 rfl) ?_
      refine lv_iload hx hb dX0_count_24 (lv_at hl 4 rfl) ?_
      refine zw_ci (va_runV (As := [.int v, .int a, .int b, .int d]) (rest := [.int (nI (zk_en ks v a b d))]) ⟨hx, hb, hml, hown, hts⟩ (zc_startOf l dC dI h0 ha cA n f px py pz ks cur v a b d i hi ev hG) (cwV 4 hts gX0_count_X0_startOf rfl rfl rfl (by decide +kernel) ⟨Nat.le_of_ble_eq_true rfl, Nat.le_of_ble_eq_true rfl⟩) (zw_preV (ci := 0) (q0 := 0) hP hK rfl rfl) rfl rfl hl.1 rfl (lv_room (Nat.le_of_ble_eq_true rfl)) dX0_count_26 ⟨Nat.zero_le _, Nat.zero_le _⟩) ?_
      refine lv_isub hx hb dX0_count_29 ?_
      refine zw_eqi (y := zs_count ks v a b d) (zs_count_ok hG.1 hG.2.1 hi ev) ?_
      exact W.iret hx hb hr (fun t ht hW => ⟨rfl, ht⟩) (fun q h => by cases h) dX0_count_30
    · refine lv_iconst (v := (-1)) hx hb dX0_count_9 (by decide) ?_
      refine zw_eqi (y := zs_count ks v a b d) (zs_count_bad (Or.inr c_6)) ?_
      exact W.iret hx hb hr (fun t ht hW => ⟨rfl, ht⟩) (fun q h => by cases h) dX0_count_10
set_option maxHeartbeats 4000000 in
set_option maxRecDepth 100000 in
/-- different(v, a, b) -/
theorem zc_different (l : Launch) (dC : Nat → ClassId) (dI : Nat → Nat → Nat) (h0 ha : Nat) (cA : ClassId) (n : Nat) (f : Nat → Int64) (px py pz : Int32) (ks : List Nat) (cur : Int64) (v : Int32) (a : Int32) (b : Int32) (hG : zk_G ks n f) : Met l yX0_different wsX0_different ({ frames := 4, cells := 0, slots := 0, locals := 89 }) (zw_P [.ref h0, .int v, .int a, .int b] (dC, dI) vwCl (zx_w h0 ha cA n f px py pz ks.length cur) [(cA, .long)]) (zw_Q (some (.int (zs_dif ks v a b)))) 0 0 (fun _ => False) := by
  refine Met.ofW (cc := cX0_different) (maxL := 4) (ret := (some .int)) (by decide) rfl ?_
  intro p e s m args below meth c s₁ B hml hv
  obtain ⟨rfl, hP, hK⟩ := hv
  have hx := B.exec
  have hb := B.bytes
  have hr := B.returns
  have hts := atoms_spec (ws := wsX0_different) B.pre
  have hown : s.vm.findClass RX0 = some m.cls := findClass_of_methodNamed B.named
  have hl := lv_entry ([.ref h0, .int v, .int a, .int b]) (n := 4) (Nat.le_of_ble_eq_true rfl)
  rw [lg_entry_eq]
  generalize (lg_sl ([.ref h0, .int v, .int a, .int b]) ++ List.replicate (4 - (lg_sl ([.ref h0, .int v, .int a, .int b])).length) Slot.unset).toArray = ls at hl ⊢
  have hl : lv_has ls 4 [(0, .ref h0), (1, .int v), (2, .int a), (3, .int b)] := hl
  have hP : va_P (dC, dI) vwCl (zx_w h0 ha cA n f px py pz ks.length cur) s.heap := hP
  refine lv_iload_n hx hb dX0_different_0 rfl (lv_at hl 1 rfl) ?_
  refine lv_if_lt (tgt := 9) hx hb dX0_different_1 (by decide) (fun c_1 => ?_) (fun c_1 => ?_)
  · refine lv_iconst (v := (-1)) hx hb dX0_different_9 (by decide) ?_
    refine zw_eqi (y := zs_dif ks v a b) (zs_dif_bad (Or.inl c_1)) ?_
    exact W.iret hx hb hr (fun t ht hW => ⟨rfl, ht⟩) (fun q h => by cases h) dX0_different_10
  · refine lv_iload_n hx hb dX0_different_4 rfl (lv_at hl 1 rfl) ?_
    refine lv_iconst (v := 2) hx hb dX0_different_5 (by decide) ?_
    refine lv_icmp_le (tgt := 11) hx hb dX0_different_6 (by decide) (fun c_6 => ?_) (fun c_6 => ?_)
    · obtain ⟨i, hi, ev⟩ := nI_of2 (x := v) (M := 2) (n := 2) (by decide) c_1 c_6
      have hse := zk_se hG.1 hG.2.1 (i := i) (v := v) (a := a) (b := b) (d := 0) (by omega) ev
      refine lv_aload_n hx hb dX0_different_11 rfl (lv_at hl 0 rfl) ?_
      refine lv_aload_n hx hb dX0_different_12 rfl (lv_at hl 0 rfl) ?_
      refine lv_iload_n hx hb dX0_different_13 rfl (lv_at hl 1 rfl) ?_
      refine lv_iload_n hx hb dX0_different_14 rfl (lv_at hl 2 rfl) ?_
      refine lv_iload_n hx hb dX0_different_15 rfl (lv_at hl 3 rfl) ?_
      refine lv_iconst (v := 0) hx hb dX0_different_16 (by decide) ?_
      refine zw_ci (va_runV (As := [.int v, .int a, .int b, .int 0]) (rest := [.ref h0]) ⟨hx, hb, hml, hown, hts⟩ (zc_startOf l dC dI h0 ha cA n f px py pz ks cur v a b 0 i (by omega) ev hG) (cwV 4 hts gX0_different_X0_startOf rfl rfl rfl (by decide +kernel) ⟨Nat.le_of_ble_eq_true rfl, Nat.le_of_ble_eq_true rfl⟩) (zw_preV (ci := 0) (q0 := 0) hP hK rfl rfl) rfl rfl hl.1 rfl (lv_room (Nat.le_of_ble_eq_true rfl)) dX0_different_17 ⟨Nat.zero_le _, Nat.zero_le _⟩) ?_
      refine lv_aload_n hx hb dX0_different_20 rfl (lv_at hl 0 rfl) ?_
      refine lv_iload_n hx hb dX0_different_21 rfl (lv_at hl 1 rfl) ?_
      refine lv_iload_n hx hb dX0_different_22 rfl (lv_at hl 2 rfl) ?_
      refine lv_iload_n hx hb dX0_different_23 rfl (lv_at hl 3 rfl) ?_
      refine lv_iconst (v := 0) hx hb dX0_different_24 (by decide) ?_
      refine zw_ci (va_runV (As := [.int v, .int a, .int b, .int 0]) (rest := [.int (nI (zk_st ks v a b 0)), .ref h0]) ⟨hx, hb, hml, hown, hts⟩ (zc_endOf l dC dI h0 ha cA n f px py pz ks cur v a b 0 i (by omega) ev hG) (cwV 4 hts gX0_different_X0_endOf rfl rfl rfl (by decide +kernel) ⟨Nat.le_of_ble_eq_true rfl, Nat.le_of_ble_eq_true rfl⟩) (zw_preV (ci := 0) (q0 := 0) hP hK rfl rfl) rfl rfl hl.1 rfl (lv_room (Nat.le_of_ble_eq_true rfl)) dX0_different_25 ⟨Nat.zero_le _, Nat.zero_le _⟩) ?_
      refine lv_iload_n hx hb dX0_different_28 rfl (lv_at hl 1 rfl) ?_
      refine zw_ci (va_runS (As := [.int v]) (rest := [.int (nI (zk_en ks v a b 0)), .int (nI (zk_st ks v a b 0)), .ref h0]) ⟨hx, hb, hml, hown, hts⟩ (zc_shiftOf l v) (va_cwS 1 hts gX0_different_X0_shiftOf rfl rfl rfl (by decide +kernel) ⟨Nat.le_of_ble_eq_true rfl, Nat.le_of_ble_eq_true rfl⟩) (preEq) rfl rfl hl.1 rfl (lv_room (Nat.le_of_ble_eq_true rfl)) dX0_different_29 ⟨Nat.zero_le _, Nat.zero_le _⟩) ?_
      refine zw_ci (va_runV (As := [.int (nI (zk_st ks v a b 0)), .int (nI (zk_en ks v a b 0)), .int (zf_sh v)]) (rest := []) ⟨hx, hb, hml, hown, hts⟩ (zc_beginnings l dC dI h0 ha cA n f px py pz ks cur (zk_st ks v a b 0) (zk_en ks v a b 0) (zf_sh v) hse.1 (Nat.le_trans hse.2.1 hG.2.2.1) hG.2.2.2.1.2) (cwV 3 hts gX0_different_X0_beginnings rfl rfl rfl (by decide +kernel) ⟨Nat.le_of_ble_eq_true rfl, Nat.le_of_ble_eq_true rfl⟩) (zw_preV (ci := 0) (q0 := 0) hP hK rfl rfl) rfl rfl hl.1 rfl (lv_room (Nat.le_of_ble_eq_true rfl)) dX0_different_32 ⟨Nat.zero_le _, Nat.zero_le _⟩) ?_
      refine zw_eqi (y := zs_dif ks v a b) (zs_dif_ok hG hi ev) ?_
      exact W.iret hx hb hr (fun t ht hW => ⟨rfl, ht⟩) (fun q h => by cases h) dX0_different_35
    · refine lv_iconst (v := (-1)) hx hb dX0_different_9 (by decide) ?_
      refine zw_eqi (y := zs_dif ks v a b) (zs_dif_bad (Or.inr c_6)) ?_
      exact W.iret hx hb hr (fun t ht hW => ⟨rfl, ht⟩) (fun q h => by cases h) dX0_different_10
set_option maxHeartbeats 4000000 in
set_option maxRecDepth 100000 in
/-- stands() -/
theorem zc_stands (l : Launch) (dC : Nat → ClassId) (dI : Nat → Nat → Nat) (h0 ha : Nat) (cA : ClassId) (n : Nat) (f : Nat → Int64) (px py pz : Int32) (ks : List Nat) (cur : Int64) (k : Nat) (hk : ¬ cur = -1 → cur = lN k ∧ k < 1152921504606846976) (hG : zk_G ks n f) : Met l yX0_stands wsX0_stands ({ frames := 2, cells := 0, slots := 0, locals := 47 }) (zw_P [.ref h0] (dC, dI) vwCl (zx_w h0 ha cA n f px py pz ks.length cur) [(cA, .long)]) (zw_Q (some (.int (if cur = -1 then 0 else zb_I (decide (k ∈ ks)))))) 0 0 (fun _ => False) := by
  refine Met.ofW (cc := cX0_stands) (maxL := 1) (ret := (some .int)) (by decide) rfl ?_
  intro p e s m args below meth c s₁ B hml hv
  obtain ⟨rfl, hP, hK⟩ := hv
  have hx := B.exec
  have hb := B.bytes
  have hr := B.returns
  have hts := atoms_spec (ws := wsX0_stands) B.pre
  have hown : s.vm.findClass RX0 = some m.cls := findClass_of_methodNamed B.named
  have hl := lv_entry ([.ref h0]) (n := 1) (Nat.le_of_ble_eq_true rfl)
  rw [lg_entry_eq]
  generalize (lg_sl ([.ref h0]) ++ List.replicate (1 - (lg_sl ([.ref h0])).length) Slot.unset).toArray = ls at hl ⊢
  have hl : lv_has ls 1 [(0, .ref h0)] := hl
  have hP : va_P (dC, dI) vwCl (zx_w h0 ha cA n f px py pz ks.length cur) s.heap := hP
  refine lv_aload_n hx hb dX0_stands_0 rfl (lv_at hl 0 rfl) ?_
  refine va_get (D := (dC, dI)) (ci := 0) (v := .long cur) (C := RX0) (T := TX0) (N := 6) hx hb hts (by decide +kernel) hown hK hP 0 rfl rfl 5 (by decide) (hts (.fieldLink RX0 38 "PageIndex" "cursor" "J") (by decide +kernel)) (fun _ h9 => h9) rfl dX0_stands_1 ?_
  refine lv_ldc2 (v := (-1)) hx hb hown (hts (.constantLong RX0 36 (-1)) (by decide +kernel)) dX0_stands_4 ?_
  refine W.lcmp hx hb dX0_stands_7 ?_
  refine lv_if_eq (tgt := 26) hx hb dX0_stands_8 (by decide) (fun c_8 => ?_) (fun c_8 => ?_)
  · have h8 := (lg_cmp_eq _ _).mp c_8
    refine lv_iconst (v := 0) hx hb dX0_stands_26 (by decide) ?_
    refine zw_eqi (y := if cur = -1 then 0 else zb_I (decide (k ∈ ks))) (by simp [zb_I, h8]) ?_
    exact W.iret hx hb hr (fun t ht hW => ⟨rfl, ht⟩) (fun q h => by cases h) dX0_stands_27
  · have h8 : ¬ cur = -1 := fun z => c_8 ((lg_cmp_eq _ _).mpr z)
    refine lv_aload_n hx hb dX0_stands_11 rfl (lv_at hl 0 rfl) ?_
    refine lv_aload_n hx hb dX0_stands_12 rfl (lv_at hl 0 rfl) ?_
    refine va_get (D := (dC, dI)) (ci := 0) (v := .long cur) (C := RX0) (T := TX0) (N := 6) hx hb hts (by decide +kernel) hown hK hP 0 rfl rfl 5 (by decide) (hts (.fieldLink RX0 38 "PageIndex" "cursor" "J") (by decide +kernel)) (fun _ h9 => h9) rfl dX0_stands_13 ?_
    refine zw_eql (y := lN k) (hk h8).1 ?_
    refine zw_ci (va_runV (As := [.long (lN k)]) (rest := []) ⟨hx, hb, hml, hown, hts⟩ (zc_isHeld l dC dI h0 ha cA n f px py pz ks cur k (Nat.le_of_lt (hk h8).2) hG) (cwV 1 hts gX0_stands_X0_isHeld rfl rfl rfl (by decide +kernel) ⟨Nat.le_of_ble_eq_true rfl, Nat.le_of_ble_eq_true rfl⟩) (zw_preV (ci := 0) (q0 := 0) hP hK rfl rfl) rfl rfl hl.1 rfl (lv_room (Nat.le_of_ble_eq_true rfl)) dX0_stands_16 ⟨Nat.zero_le _, Nat.zero_le _⟩) ?_
    refine zw_ifeq (tgt := 26) hx hb dX0_stands_19 (by decide) (fun c_19 => ?_) (fun c_19 => ?_)
    · refine lv_iconst (v := 0) hx hb dX0_stands_26 (by decide) ?_
      refine zw_eqi (y := if cur = -1 then 0 else zb_I (decide (k ∈ ks))) (by simp [zb_I, h8, c_19]) ?_
      exact W.iret hx hb hr (fun t ht hW => ⟨rfl, ht⟩) (fun q h => by cases h) dX0_stands_27
    · refine lv_iconst (v := 1) hx hb dX0_stands_22 (by decide) ?_
      refine lv_goto (tgt := 27) hx hb dX0_stands_23 (by decide) ?_
      refine zw_eqi (y := if cur = -1 then 0 else zb_I (decide (k ∈ ks))) (by simp [zb_I, h8, c_19]) ?_
      exact W.iret hx hb hr (fun t ht hW => ⟨rfl, ht⟩) (fun q h => by cases h) dX0_stands_27
set_option maxHeartbeats 4000000 in
set_option maxRecDepth 100000 in
/-- told(v) -/
theorem zc_told (l : Launch) (dC : Nat → ClassId) (dI : Nat → Nat → Nat) (h0 ha : Nat) (cA : ClassId) (n : Nat) (f : Nat → Int64) (px py pz : Int32) (ks : List Nat) (cur : Int64) (v : Int32) : Met l yX0_told wsX0_told ({ frames := 2, cells := 0, slots := 0, locals := 41 }) (zw_P [.ref h0, .int v] (dC, dI) vwCl (zx_w h0 ha cA n f px py pz ks.length cur) [(cA, .long)]) (zw_Q (some (.int (zf_told px py pz cur v)))) 0 0 (fun _ => False) := by
  refine Met.ofW (cc := cX0_told) (maxL := 2) (ret := (some .int)) (by decide) rfl ?_
  intro p e s m args below meth c s₁ B hml hv
  obtain ⟨rfl, hP, hK⟩ := hv
  have hx := B.exec
  have hb := B.bytes
  have hr := B.returns
  have hts := atoms_spec (ws := wsX0_told) B.pre
  have hown : s.vm.findClass RX0 = some m.cls := findClass_of_methodNamed B.named
  have hl := lv_entry ([.ref h0, .int v]) (n := 2) (Nat.le_of_ble_eq_true rfl)
  rw [lg_entry_eq]
  generalize (lg_sl ([.ref h0, .int v]) ++ List.replicate (2 - (lg_sl ([.ref h0, .int v])).length) Slot.unset).toArray = ls at hl ⊢
  have hl : lv_has ls 2 [(0, .ref h0), (1, .int v)] := hl
  have hP : va_P (dC, dI) vwCl (zx_w h0 ha cA n f px py pz ks.length cur) s.heap := hP
  refine lv_aload_n hx hb dX0_told_0 rfl (lv_at hl 0 rfl) ?_
  refine va_get (D := (dC, dI)) (ci := 0) (v := .long cur) (C := RX0) (T := TX0) (N := 6) hx hb hts (by decide +kernel) hown hK hP 0 rfl rfl 5 (by decide) (hts (.fieldLink RX0 38 "PageIndex" "cursor" "J") (by decide +kernel)) (fun _ h9 => h9) rfl dX0_told_1 ?_
  refine lv_ldc2 (v := (-1)) hx hb hown (hts (.constantLong RX0 36 (-1)) (by decide +kernel)) dX0_told_4 ?_
  refine W.lcmp hx hb dX0_told_7 ?_
  refine lv_if_ne (tgt := 13) hx hb dX0_told_8 (by decide) (fun c_8 => ?_) (fun c_8 => ?_)
  · have h8 : ¬ cur = -1 := fun z => c_8 ((lg_cmp_eq _ _).mpr z)
    refine lv_iload_n hx hb dX0_told_13 rfl (lv_at hl 1 rfl) ?_
    by_cases e_0 : v = 0
    · refine lv_tableIn (tgt := 52) hx hb dX0_told_14 (by rw [e_0]; decide) (by rw [e_0]; decide) (by rw [e_0]; rfl) (by decide) ?_
      refine lv_aload_n hx hb dX0_told_52 rfl (lv_at hl 0 rfl) ?_
      refine lv_iload_n hx hb dX0_told_53 rfl (lv_at hl 1 rfl) ?_
      refine zw_ci (va_runV (As := [.int v]) (rest := []) ⟨hx, hb, hml, hown, hts⟩ (zc_cursorNumber l dC dI h0 ha cA n f px py pz ks cur v) (cwV 1 hts gX0_told_X0_cursorNumber rfl rfl rfl (by decide +kernel) ⟨Nat.le_of_ble_eq_true rfl, Nat.le_of_ble_eq_true rfl⟩) (zw_preV (ci := 0) (q0 := 0) hP hK rfl rfl) rfl rfl hl.1 rfl (lv_room (Nat.le_of_ble_eq_true rfl)) dX0_told_54 ⟨Nat.zero_le _, Nat.zero_le _⟩) ?_
      refine zw_eqi (y := zf_told px py pz cur v) (by simp [zf_told, h8, e_0]) ?_
      exact W.iret hx hb hr (fun t ht hW => ⟨rfl, ht⟩) (fun q h => by cases h) dX0_told_57
    by_cases e_1 : v = 1
    · refine lv_tableIn (tgt := 52) hx hb dX0_told_14 (by rw [e_1]; decide) (by rw [e_1]; decide) (by rw [e_1]; rfl) (by decide) ?_
      refine lv_aload_n hx hb dX0_told_52 rfl (lv_at hl 0 rfl) ?_
      refine lv_iload_n hx hb dX0_told_53 rfl (lv_at hl 1 rfl) ?_
      refine zw_ci (va_runV (As := [.int v]) (rest := []) ⟨hx, hb, hml, hown, hts⟩ (zc_cursorNumber l dC dI h0 ha cA n f px py pz ks cur v) (cwV 1 hts gX0_told_X0_cursorNumber rfl rfl rfl (by decide +kernel) ⟨Nat.le_of_ble_eq_true rfl, Nat.le_of_ble_eq_true rfl⟩) (zw_preV (ci := 0) (q0 := 0) hP hK rfl rfl) rfl rfl hl.1 rfl (lv_room (Nat.le_of_ble_eq_true rfl)) dX0_told_54 ⟨Nat.zero_le _, Nat.zero_le _⟩) ?_
      refine zw_eqi (y := zf_told px py pz cur v) (by simp [zf_told, h8, e_0, e_1]) ?_
      exact W.iret hx hb hr (fun t ht hW => ⟨rfl, ht⟩) (fun q h => by cases h) dX0_told_57
    by_cases e_2 : v = 2
    · refine lv_tableIn (tgt := 52) hx hb dX0_told_14 (by rw [e_2]; decide) (by rw [e_2]; decide) (by rw [e_2]; rfl) (by decide) ?_
      refine lv_aload_n hx hb dX0_told_52 rfl (lv_at hl 0 rfl) ?_
      refine lv_iload_n hx hb dX0_told_53 rfl (lv_at hl 1 rfl) ?_
      refine zw_ci (va_runV (As := [.int v]) (rest := []) ⟨hx, hb, hml, hown, hts⟩ (zc_cursorNumber l dC dI h0 ha cA n f px py pz ks cur v) (cwV 1 hts gX0_told_X0_cursorNumber rfl rfl rfl (by decide +kernel) ⟨Nat.le_of_ble_eq_true rfl, Nat.le_of_ble_eq_true rfl⟩) (zw_preV (ci := 0) (q0 := 0) hP hK rfl rfl) rfl rfl hl.1 rfl (lv_room (Nat.le_of_ble_eq_true rfl)) dX0_told_54 ⟨Nat.zero_le _, Nat.zero_le _⟩) ?_
      refine zw_eqi (y := zf_told px py pz cur v) (by simp [zf_told, h8, e_0, e_1, e_2]) ?_
      exact W.iret hx hb hr (fun t ht hW => ⟨rfl, ht⟩) (fun q h => by cases h) dX0_told_57
    by_cases e_3 : v = 3
    · refine lv_tableIn (tgt := 58) hx hb dX0_told_14 (by rw [e_3]; decide) (by rw [e_3]; decide) (by rw [e_3]; rfl) (by decide) ?_
      refine lv_aload_n hx hb dX0_told_58 rfl (lv_at hl 0 rfl) ?_
      refine lv_aload_n hx hb dX0_told_59 rfl (lv_at hl 0 rfl) ?_
      refine va_get (D := (dC, dI)) (ci := 0) (v := .int px) (C := RX0) (T := TX0) (N := 6) hx hb hts (by decide +kernel) hown hK hP 0 rfl rfl 0 (by decide) (hts (.fieldLink RX0 19 "PageIndex" "placeOfX" "I") (by decide +kernel)) (fun _ h9 => h9) rfl dX0_told_60 ?_
      refine zw_ci (va_runV (As := [.int px]) (rest := []) ⟨hx, hb, hml, hown, hts⟩ (zc_cursorNumber l dC dI h0 ha cA n f px py pz ks cur px) (cwV 1 hts gX0_told_X0_cursorNumber rfl rfl rfl (by decide +kernel) ⟨Nat.le_of_ble_eq_true rfl, Nat.le_of_ble_eq_true rfl⟩) (zw_preV (ci := 0) (q0 := 0) hP hK rfl rfl) rfl rfl hl.1 rfl (lv_room (Nat.le_of_ble_eq_true rfl)) dX0_told_63 ⟨Nat.zero_le _, Nat.zero_le _⟩) ?_
      refine zw_eqi (y := zf_told px py pz cur v) (by simp [zf_told, h8, e_0, e_1, e_2, e_3]) ?_
      exact W.iret hx hb hr (fun t ht hW => ⟨rfl, ht⟩) (fun q h => by cases h) dX0_told_66
    by_cases e_4 : v = 4
    · refine lv_tableIn (tgt := 67) hx hb dX0_told_14 (by rw [e_4]; decide) (by rw [e_4]; decide) (by rw [e_4]; rfl) (by decide) ?_
      refine lv_aload_n hx hb dX0_told_67 rfl (lv_at hl 0 rfl) ?_
      refine lv_aload_n hx hb dX0_told_68 rfl (lv_at hl 0 rfl) ?_
      refine va_get (D := (dC, dI)) (ci := 0) (v := .int py) (C := RX0) (T := TX0) (N := 6) hx hb hts (by decide +kernel) hown hK hP 0 rfl rfl 1 (by decide) (hts (.fieldLink RX0 23 "PageIndex" "placeOfY" "I") (by decide +kernel)) (fun _ h9 => h9) rfl dX0_told_69 ?_
      refine zw_ci (va_runV (As := [.int py]) (rest := []) ⟨hx, hb, hml, hown, hts⟩ (zc_cursorNumber l dC dI h0 ha cA n f px py pz ks cur py) (cwV 1 hts gX0_told_X0_cursorNumber rfl rfl rfl (by decide +kernel) ⟨Nat.le_of_ble_eq_true rfl, Nat.le_of_ble_eq_true rfl⟩) (zw_preV (ci := 0) (q0 := 0) hP hK rfl rfl) rfl rfl hl.1 rfl (lv_room (Nat.le_of_ble_eq_true rfl)) dX0_told_72 ⟨Nat.zero_le _, Nat.zero_le _⟩) ?_
      refine zw_eqi (y := zf_told px py pz cur v) (by simp [zf_told, h8, e_0, e_1, e_2, e_3, e_4]) ?_
      exact W.iret hx hb hr (fun t ht hW => ⟨rfl, ht⟩) (fun q h => by cases h) dX0_told_75
    by_cases e_5 : v = 5
    · refine lv_tableIn (tgt := 76) hx hb dX0_told_14 (by rw [e_5]; decide) (by rw [e_5]; decide) (by rw [e_5]; rfl) (by decide) ?_
      refine lv_aload_n hx hb dX0_told_76 rfl (lv_at hl 0 rfl) ?_
      refine lv_aload_n hx hb dX0_told_77 rfl (lv_at hl 0 rfl) ?_
      refine va_get (D := (dC, dI)) (ci := 0) (v := .int pz) (C := RX0) (T := TX0) (N := 6) hx hb hts (by decide +kernel) hown hK hP 0 rfl rfl 2 (by decide) (hts (.fieldLink RX0 26 "PageIndex" "placeOfZ" "I") (by decide +kernel)) (fun _ h9 => h9) rfl dX0_told_78 ?_
      refine zw_ci (va_runV (As := [.int pz]) (rest := []) ⟨hx, hb, hml, hown, hts⟩ (zc_cursorNumber l dC dI h0 ha cA n f px py pz ks cur pz) (cwV 1 hts gX0_told_X0_cursorNumber rfl rfl rfl (by decide +kernel) ⟨Nat.le_of_ble_eq_true rfl, Nat.le_of_ble_eq_true rfl⟩) (zw_preV (ci := 0) (q0 := 0) hP hK rfl rfl) rfl rfl hl.1 rfl (lv_room (Nat.le_of_ble_eq_true rfl)) dX0_told_81 ⟨Nat.zero_le _, Nat.zero_le _⟩) ?_
      refine zw_eqi (y := zf_told px py pz cur v) (by simp [zf_told, h8, e_0, e_1, e_2, e_3, e_4, e_5]) ?_
      exact W.iret hx hb hr (fun t ht hW => ⟨rfl, ht⟩) (fun q h => by cases h) dX0_told_84
    have q_0 : ¬ v.toInt = 0 := fun q => e_0 (Int32.toInt_inj.mp (q.trans (by decide)))
    have q_1 : ¬ v.toInt = 1 := fun q => e_1 (Int32.toInt_inj.mp (q.trans (by decide)))
    have q_2 : ¬ v.toInt = 2 := fun q => e_2 (Int32.toInt_inj.mp (q.trans (by decide)))
    have q_3 : ¬ v.toInt = 3 := fun q => e_3 (Int32.toInt_inj.mp (q.trans (by decide)))
    have q_4 : ¬ v.toInt = 4 := fun q => e_4 (Int32.toInt_inj.mp (q.trans (by decide)))
    have q_5 : ¬ v.toInt = 5 := fun q => e_5 (Int32.toInt_inj.mp (q.trans (by decide)))
    refine lv_tableOut (tgt := 85) hx hb dX0_told_14 (by omega) (by decide) ?_
    refine lv_iconst (v := (-1)) hx hb dX0_told_85 (by decide) ?_
    refine zw_eqi (y := zf_told px py pz cur v) (by simp [zf_told, h8, e_0, e_1, e_2, e_3, e_4, e_5]) ?_
    exact W.iret hx hb hr (fun t ht hW => ⟨rfl, ht⟩) (fun q h => by cases h) dX0_told_86
  · have h8 := (lg_cmp_eq _ _).mp c_8
    refine lv_iconst (v := (-1)) hx hb dX0_told_11 (by decide) ?_
    refine zw_eqi (y := zf_told px py pz cur v) (by simp [zf_told, h8]) ?_
    exact W.iret hx hb hr (fun t ht hW => ⟨rfl, ht⟩) (fun q h => by cases h) dX0_told_12
