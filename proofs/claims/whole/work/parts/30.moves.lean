set_option maxHeartbeats 4000000 in
set_option maxRecDepth 100000 in
/-- standAt(v) -/
theorem zc_standAt (l : Launch) (dC : Nat → ClassId) (dI : Nat → Nat → Nat) (h0 ha : Nat) (cA : ClassId) (n : Nat) (f : Nat → Int64) (px py pz : Int32) (ks : List Nat) (cur : Int64) (sz : Nat) (v : Int32) (hG : zk_G ks n f) : Met l yX0_standAt wsX0_standAt ({ frames := 0, cells := 0, slots := 0, locals := 0 }) (zw_Pw [.ref h0, .int v] (dC, dI) vwCl (zx_w h0 ha cA n f px py pz ks.length cur) [(cA, .long)] sz) (zx_Q dC dI h0 px py pz (some (.int (zb_I (zs_at ks v).isSome))) (ks) (zk_o (zs_at ks v)) (va_A (zx_w h0 ha cA n f px py pz ks.length cur) sz)) 0 0 (va_A (zx_w h0 ha cA n f px py pz ks.length cur) sz) := by
  refine Met.ofW (cc := cX0_standAt) (maxL := 3) (ret := (some .boolean)) (by decide) rfl ?_
  intro p e s m args below meth c s₁ B hml hv
  obtain ⟨rfl, hsz, hP, hK, hD0⟩ := hv
  have hx := B.exec
  have hb := B.bytes
  have hr := B.returns
  have hts := atoms_spec (ws := wsX0_standAt) B.pre
  have hown : s.vm.findClass RX0 = some m.cls := findClass_of_methodNamed B.named
  subst hsz
  have hD := hD0.self (sz := s.heap.size)
  generalize hAe : va_A (zx_w h0 ha cA n f px py pz ks.length cur) s.heap.size = A at hD ⊢
  have hA : ∀ q : Nat, s.heap.size ≤ q → A q := fun q h => by rw [← hAe]; exact Or.inr h
  have hS : va_S A s.heap s.heap [] := va_S.rf
  have hP : va_P (dC, dI) vwCl (zx_w h0 ha cA n f px py pz ks.length cur) s.heap := hP
  have hl := lv_entry ([.ref h0, .int v]) (n := 3) (Nat.le_of_ble_eq_true rfl)
  rw [lg_entry_eq]
  generalize (lg_sl ([.ref h0, .int v]) ++ List.replicate (3 - (lg_sl ([.ref h0, .int v])).length) Slot.unset).toArray = ls at hl ⊢
  have hl : lv_has ls 3 [(0, .ref h0), (1, .int v)] := hl
  refine lv_iload_n hx hb dX0_standAt_0 rfl (lv_at hl 1 rfl) ?_
  refine lv_if_lt (tgt := 16) hx hb dX0_standAt_1 (by decide) (fun c_1 => ?_) (fun c_1 => ?_)
  · refine lv_iconst (v := 0) hx hb dX0_standAt_16 (by decide) ?_
    refine lv_istore_n (lv' := [(2, .int 0), (0, .ref h0), (1, .int v)]) hx hb dX0_standAt_17 rfl hl (by decide) rfl (fun ls hl => ?_)
    refine lv_aload_n hx hb dX0_standAt_18 rfl (lv_at hl 1 rfl) ?_
    refine lv_iload_n hx hb dX0_standAt_19 rfl (lv_at hl 0 rfl) ?_
    refine lv_if_eq (tgt := 32) hx hb dX0_standAt_20 (by decide) (fun c_20 => ?_) (fun c_20 => absurd (rfl) c_20)
    refine lv_ldc2 (v := (-1)) hx hb hown (hts (.constantLong RX0 36 (-1)) (by decide +kernel)) dX0_standAt_32 ?_
    have hat : none = zs_at ks v := zs_at_neg c_1
    refine zw_eql (y := zk_o (zs_at ks v)) (by rw [← hat]; rfl) ?_
    refine va_put (D := (dC, dI)) (ci := 0) (v := .long (zk_o (zs_at ks v))) (ty := .long) (C := RX0) (T := TX0) (N := 6) hx hb hts (by decide +kernel) tyX0 tyX0_ok nmX0 hown hK hP hD hS 0 rfl rfl 5 (by decide) (hts (.fieldLink RX0 38 "PageIndex" "cursor" "J") (by decide +kernel)) (fun _ h9 => h9) rfl (by decide +kernel) rfl rfl (Nat.le_of_ble_eq_true rfl) dX0_standAt_35 (fun H locs hP hD hS => ?_)
    have hP : va_P (dC, dI) vwCl (zx_w h0 ha cA n f px py pz ks.length (zk_o (zs_at ks v))) H := hP
    have hD : va_D A (zx_w h0 ha cA n f px py pz ks.length (zk_o (zs_at ks v))) := hD
    refine lv_iload_n hx hb dX0_standAt_38 rfl (lv_at hl 0 rfl) ?_
    refine zw_eqi (y := zb_I (zs_at ks v).isSome) (by rw [← hat]; rfl) ?_
    exact W.zret hx hb hr (zb_nar _) (fun t ht hW => ⟨⟨(ha, cA, n, f), rfl, hG, by rw [ht]; exact hP, va_K.moved hW.alike hK, hD⟩, hS.F ht⟩) hS.2.2 dX0_standAt_39
  · refine lv_iload_n hx hb dX0_standAt_4 rfl (lv_at hl 1 rfl) ?_
    refine lv_aload_n hx hb dX0_standAt_5 rfl (lv_at hl 0 rfl) ?_
    refine va_get (D := (dC, dI)) (ci := 0) (v := .int (nI ks.length)) (C := RX0) (T := TX0) (N := 6) hx hb hts (by decide +kernel) hown hK hP 0 rfl rfl 4 (by decide) (hts (.fieldLink RX0 33 "PageIndex" "held" "I") (by decide +kernel)) (fun _ h9 => h9) rfl dX0_standAt_6 ?_
    refine lv_icmp_ge (tgt := 16) hx hb dX0_standAt_9 (by decide) (fun c_9 => ?_) (fun c_9 => ?_)
    · refine lv_iconst (v := 0) hx hb dX0_standAt_16 (by decide) ?_
      refine lv_istore_n (lv' := [(2, .int 0), (0, .ref h0), (1, .int v)]) hx hb dX0_standAt_17 rfl hl (by decide) rfl (fun ls hl => ?_)
      refine lv_aload_n hx hb dX0_standAt_18 rfl (lv_at hl 1 rfl) ?_
      refine lv_iload_n hx hb dX0_standAt_19 rfl (lv_at hl 0 rfl) ?_
      refine lv_if_eq (tgt := 32) hx hb dX0_standAt_20 (by decide) (fun c_20 => ?_) (fun c_20 => absurd (rfl) c_20)
      refine lv_ldc2 (v := (-1)) hx hb hown (hts (.constantLong RX0 36 (-1)) (by decide +kernel)) dX0_standAt_32 ?_
      have hat : none = zs_at ks v := zs_at_out c_1 c_9 (by have q := hG.2.2; omega)
      refine zw_eql (y := zk_o (zs_at ks v)) (by rw [← hat]; rfl) ?_
      refine va_put (D := (dC, dI)) (ci := 0) (v := .long (zk_o (zs_at ks v))) (ty := .long) (C := RX0) (T := TX0) (N := 6) hx hb hts (by decide +kernel) tyX0 tyX0_ok nmX0 hown hK hP hD hS 0 rfl rfl 5 (by decide) (hts (.fieldLink RX0 38 "PageIndex" "cursor" "J") (by decide +kernel)) (fun _ h9 => h9) rfl (by decide +kernel) rfl rfl (Nat.le_of_ble_eq_true rfl) dX0_standAt_35 (fun H locs hP hD hS => ?_)
      have hP : va_P (dC, dI) vwCl (zx_w h0 ha cA n f px py pz ks.length (zk_o (zs_at ks v))) H := hP
      have hD : va_D A (zx_w h0 ha cA n f px py pz ks.length (zk_o (zs_at ks v))) := hD
      refine lv_iload_n hx hb dX0_standAt_38 rfl (lv_at hl 0 rfl) ?_
      refine zw_eqi (y := zb_I (zs_at ks v).isSome) (by rw [← hat]; rfl) ?_
      exact W.zret hx hb hr (zb_nar _) (fun t ht hW => ⟨⟨(ha, cA, n, f), rfl, hG, by rw [ht]; exact hP, va_K.moved hW.alike hK, hD⟩, hS.F ht⟩) hS.2.2 dX0_standAt_39
    · obtain ⟨j, hj, ej, -⟩ := pk_mu c_1 c_9 (by have q := hG.2.2; omega)
      refine lv_iconst (v := 1) hx hb dX0_standAt_12 (by decide) ?_
      refine lv_goto (tgt := 17) hx hb dX0_standAt_13 (by decide) ?_
      refine lv_istore_n (lv' := [(2, .int 1), (0, .ref h0), (1, .int v)]) hx hb dX0_standAt_17 rfl hl (by decide) rfl (fun ls hl => ?_)
      refine lv_aload_n hx hb dX0_standAt_18 rfl (lv_at hl 1 rfl) ?_
      refine lv_iload_n hx hb dX0_standAt_19 rfl (lv_at hl 0 rfl) ?_
      refine lv_if_eq (tgt := 32) hx hb dX0_standAt_20 (by decide) (fun c_20 => absurd c_20 (by decide)) (fun c_20 => ?_)
      refine lv_aload_n hx hb dX0_standAt_23 rfl (lv_at hl 1 rfl) ?_
      refine va_get (D := (dC, dI)) (ci := 0) (v := .ref ha) (C := RX0) (T := TX0) (N := 6) hx hb hts (by decide +kernel) hown hK hP 0 rfl rfl 3 (by decide) (hts (.fieldLink RX0 29 "PageIndex" "keys" "[J") (by decide +kernel)) (fun _ h9 => h9) rfl dX0_standAt_24 ?_
      refine lv_iload_n hx hb dX0_standAt_27 rfl (lv_at hl 2 rfl) ?_
      refine va_lald hx hb hK hP 1 0 rfl rfl (pk_in j n (by have q := hG.2.2; omega) ej (by have q := hG.2.2; omega)) dX0_standAt_28 ?_
      refine zw_eql (y := lN (ks.getD j 0)) (by rw [ej, nI_clamp (by have q := hG.2.2; omega)]; exact hG.2.2.2.2 _ hj) ?_
      refine lv_goto (tgt := 35) hx hb dX0_standAt_29 (by decide) ?_
      have hat : some (ks.getD j 0) = zs_at ks v := zs_at_in ej hj (by have q := hG.2.2; omega)
      refine zw_eql (y := zk_o (zs_at ks v)) (by rw [← hat]; rfl) ?_
      refine va_put (D := (dC, dI)) (ci := 0) (v := .long (zk_o (zs_at ks v))) (ty := .long) (C := RX0) (T := TX0) (N := 6) hx hb hts (by decide +kernel) tyX0 tyX0_ok nmX0 hown hK hP hD hS 0 rfl rfl 5 (by decide) (hts (.fieldLink RX0 38 "PageIndex" "cursor" "J") (by decide +kernel)) (fun _ h9 => h9) rfl (by decide +kernel) rfl rfl (Nat.le_of_ble_eq_true rfl) dX0_standAt_35 (fun H locs hP hD hS => ?_)
      have hP : va_P (dC, dI) vwCl (zx_w h0 ha cA n f px py pz ks.length (zk_o (zs_at ks v))) H := hP
      have hD : va_D A (zx_w h0 ha cA n f px py pz ks.length (zk_o (zs_at ks v))) := hD
      refine lv_iload_n hx hb dX0_standAt_38 rfl (lv_at hl 0 rfl) ?_
      refine zw_eqi (y := zb_I (zs_at ks v).isSome) (by rw [← hat]; rfl) ?_
      exact W.zret hx hb hr (zb_nar _) (fun t ht hW => ⟨⟨(ha, cA, n, f), rfl, hG, by rw [ht]; exact hP, va_K.moved hW.alike hK, hD⟩, hS.F ht⟩) hS.2.2 dX0_standAt_39
set_option maxHeartbeats 4000000 in
set_option maxRecDepth 100000 in
/-- choose(v) -/
theorem zc_choose (l : Launch) (dC : Nat → ClassId) (dI : Nat → Nat → Nat) (h0 ha : Nat) (cA : ClassId) (n : Nat) (f : Nat → Int64) (px py pz : Int32) (ks : List Nat) (cur : Int64) (sz : Nat) (v : Int32) (hG : zk_G ks n f) : Met l yX0_choose wsX0_choose ({ frames := 1, cells := 0, slots := 0, locals := 22 }) (zw_Pw [.ref h0, .int v] (dC, dI) vwCl (zx_w h0 ha cA n f px py pz ks.length cur) [(cA, .long)] sz) (zx_Q dC dI h0 px py pz (some (.int (zb_I (zs_at ks v).isSome))) (ks) (zk_o (zs_at ks v)) (va_A (zx_w h0 ha cA n f px py pz ks.length cur) sz)) 0 0 (va_A (zx_w h0 ha cA n f px py pz ks.length cur) sz) := by
  refine Met.ofW (cc := cX0_choose) (maxL := 2) (ret := (some .boolean)) (by decide) rfl ?_
  intro p e s m args below meth c s₁ B hml hv
  obtain ⟨rfl, hsz, hP, hK, hD0⟩ := hv
  have hx := B.exec
  have hb := B.bytes
  have hr := B.returns
  have hts := atoms_spec (ws := wsX0_choose) B.pre
  have hown : s.vm.findClass RX0 = some m.cls := findClass_of_methodNamed B.named
  subst hsz
  have hD := hD0.self (sz := s.heap.size)
  generalize hAe : va_A (zx_w h0 ha cA n f px py pz ks.length cur) s.heap.size = A at hD ⊢
  have hA : ∀ q : Nat, s.heap.size ≤ q → A q := fun q h => by rw [← hAe]; exact Or.inr h
  have hS : va_S A s.heap s.heap [] := va_S.rf
  have hP : va_P (dC, dI) vwCl (zx_w h0 ha cA n f px py pz ks.length cur) s.heap := hP
  have hl := lv_entry ([.ref h0, .int v]) (n := 2) (Nat.le_of_ble_eq_true rfl)
  rw [lg_entry_eq]
  generalize (lg_sl ([.ref h0, .int v]) ++ List.replicate (2 - (lg_sl ([.ref h0, .int v])).length) Slot.unset).toArray = ls at hl ⊢
  have hl : lv_has ls 2 [(0, .ref h0), (1, .int v)] := hl
  refine lv_aload_n hx hb dX0_choose_0 rfl (lv_at hl 0 rfl) ?_
  refine lv_iload_n hx hb dX0_choose_1 rfl (lv_at hl 1 rfl) ?_
  refine zw_callw (ws := zx_w h0 ha cA n f px py pz ks.length cur) (wc := zx_w h0 ha cA n f px py pz ks.length cur) (wr := []) (va_runV (As := [.int v]) (rest := []) ⟨hx, hb, hml, hown, hts⟩ (zc_standAt l dC dI h0 ha cA n f px py pz ks cur s.heap.size v hG) (cwV 1 hts gX0_choose_X0_standAt rfl rfl rfl (by decide +kernel) ⟨Nat.le_of_ble_eq_true rfl, Nat.le_of_ble_eq_true rfl⟩) (zw_preWV (ci := 0) (q0 := 0) hP hK hD rfl rfl) rfl rfl hl.1 rfl (lv_room (Nat.le_of_ble_eq_true rfl)) dX0_choose_2 ⟨Nat.le_of_ble_eq_true rfl, Nat.le_of_ble_eq_true rfl⟩) hP hD hS hA [0, 1] [] rfl rfl (by decide) (by decide) (fun u H locs hu hP hD hK hS => ?_)
  have hP : va_P (dC, dI) vwCl (zx_w h0 u.1 u.2.1 u.2.2.1 u.2.2.2 px py pz ks.length (zk_o (zs_at ks v))) H := hP
  have hD : va_D A (zx_w h0 u.1 u.2.1 u.2.2.1 u.2.2.2 px py pz ks.length (zk_o (zs_at ks v))) := hD
  refine W.eq (g2 := F0 m 5 ls (.int (zb_I (zs_at ks v).isSome) :: [])) rfl ?_
  exact W.zret hx hb hr (zb_nar _) (fun t ht hW => ⟨⟨u, rfl, hu, by rw [ht]; exact hP, va_K.moved hW.alike hK, hD⟩, hS.F ht⟩) hS.2.2 dX0_choose_5
set_option maxHeartbeats 4000000 in
set_option maxRecDepth 100000 in
/-- seek(a, b, d) -/
theorem zc_seek (l : Launch) (dC : Nat → ClassId) (dI : Nat → Nat → Nat) (h0 ha : Nat) (cA : ClassId) (n : Nat) (f : Nat → Int64) (px py pz : Int32) (ks : List Nat) (cur : Int64) (sz : Nat) (a : Int32) (b : Int32) (d : Int32) (k : Nat) (hk : zf_nn a b d = true → zf_key a b d = lN k ∧ k < 1152921504606846976) (hG : zk_G ks n f) : Met l yX0_seek wsX0_seek ({ frames := 2, cells := 0, slots := 0, locals := 42 }) (zw_Pw [.ref h0, .int a, .int b, .int d] (dC, dI) vwCl (zx_w h0 ha cA n f px py pz ks.length cur) [(cA, .long)] sz) (zx_Q dC dI h0 px py pz (some (.int (cond (zf_nn a b d) (zb_I (zs_at ks (nI (zk_c ks k))).isSome) 0))) (ks) (cond (zf_nn a b d) (zk_o (zs_at ks (nI (zk_c ks k)))) cur) (va_A (zx_w h0 ha cA n f px py pz ks.length cur) sz)) 0 0 (va_A (zx_w h0 ha cA n f px py pz ks.length cur) sz) := by
  refine Met.ofW (cc := cX0_seek) (maxL := 4) (ret := (some .boolean)) (by decide) rfl ?_
  intro p e s m args below meth c s₁ B hml hv
  obtain ⟨rfl, hsz, hP, hK, hD0⟩ := hv
  have hx := B.exec
  have hb := B.bytes
  have hr := B.returns
  have hts := atoms_spec (ws := wsX0_seek) B.pre
  have hown : s.vm.findClass RX0 = some m.cls := findClass_of_methodNamed B.named
  subst hsz
  have hD := hD0.self (sz := s.heap.size)
  generalize hAe : va_A (zx_w h0 ha cA n f px py pz ks.length cur) s.heap.size = A at hD ⊢
  have hA : ∀ q : Nat, s.heap.size ≤ q → A q := fun q h => by rw [← hAe]; exact Or.inr h
  have hS : va_S A s.heap s.heap [] := va_S.rf
  have hP : va_P (dC, dI) vwCl (zx_w h0 ha cA n f px py pz ks.length cur) s.heap := hP
  have hl := lv_entry ([.ref h0, .int a, .int b, .int d]) (n := 4) (Nat.le_of_ble_eq_true rfl)
  rw [lg_entry_eq]
  generalize (lg_sl ([.ref h0, .int a, .int b, .int d]) ++ List.replicate (4 - (lg_sl ([.ref h0, .int a, .int b, .int d])).length) Slot.unset).toArray = ls at hl ⊢
  have hl : lv_has ls 4 [(0, .ref h0), (1, .int a), (2, .int b), (3, .int d)] := hl
  cases hz : zf_nn a b d with
  | false =>
    refine lv_iload_n hx hb dX0_seek_0 rfl (lv_at hl 1 rfl) ?_
    refine lv_iload_n hx hb dX0_seek_1 rfl (lv_at hl 2 rfl) ?_
    refine lv_iload_n hx hb dX0_seek_2 rfl (lv_at hl 3 rfl) ?_
    refine zw_ci (va_runS (As := [.int a, .int b, .int d]) (rest := []) ⟨hx, hb, hml, hown, hts⟩ (zc_areNumbers l a b d) (va_cwS 3 hts gX0_seek_X0_areNumbers rfl rfl rfl (by decide +kernel) ⟨Nat.le_of_ble_eq_true rfl, Nat.le_of_ble_eq_true rfl⟩) (preEq) rfl rfl hl.1 rfl (lv_room (Nat.le_of_ble_eq_true rfl)) dX0_seek_3 ⟨Nat.zero_le _, Nat.zero_le _⟩) ?_
    refine zw_ifne (tgt := 11) hx hb dX0_seek_6 (by decide) (fun c_6 => absurd ((hz).symm.trans c_6) (by decide)) (fun c_6 => ?_)
    refine lv_iconst (v := 0) hx hb dX0_seek_9 (by decide) ?_
    refine zw_eqi (y := zb_I false) rfl ?_
    exact W.zret hx hb hr (zb_nar _) (fun t ht hW => ⟨⟨(ha, cA, n, f), rfl, hG, by rw [ht]; exact hP, va_K.moved hW.alike hK, hD⟩, hS.F ht⟩) hS.2.2 dX0_seek_10
  | true =>
    refine lv_iload_n hx hb dX0_seek_0 rfl (lv_at hl 1 rfl) ?_
    refine lv_iload_n hx hb dX0_seek_1 rfl (lv_at hl 2 rfl) ?_
    refine lv_iload_n hx hb dX0_seek_2 rfl (lv_at hl 3 rfl) ?_
    refine zw_ci (va_runS (As := [.int a, .int b, .int d]) (rest := []) ⟨hx, hb, hml, hown, hts⟩ (zc_areNumbers l a b d) (va_cwS 3 hts gX0_seek_X0_areNumbers rfl rfl rfl (by decide +kernel) ⟨Nat.le_of_ble_eq_true rfl, Nat.le_of_ble_eq_true rfl⟩) (preEq) rfl rfl hl.1 rfl (lv_room (Nat.le_of_ble_eq_true rfl)) dX0_seek_3 ⟨Nat.zero_le _, Nat.zero_le _⟩) ?_
    refine zw_ifne (tgt := 11) hx hb dX0_seek_6 (by decide) (fun c_6 => ?_) (fun c_6 => absurd ((hz).symm.trans c_6) (by decide))
    refine lv_aload_n hx hb dX0_seek_11 rfl (lv_at hl 0 rfl) ?_
    refine lv_aload_n hx hb dX0_seek_12 rfl (lv_at hl 0 rfl) ?_
    refine lv_iload_n hx hb dX0_seek_13 rfl (lv_at hl 1 rfl) ?_
    refine lv_iload_n hx hb dX0_seek_14 rfl (lv_at hl 2 rfl) ?_
    refine lv_iload_n hx hb dX0_seek_15 rfl (lv_at hl 3 rfl) ?_
    refine zw_cl (va_runS (As := [.int a, .int b, .int d]) (rest := [.ref h0, .ref h0]) ⟨hx, hb, hml, hown, hts⟩ (zc_keyOf l a b d) (va_cwS 3 hts gX0_seek_X0_keyOf rfl rfl rfl (by decide +kernel) ⟨Nat.le_of_ble_eq_true rfl, Nat.le_of_ble_eq_true rfl⟩) (preEq) rfl rfl hl.1 rfl (lv_room (Nat.le_of_ble_eq_true rfl)) dX0_seek_16 ⟨Nat.zero_le _, Nat.zero_le _⟩) ?_
    refine zw_eql (y := lN k) ((hk hz).1) ?_
    refine zw_ci (va_runV (As := [.long (lN k)]) (rest := [.ref h0]) ⟨hx, hb, hml, hown, hts⟩ (zc_keysBefore l dC dI h0 ha cA n f px py pz ks cur k (Nat.le_of_lt (hk hz).2) hG) (cwV 1 hts gX0_seek_X0_keysBefore rfl rfl rfl (by decide +kernel) ⟨Nat.le_of_ble_eq_true rfl, Nat.le_of_ble_eq_true rfl⟩) (zw_preV (ci := 0) (q0 := 0) hP hK rfl rfl) rfl rfl hl.1 rfl (lv_room (Nat.le_of_ble_eq_true rfl)) dX0_seek_19 ⟨Nat.zero_le _, Nat.zero_le _⟩) ?_
    refine zw_callw (ws := zx_w h0 ha cA n f px py pz ks.length cur) (wc := zx_w h0 ha cA n f px py pz ks.length cur) (wr := []) (va_runV (As := [.int (nI (zk_c ks k))]) (rest := []) ⟨hx, hb, hml, hown, hts⟩ (zc_standAt l dC dI h0 ha cA n f px py pz ks cur s.heap.size (nI (zk_c ks k)) hG) (cwV 1 hts gX0_seek_X0_standAt rfl rfl rfl (by decide +kernel) ⟨Nat.le_of_ble_eq_true rfl, Nat.le_of_ble_eq_true rfl⟩) (zw_preWV (ci := 0) (q0 := 0) hP hK hD rfl rfl) rfl rfl hl.1 rfl (lv_room (Nat.le_of_ble_eq_true rfl)) dX0_seek_22 ⟨Nat.le_of_ble_eq_true rfl, Nat.le_of_ble_eq_true rfl⟩) hP hD hS hA [0, 1] [] rfl rfl (by decide) (by decide) (fun u H locs hu hP hD hK hS => ?_)
    have hP : va_P (dC, dI) vwCl (zx_w h0 u.1 u.2.1 u.2.2.1 u.2.2.2 px py pz ks.length (zk_o (zs_at ks (nI (zk_c ks k))))) H := hP
    have hD : va_D A (zx_w h0 u.1 u.2.1 u.2.2.1 u.2.2.2 px py pz ks.length (zk_o (zs_at ks (nI (zk_c ks k))))) := hD
    refine W.eq (g2 := F0 m 25 ls (.int (zb_I (zs_at ks (nI (zk_c ks k))).isSome) :: [])) rfl ?_
    exact W.zret hx hb hr (zb_nar _) (fun t ht hW => ⟨⟨u, rfl, hu, by rw [ht]; exact hP, va_K.moved hW.alike hK, hD⟩, hS.F ht⟩) hS.2.2 dX0_seek_25
set_option maxHeartbeats 4000000 in
set_option maxRecDepth 100000 in
/-- next() -/
theorem zc_next (l : Launch) (dC : Nat → ClassId) (dI : Nat → Nat → Nat) (h0 ha : Nat) (cA : ClassId) (n : Nat) (f : Nat → Int64) (px py pz : Int32) (ks : List Nat) (cur : Int64) (sz : Nat) (o : Option Nat) (ho : ∀ z, o = some z → z < 1152921504606846976) (ec : cur = zk_o o) (hG : zk_G ks n f) : Met l yX0_next wsX0_next ({ frames := 1, cells := 0, slots := 0, locals := 25 }) (zw_Pw [.ref h0] (dC, dI) vwCl (zx_w h0 ha cA n f px py pz ks.length cur) [(cA, .long)] sz) (zx_Q dC dI h0 px py pz (some (.int (zb_I (zs_at ks (nI (zk_c ks (zk_nx o)))).isSome))) (ks) (zk_o (zs_at ks (nI (zk_c ks (zk_nx o))))) (va_A (zx_w h0 ha cA n f px py pz ks.length cur) sz)) 0 0 (va_A (zx_w h0 ha cA n f px py pz ks.length cur) sz) := by
  refine Met.ofW (cc := cX0_next) (maxL := 1) (ret := (some .boolean)) (by decide) rfl ?_
  intro p e s m args below meth c s₁ B hml hv
  obtain ⟨rfl, hsz, hP, hK, hD0⟩ := hv
  have hx := B.exec
  have hb := B.bytes
  have hr := B.returns
  have hts := atoms_spec (ws := wsX0_next) B.pre
  have hown : s.vm.findClass RX0 = some m.cls := findClass_of_methodNamed B.named
  subst hsz
  have hD := hD0.self (sz := s.heap.size)
  generalize hAe : va_A (zx_w h0 ha cA n f px py pz ks.length cur) s.heap.size = A at hD ⊢
  have hA : ∀ q : Nat, s.heap.size ≤ q → A q := fun q h => by rw [← hAe]; exact Or.inr h
  have hS : va_S A s.heap s.heap [] := va_S.rf
  have hP : va_P (dC, dI) vwCl (zx_w h0 ha cA n f px py pz ks.length cur) s.heap := hP
  have hl := lv_entry ([.ref h0]) (n := 1) (Nat.le_of_ble_eq_true rfl)
  rw [lg_entry_eq]
  generalize (lg_sl ([.ref h0]) ++ List.replicate (1 - (lg_sl ([.ref h0])).length) Slot.unset).toArray = ls at hl ⊢
  have hl : lv_has ls 1 [(0, .ref h0)] := hl
  refine lv_aload_n hx hb dX0_next_0 rfl (lv_at hl 0 rfl) ?_
  refine lv_aload_n hx hb dX0_next_1 rfl (lv_at hl 0 rfl) ?_
  refine lv_aload_n hx hb dX0_next_2 rfl (lv_at hl 0 rfl) ?_
  refine va_get (D := (dC, dI)) (ci := 0) (v := .long cur) (C := RX0) (T := TX0) (N := 6) hx hb hts (by decide +kernel) hown hK hP 0 rfl rfl 5 (by decide) (hts (.fieldLink RX0 38 "PageIndex" "cursor" "J") (by decide +kernel)) (fun _ h9 => h9) rfl dX0_next_3 ?_
  refine lv_lconst (v := 1) hx hb dX0_next_6 (by decide) ?_
  refine lv_ladd hx hb dX0_next_7 ?_
  refine zw_eql (y := lN (zk_nx o)) (by rw [ec]; exact zk_o_succ o) ?_
  refine zw_ci (va_runV (As := [.long (lN (zk_nx o))]) (rest := [.ref h0]) ⟨hx, hb, hml, hown, hts⟩ (zc_keysBefore l dC dI h0 ha cA n f px py pz ks cur (zk_nx o) (zk_nx_le ho) hG) (cwV 1 hts gX0_next_X0_keysBefore rfl rfl rfl (by decide +kernel) ⟨Nat.le_of_ble_eq_true rfl, Nat.le_of_ble_eq_true rfl⟩) (zw_preV (ci := 0) (q0 := 0) hP hK rfl rfl) rfl rfl hl.1 rfl (lv_room (Nat.le_of_ble_eq_true rfl)) dX0_next_8 ⟨Nat.zero_le _, Nat.zero_le _⟩) ?_
  refine zw_callw (ws := zx_w h0 ha cA n f px py pz ks.length cur) (wc := zx_w h0 ha cA n f px py pz ks.length cur) (wr := []) (va_runV (As := [.int (nI (zk_c ks (zk_nx o)))]) (rest := []) ⟨hx, hb, hml, hown, hts⟩ (zc_standAt l dC dI h0 ha cA n f px py pz ks cur s.heap.size (nI (zk_c ks (zk_nx o))) hG) (cwV 1 hts gX0_next_X0_standAt rfl rfl rfl (by decide +kernel) ⟨Nat.le_of_ble_eq_true rfl, Nat.le_of_ble_eq_true rfl⟩) (zw_preWV (ci := 0) (q0 := 0) hP hK hD rfl rfl) rfl rfl hl.1 rfl (lv_room (Nat.le_of_ble_eq_true rfl)) dX0_next_11 ⟨Nat.le_of_ble_eq_true rfl, Nat.le_of_ble_eq_true rfl⟩) hP hD hS hA [0, 1] [] rfl rfl (by decide) (by decide) (fun u H locs hu hP hD hK hS => ?_)
  have hP : va_P (dC, dI) vwCl (zx_w h0 u.1 u.2.1 u.2.2.1 u.2.2.2 px py pz ks.length (zk_o (zs_at ks (nI (zk_c ks (zk_nx o)))))) H := hP
  have hD : va_D A (zx_w h0 u.1 u.2.1 u.2.2.1 u.2.2.2 px py pz ks.length (zk_o (zs_at ks (nI (zk_c ks (zk_nx o)))))) := hD
  refine W.eq (g2 := F0 m 14 ls (.int (zb_I (zs_at ks (nI (zk_c ks (zk_nx o)))).isSome) :: [])) rfl ?_
  exact W.zret hx hb hr (zb_nar _) (fun t ht hW => ⟨⟨u, rfl, hu, by rw [ht]; exact hP, va_K.moved hW.alike hK, hD⟩, hS.F ht⟩) hS.2.2 dX0_next_14
set_option maxHeartbeats 4000000 in
set_option maxRecDepth 100000 in
/-- previous() -/
theorem zc_previous (l : Launch) (dC : Nat → ClassId) (dI : Nat → Nat → Nat) (h0 ha : Nat) (cA : ClassId) (n : Nat) (f : Nat → Int64) (px py pz : Int32) (ks : List Nat) (cur : Int64) (sz : Nat) (o : Option Nat) (ho : ∀ z, o = some z → z < 1152921504606846976) (ec : cur = zk_o o) (hG : zk_G ks n f) : Met l yX0_previous wsX0_previous ({ frames := 1, cells := 0, slots := 0, locals := 25 }) (zw_Pw [.ref h0] (dC, dI) vwCl (zx_w h0 ha cA n f px py pz ks.length cur) [(cA, .long)] sz) (zx_Q dC dI h0 px py pz (some (.int (zb_I (zs_at ks (nI (zk_pv ks o) - 1)).isSome))) (ks) (zk_o (zs_at ks (nI (zk_pv ks o) - 1))) (va_A (zx_w h0 ha cA n f px py pz ks.length cur) sz)) 0 0 (va_A (zx_w h0 ha cA n f px py pz ks.length cur) sz) := by
  refine Met.ofW (cc := cX0_previous) (maxL := 2) (ret := (some .boolean)) (by decide) rfl ?_
  intro p e s m args below meth c s₁ B hml hv
  obtain ⟨rfl, hsz, hP, hK, hD0⟩ := hv
  have hx := B.exec
  have hb := B.bytes
  have hr := B.returns
  have hts := atoms_spec (ws := wsX0_previous) B.pre
  have hown : s.vm.findClass RX0 = some m.cls := findClass_of_methodNamed B.named
  subst hsz
  have hD := hD0.self (sz := s.heap.size)
  generalize hAe : va_A (zx_w h0 ha cA n f px py pz ks.length cur) s.heap.size = A at hD ⊢
  have hA : ∀ q : Nat, s.heap.size ≤ q → A q := fun q h => by rw [← hAe]; exact Or.inr h
  have hS : va_S A s.heap s.heap [] := va_S.rf
  have hP : va_P (dC, dI) vwCl (zx_w h0 ha cA n f px py pz ks.length cur) s.heap := hP
  have hl := lv_entry ([.ref h0]) (n := 2) (Nat.le_of_ble_eq_true rfl)
  rw [lg_entry_eq]
  generalize (lg_sl ([.ref h0]) ++ List.replicate (2 - (lg_sl ([.ref h0])).length) Slot.unset).toArray = ls at hl ⊢
  have hl : lv_has ls 2 [(0, .ref h0)] := hl
  cases o with
  | none =>
    refine lv_aload_n hx hb dX0_previous_0 rfl (lv_at hl 0 rfl) ?_
    refine va_get (D := (dC, dI)) (ci := 0) (v := .long cur) (C := RX0) (T := TX0) (N := 6) hx hb hts (by decide +kernel) hown hK hP 0 rfl rfl 5 (by decide) (hts (.fieldLink RX0 38 "PageIndex" "cursor" "J") (by decide +kernel)) (fun _ h9 => h9) rfl dX0_previous_1 ?_
    refine lv_ldc2 (v := (-1)) hx hb hown (hts (.constantLong RX0 36 (-1)) (by decide +kernel)) dX0_previous_4 ?_
    refine W.lcmp hx hb dX0_previous_7 ?_
    refine lv_if_ne (tgt := 18) hx hb dX0_previous_8 (by decide) (fun c_8 => absurd ((lg_cmp_eq _ _).mpr ec) c_8) (fun c_8 => ?_)
    refine lv_aload_n hx hb dX0_previous_11 rfl (lv_at hl 0 rfl) ?_
    refine va_get (D := (dC, dI)) (ci := 0) (v := .int (nI ks.length)) (C := RX0) (T := TX0) (N := 6) hx hb hts (by decide +kernel) hown hK hP 0 rfl rfl 4 (by decide) (hts (.fieldLink RX0 33 "PageIndex" "held" "I") (by decide +kernel)) (fun _ h9 => h9) rfl dX0_previous_12 ?_
    refine lv_goto (tgt := 26) hx hb dX0_previous_15 (by decide) ?_
    refine lv_istore_n (lv' := [(1, .int (nI ks.length)), (0, .ref h0)]) hx hb dX0_previous_26 rfl hl (by decide) rfl (fun ls hl => ?_)
    refine lv_aload_n hx hb dX0_previous_27 rfl (lv_at hl 1 rfl) ?_
    refine lv_iload_n hx hb dX0_previous_28 rfl (lv_at hl 0 rfl) ?_
    refine lv_iconst (v := 1) hx hb dX0_previous_29 (by decide) ?_
    refine lv_isub hx hb dX0_previous_30 ?_
    refine zw_callw (ws := zx_w h0 ha cA n f px py pz ks.length cur) (wc := zx_w h0 ha cA n f px py pz ks.length cur) (wr := []) (va_runV (As := [.int ((nI ks.length) - 1)]) (rest := []) ⟨hx, hb, hml, hown, hts⟩ (zc_standAt l dC dI h0 ha cA n f px py pz ks cur s.heap.size ((nI ks.length) - 1) hG) (cwV 1 hts gX0_previous_X0_standAt rfl rfl rfl (by decide +kernel) ⟨Nat.le_of_ble_eq_true rfl, Nat.le_of_ble_eq_true rfl⟩) (zw_preWV (ci := 0) (q0 := 0) hP hK hD rfl rfl) rfl rfl hl.1 rfl (lv_room (Nat.le_of_ble_eq_true rfl)) dX0_previous_31 ⟨Nat.le_of_ble_eq_true rfl, Nat.le_of_ble_eq_true rfl⟩) hP hD hS hA [0, 1] [] rfl rfl (by decide) (by decide) (fun u H locs hu hP hD hK hS => ?_)
    have hP : va_P (dC, dI) vwCl (zx_w h0 u.1 u.2.1 u.2.2.1 u.2.2.2 px py pz ks.length (zk_o (zs_at ks ((nI ks.length) - 1)))) H := hP
    have hD : va_D A (zx_w h0 u.1 u.2.1 u.2.2.1 u.2.2.2 px py pz ks.length (zk_o (zs_at ks ((nI ks.length) - 1)))) := hD
    refine W.eq (g2 := F0 m 34 ls (.int (zb_I (zs_at ks ((nI ks.length) - 1)).isSome) :: [])) rfl ?_
    exact W.zret hx hb hr (zb_nar _) (fun t ht hW => ⟨⟨u, rfl, hu, by rw [ht]; exact hP, va_K.moved hW.alike hK, hD⟩, hS.F ht⟩) hS.2.2 dX0_previous_34
  | some z =>
    refine lv_aload_n hx hb dX0_previous_0 rfl (lv_at hl 0 rfl) ?_
    refine va_get (D := (dC, dI)) (ci := 0) (v := .long cur) (C := RX0) (T := TX0) (N := 6) hx hb hts (by decide +kernel) hown hK hP 0 rfl rfl 5 (by decide) (hts (.fieldLink RX0 38 "PageIndex" "cursor" "J") (by decide +kernel)) (fun _ h9 => h9) rfl dX0_previous_1 ?_
    refine lv_ldc2 (v := (-1)) hx hb hown (hts (.constantLong RX0 36 (-1)) (by decide +kernel)) dX0_previous_4 ?_
    refine W.lcmp hx hb dX0_previous_7 ?_
    refine lv_if_ne (tgt := 18) hx hb dX0_previous_8 (by decide) (fun c_8 => ?_) (fun c_8 => absurd c_8 (fun q => zk_o_ne (ho z rfl) (ec.symm.trans ((lg_cmp_eq _ _).mp q))))
    refine lv_aload_n hx hb dX0_previous_18 rfl (lv_at hl 0 rfl) ?_
    refine lv_aload_n hx hb dX0_previous_19 rfl (lv_at hl 0 rfl) ?_
    refine va_get (D := (dC, dI)) (ci := 0) (v := .long cur) (C := RX0) (T := TX0) (N := 6) hx hb hts (by decide +kernel) hown hK hP 0 rfl rfl 5 (by decide) (hts (.fieldLink RX0 38 "PageIndex" "cursor" "J") (by decide +kernel)) (fun _ h9 => h9) rfl dX0_previous_20 ?_
    refine zw_eql (y := lN z) (ec) ?_
    refine zw_ci (va_runV (As := [.long (lN z)]) (rest := []) ⟨hx, hb, hml, hown, hts⟩ (zc_keysBefore l dC dI h0 ha cA n f px py pz ks cur z (Nat.le_of_lt (ho z rfl)) hG) (cwV 1 hts gX0_previous_X0_keysBefore rfl rfl rfl (by decide +kernel) ⟨Nat.le_of_ble_eq_true rfl, Nat.le_of_ble_eq_true rfl⟩) (zw_preV (ci := 0) (q0 := 0) hP hK rfl rfl) rfl rfl hl.1 rfl (lv_room (Nat.le_of_ble_eq_true rfl)) dX0_previous_23 ⟨Nat.zero_le _, Nat.zero_le _⟩) ?_
    refine lv_istore_n (lv' := [(1, .int (nI (zk_c ks z))), (0, .ref h0)]) hx hb dX0_previous_26 rfl hl (by decide) rfl (fun ls hl => ?_)
    refine lv_aload_n hx hb dX0_previous_27 rfl (lv_at hl 1 rfl) ?_
    refine lv_iload_n hx hb dX0_previous_28 rfl (lv_at hl 0 rfl) ?_
    refine lv_iconst (v := 1) hx hb dX0_previous_29 (by decide) ?_
    refine lv_isub hx hb dX0_previous_30 ?_
    refine zw_callw (ws := zx_w h0 ha cA n f px py pz ks.length cur) (wc := zx_w h0 ha cA n f px py pz ks.length cur) (wr := []) (va_runV (As := [.int ((nI (zk_c ks z)) - 1)]) (rest := []) ⟨hx, hb, hml, hown, hts⟩ (zc_standAt l dC dI h0 ha cA n f px py pz ks cur s.heap.size ((nI (zk_c ks z)) - 1) hG) (cwV 1 hts gX0_previous_X0_standAt rfl rfl rfl (by decide +kernel) ⟨Nat.le_of_ble_eq_true rfl, Nat.le_of_ble_eq_true rfl⟩) (zw_preWV (ci := 0) (q0 := 0) hP hK hD rfl rfl) rfl rfl hl.1 rfl (lv_room (Nat.le_of_ble_eq_true rfl)) dX0_previous_31 ⟨Nat.le_of_ble_eq_true rfl, Nat.le_of_ble_eq_true rfl⟩) hP hD hS hA [0, 1] [] rfl rfl (by decide) (by decide) (fun u H locs hu hP hD hK hS => ?_)
    have hP : va_P (dC, dI) vwCl (zx_w h0 u.1 u.2.1 u.2.2.1 u.2.2.2 px py pz ks.length (zk_o (zs_at ks ((nI (zk_c ks z)) - 1)))) H := hP
    have hD : va_D A (zx_w h0 u.1 u.2.1 u.2.2.1 u.2.2.2 px py pz ks.length (zk_o (zs_at ks ((nI (zk_c ks z)) - 1)))) := hD
    refine W.eq (g2 := F0 m 34 ls (.int (zb_I (zs_at ks ((nI (zk_c ks z)) - 1)).isSome) :: [])) rfl ?_
    exact W.zret hx hb hr (zb_nar _) (fun t ht hW => ⟨⟨u, rfl, hu, by rw [ht]; exact hP, va_K.moved hW.alike hK, hD⟩, hS.F ht⟩) hS.2.2 dX0_previous_34
set_option maxHeartbeats 4000000 in
set_option maxRecDepth 100000 in
/-- takeOut(a, b) -/
theorem zc_takeOut (l : Launch) (dC : Nat → ClassId) (dI : Nat → Nat → Nat) (h0 ha : Nat) (cA : ClassId) (n : Nat) (f : Nat → Int64) (px py pz : Int32) (ks : List Nat) (cur : Int64) (sz : Nat) (a b : Nat) (hab : a ≤ b) (hbl : b ≤ ks.length) (hG : zk_G ks n f) : Met l yX0_takeOut wsX0_takeOut ({ frames := 1, cells := 0, slots := 0, locals := 60 }) (zw_Pw [.ref h0, .int (nI a), .int (nI b)] (dC, dI) vwCl (zx_w h0 ha cA n f px py pz ks.length cur) [(cA, .long)] sz) (zx_Q dC dI h0 px py pz (none) (zk_del ks a b) (cur) (va_A (zx_w h0 ha cA n f px py pz ks.length cur) sz)) 0 0 (va_A (zx_w h0 ha cA n f px py pz ks.length cur) sz) := by
  refine Met.ofW (cc := cX0_takeOut) (maxL := 3) (ret := none) (by decide) rfl ?_
  intro p e s m args below meth c s₁ B hml hv
  obtain ⟨rfl, hsz, hP, hK, hD0⟩ := hv
  have hx := B.exec
  have hb := B.bytes
  have hr := B.returns
  have hts := atoms_spec (ws := wsX0_takeOut) B.pre
  have hown : s.vm.findClass RX0 = some m.cls := findClass_of_methodNamed B.named
  subst hsz
  have hD := hD0.self (sz := s.heap.size)
  generalize hAe : va_A (zx_w h0 ha cA n f px py pz ks.length cur) s.heap.size = A at hD ⊢
  have hA : ∀ q : Nat, s.heap.size ≤ q → A q := fun q h => by rw [← hAe]; exact Or.inr h
  have hS : va_S A s.heap s.heap [] := va_S.rf
  have hP : va_P (dC, dI) vwCl (zx_w h0 ha cA n f px py pz ks.length cur) s.heap := hP
  have hl := lv_entry ([.ref h0, .int (nI a), .int (nI b)]) (n := 3) (Nat.le_of_ble_eq_true rfl)
  rw [lg_entry_eq]
  generalize (lg_sl ([.ref h0, .int (nI a), .int (nI b)]) ++ List.replicate (3 - (lg_sl ([.ref h0, .int (nI a), .int (nI b)])).length) Slot.unset).toArray = ls at hl ⊢
  have hl : lv_has ls 3 [(0, .ref h0), (1, .int (nI a)), (2, .int (nI b))] := hl
  have hn3 := hG.2.2
  refine lv_aload_n hx hb dX0_takeOut_0 rfl (lv_at hl 0 rfl) ?_
  refine va_get (D := (dC, dI)) (ci := 0) (v := .ref ha) (C := RX0) (T := TX0) (N := 6) hx hb hts (by decide +kernel) hown hK hP 0 rfl rfl 3 (by decide) (hts (.fieldLink RX0 29 "PageIndex" "keys" "[J") (by decide +kernel)) (fun _ h9 => h9) rfl dX0_takeOut_1 ?_
  refine lv_iload_n hx hb dX0_takeOut_4 rfl (lv_at hl 2 rfl) ?_
  refine lv_aload_n hx hb dX0_takeOut_5 rfl (lv_at hl 0 rfl) ?_
  refine va_get (D := (dC, dI)) (ci := 0) (v := .ref ha) (C := RX0) (T := TX0) (N := 6) hx hb hts (by decide +kernel) hown hK hP 0 rfl rfl 3 (by decide) (hts (.fieldLink RX0 29 "PageIndex" "keys" "[J") (by decide +kernel)) (fun _ h9 => h9) rfl dX0_takeOut_6 ?_
  refine lv_iload_n hx hb dX0_takeOut_9 rfl (lv_at hl 1 rfl) ?_
  refine lv_aload_n hx hb dX0_takeOut_10 rfl (lv_at hl 0 rfl) ?_
  refine va_get (D := (dC, dI)) (ci := 0) (v := .int (nI ks.length)) (C := RX0) (T := TX0) (N := 6) hx hb hts (by decide +kernel) hown hK hP 0 rfl rfl 4 (by decide) (hts (.fieldLink RX0 33 "PageIndex" "held" "I") (by decide +kernel)) (fun _ h9 => h9) rfl dX0_takeOut_11 ?_
  refine lv_iload_n hx hb dX0_takeOut_14 rfl (lv_at hl 2 rfl) ?_
  refine lv_isub hx hb dX0_takeOut_15 ?_
  refine zw_eqi (y := nI (ks.length - b)) (pk_sub (by omega)) ?_
  refine va_copyl (ty := .long) hx hb (hml.trans hl.1.symm) hown (hts (.methodLink RX0 120 arraycopyName) (by decide +kernel)) (hts (.native arraycopyName) (by decide +kernel)) (hts (.static arraycopyName) (by decide +kernel)) (hts (.initialized "java/lang/System") (by decide +kernel)) hK hP hD hS 1 1 0 0 rfl rfl rfl rfl rfl (nI_pos (by omega)) (nI_pos (by omega)) (nI_pos (by omega)) (by rw [nI_clamp (by omega), nI_clamp (by omega)]; omega) (by rw [nI_clamp (by omega), nI_clamp (by omega)]; omega) (fun _ _ => rfl) (Nat.le_of_ble_eq_true rfl) (Nat.le_of_ble_eq_true rfl) dX0_takeOut_16 (fun H locs hP hD hS => ?_)
  rw [nI_clamp (n := b) (by omega), nI_clamp (n := a) (by omega), nI_clamp (n := ks.length - b) (by omega)] at hP hD
  have hP : va_P (dC, dI) vwCl (zx_w h0 ha cA n (va_cpy f f b a (ks.length - b)) px py pz ks.length cur) H := hP
  have hD : va_D A (zx_w h0 ha cA n (va_cpy f f b a (ks.length - b)) px py pz ks.length cur) := hD
  refine lv_aload_n hx hb dX0_takeOut_19 rfl (lv_at hl 0 rfl) ?_
  refine lv_dup hx hb dX0_takeOut_20 rfl ?_
  refine va_get (D := (dC, dI)) (ci := 0) (v := .int (nI ks.length)) (C := RX0) (T := TX0) (N := 6) hx hb hts (by decide +kernel) hown hK hP 0 rfl rfl 4 (by decide) (hts (.fieldLink RX0 33 "PageIndex" "held" "I") (by decide +kernel)) (fun _ h9 => h9) rfl dX0_takeOut_21 ?_
  refine lv_iload_n hx hb dX0_takeOut_24 rfl (lv_at hl 2 rfl) ?_
  refine lv_iload_n hx hb dX0_takeOut_25 rfl (lv_at hl 1 rfl) ?_
  refine lv_isub hx hb dX0_takeOut_26 ?_
  refine zw_eqi (y := nI (b - a)) (pk_sub hab) ?_
  refine lv_isub hx hb dX0_takeOut_27 ?_
  refine zw_eqi (y := nI (zk_del ks a b).length) (by rw [pk_sub (by omega), zk_del_len hab hbl]) ?_
  refine va_put (D := (dC, dI)) (ci := 0) (v := .int (nI (zk_del ks a b).length)) (ty := .int) (C := RX0) (T := TX0) (N := 6) hx hb hts (by decide +kernel) tyX0 tyX0_ok nmX0 hown hK hP hD hS 0 rfl rfl 4 (by decide) (hts (.fieldLink RX0 33 "PageIndex" "held" "I") (by decide +kernel)) (fun _ h9 => h9) rfl (by decide +kernel) rfl rfl (Nat.le_of_ble_eq_true rfl) dX0_takeOut_28 (fun H locs hP hD hS => ?_)
  have hP : va_P (dC, dI) vwCl (zx_w h0 ha cA n (va_cpy f f b a (ks.length - b)) px py pz ((zk_del ks a b).length) cur) H := hP
  have hD : va_D A (zx_w h0 ha cA n (va_cpy f f b a (ks.length - b)) px py pz ((zk_del ks a b).length) cur) := hD
  exact W.vret hx hb hr (fun t ht hW => ⟨⟨(ha, cA, n, va_cpy f f b a (ks.length - b)), rfl, zk_G_del hG hab hbl, by rw [ht]; exact hP, va_K.moved hW.alike hK, hD⟩, hS.F ht⟩) hS.2.2 dX0_takeOut_31
set_option maxHeartbeats 4000000 in
set_option maxRecDepth 100000 in
/-- remove(x, y, z) -/
theorem zc_remove (l : Launch) (dC : Nat → ClassId) (dI : Nat → Nat → Nat) (h0 ha : Nat) (cA : ClassId) (n : Nat) (f : Nat → Int64) (px py pz : Int32) (ks : List Nat) (cur : Int64) (sz : Nat) (x : Int32) (y : Int32) (z : Int32) (k : Nat) (hk : zf_nn x y z = true → zf_kt px py pz x y z = lN k ∧ k < 1152921504606846976) (hG : zk_G ks n f) : Met l yX0_remove wsX0_remove ({ frames := 2, cells := 0, slots := 0, locals := 82 }) (zw_Pw [.ref h0, .int x, .int y, .int z] (dC, dI) vwCl (zx_w h0 ha cA n f px py pz ks.length cur) [(cA, .long)] sz) (zx_Q dC dI h0 px py pz (some (.int (cond (zf_nn x y z) (cond (decide (k ∈ ks)) 1 0) (-1)))) (cond (zf_nn x y z) (cond (decide (k ∈ ks)) (zk_del ks (zk_c ks k) (zk_c ks k + 1)) ks) ks) (cur) (va_A (zx_w h0 ha cA n f px py pz ks.length cur) sz)) 0 0 (va_A (zx_w h0 ha cA n f px py pz ks.length cur) sz) := by
  refine Met.ofW (cc := cX0_remove) (maxL := 7) (ret := (some .int)) (by decide) rfl ?_
  intro p e s m args below meth c s₁ B hml hv
  obtain ⟨rfl, hsz, hP, hK, hD0⟩ := hv
  have hx := B.exec
  have hb := B.bytes
  have hr := B.returns
  have hts := atoms_spec (ws := wsX0_remove) B.pre
  have hown : s.vm.findClass RX0 = some m.cls := findClass_of_methodNamed B.named
  subst hsz
  have hD := hD0.self (sz := s.heap.size)
  generalize hAe : va_A (zx_w h0 ha cA n f px py pz ks.length cur) s.heap.size = A at hD ⊢
  have hA : ∀ q : Nat, s.heap.size ≤ q → A q := fun q h => by rw [← hAe]; exact Or.inr h
  have hS : va_S A s.heap s.heap [] := va_S.rf
  have hP : va_P (dC, dI) vwCl (zx_w h0 ha cA n f px py pz ks.length cur) s.heap := hP
  have hl := lv_entry ([.ref h0, .int x, .int y, .int z]) (n := 7) (Nat.le_of_ble_eq_true rfl)
  rw [lg_entry_eq]
  generalize (lg_sl ([.ref h0, .int x, .int y, .int z]) ++ List.replicate (7 - (lg_sl ([.ref h0, .int x, .int y, .int z])).length) Slot.unset).toArray = ls at hl ⊢
  have hl : lv_has ls 7 [(0, .ref h0), (1, .int x), (2, .int y), (3, .int z)] := hl
  cases hz : zf_nn x y z with
  | false =>
    refine lv_iload_n hx hb dX0_remove_0 rfl (lv_at hl 1 rfl) ?_
    refine lv_iload_n hx hb dX0_remove_1 rfl (lv_at hl 2 rfl) ?_
    refine lv_iload_n hx hb dX0_remove_2 rfl (lv_at hl 3 rfl) ?_
    refine zw_ci (va_runS (As := [.int x, .int y, .int z]) (rest := []) ⟨hx, hb, hml, hown, hts⟩ (zc_areNumbers l x y z) (va_cwS 3 hts gX0_remove_X0_areNumbers rfl rfl rfl (by decide +kernel) ⟨Nat.le_of_ble_eq_true rfl, Nat.le_of_ble_eq_true rfl⟩) (preEq) rfl rfl hl.1 rfl (lv_room (Nat.le_of_ble_eq_true rfl)) dX0_remove_3 ⟨Nat.zero_le _, Nat.zero_le _⟩) ?_
    refine zw_ifne (tgt := 11) hx hb dX0_remove_6 (by decide) (fun c_6 => absurd ((hz).symm.trans c_6) (by decide)) (fun c_6 => ?_)
    refine lv_iconst (v := (-1)) hx hb dX0_remove_9 (by decide) ?_
    exact W.iret hx hb hr (fun t ht hW => ⟨⟨(ha, cA, n, f), rfl, hG, by rw [ht]; exact hP, va_K.moved hW.alike hK, hD⟩, hS.F ht⟩) hS.2.2 dX0_remove_10
  | true =>
    cases hm : decide (k ∈ ks) with
    | false =>
      refine lv_iload_n hx hb dX0_remove_0 rfl (lv_at hl 1 rfl) ?_
      refine lv_iload_n hx hb dX0_remove_1 rfl (lv_at hl 2 rfl) ?_
      refine lv_iload_n hx hb dX0_remove_2 rfl (lv_at hl 3 rfl) ?_
      refine zw_ci (va_runS (As := [.int x, .int y, .int z]) (rest := []) ⟨hx, hb, hml, hown, hts⟩ (zc_areNumbers l x y z) (va_cwS 3 hts gX0_remove_X0_areNumbers rfl rfl rfl (by decide +kernel) ⟨Nat.le_of_ble_eq_true rfl, Nat.le_of_ble_eq_true rfl⟩) (preEq) rfl rfl hl.1 rfl (lv_room (Nat.le_of_ble_eq_true rfl)) dX0_remove_3 ⟨Nat.zero_le _, Nat.zero_le _⟩) ?_
      refine zw_ifne (tgt := 11) hx hb dX0_remove_6 (by decide) (fun c_6 => ?_) (fun c_6 => absurd ((hz).symm.trans c_6) (by decide))
      refine lv_aload_n hx hb dX0_remove_11 rfl (lv_at hl 0 rfl) ?_
      refine lv_iload_n hx hb dX0_remove_12 rfl (lv_at hl 1 rfl) ?_
      refine lv_iload_n hx hb dX0_remove_13 rfl (lv_at hl 2 rfl) ?_
      refine lv_iload_n hx hb dX0_remove_14 rfl (lv_at hl 3 rfl) ?_
      refine zw_cl (va_runV (As := [.int x, .int y, .int z]) (rest := []) ⟨hx, hb, hml, hown, hts⟩ (zc_keyOfTriple l dC dI h0 ha cA n f px py pz ks cur x y z) (cwV 3 hts gX0_remove_X0_keyOfTriple rfl rfl rfl (by decide +kernel) ⟨Nat.le_of_ble_eq_true rfl, Nat.le_of_ble_eq_true rfl⟩) (zw_preV (ci := 0) (q0 := 0) hP hK rfl rfl) rfl rfl hl.1 rfl (lv_room (Nat.le_of_ble_eq_true rfl)) dX0_remove_15 ⟨Nat.zero_le _, Nat.zero_le _⟩) ?_
      refine zw_eql (y := lN k) ((hk hz).1) ?_
      refine lv_lstore (lv' := [(4, .long (lN k)), (0, .ref h0), (1, .int x), (2, .int y), (3, .int z)]) hx hb dX0_remove_18 hl (by decide) rfl (fun ls hl => ?_)
      refine lv_aload_n hx hb dX0_remove_20 rfl (lv_at hl 1 rfl) ?_
      refine lv_lload hx hb dX0_remove_21 (lv_at hl 0 rfl) ?_
      refine zw_ci (va_runV (As := [.long (lN k)]) (rest := []) ⟨hx, hb, hml, hown, hts⟩ (zc_keysBefore l dC dI h0 ha cA n f px py pz ks cur k (Nat.le_of_lt (hk hz).2) hG) (cwV 1 hts gX0_remove_X0_keysBefore rfl rfl rfl (by decide +kernel) ⟨Nat.le_of_ble_eq_true rfl, Nat.le_of_ble_eq_true rfl⟩) (zw_preV (ci := 0) (q0 := 0) hP hK rfl rfl) rfl rfl hl.1 rfl (lv_room (Nat.le_of_ble_eq_true rfl)) dX0_remove_23 ⟨Nat.zero_le _, Nat.zero_le _⟩) ?_
      refine lv_istore (lv' := [(6, .int (nI (zk_c ks k))), (4, .long (lN k)), (0, .ref h0), (1, .int x), (2, .int y), (3, .int z)]) hx hb dX0_remove_26 hl (by decide) rfl (fun ls hl => ?_)
      refine lv_aload_n hx hb dX0_remove_28 rfl (lv_at hl 2 rfl) ?_
      refine lv_iload hx hb dX0_remove_29 (lv_at hl 0 rfl) ?_
      refine lv_lload hx hb dX0_remove_31 (lv_at hl 1 rfl) ?_
      refine zw_ci (va_runV (As := [.int (nI (zk_c ks k)), .long (lN k)]) (rest := []) ⟨hx, hb, hml, hown, hts⟩ (zc_isKeyAt l dC dI h0 ha cA n f px py pz ks cur (zk_c ks k) k (zk_c_le ks k) (Nat.le_of_lt (hk hz).2) hG) (cwV 2 hts gX0_remove_X0_isKeyAt rfl rfl rfl (by decide +kernel) ⟨Nat.le_of_ble_eq_true rfl, Nat.le_of_ble_eq_true rfl⟩) (zw_preV (ci := 0) (q0 := 0) hP hK rfl rfl) rfl rfl hl.1 rfl (lv_room (Nat.le_of_ble_eq_true rfl)) dX0_remove_33 ⟨Nat.zero_le _, Nat.zero_le _⟩) ?_
      refine zw_eqi (y := zb_I (decide (k ∈ ks))) (by rw [zk_mem_b hG.1]) ?_
      refine zw_ifne (tgt := 41) hx hb dX0_remove_36 (by decide) (fun c_36 => absurd ((hm).symm.trans c_36) (by decide)) (fun c_36 => ?_)
      refine lv_iconst (v := 0) hx hb dX0_remove_39 (by decide) ?_
      exact W.iret hx hb hr (fun t ht hW => ⟨⟨(ha, cA, n, f), rfl, hG, by rw [ht]; exact hP, va_K.moved hW.alike hK, hD⟩, hS.F ht⟩) hS.2.2 dX0_remove_40
    | true =>
      have hkm := of_decide_eq_true hm
      have hc1 := ((zk_mem_iff hG.1).mp hkm).1
      have hn3 := hG.2.2
      refine lv_iload_n hx hb dX0_remove_0 rfl (lv_at hl 1 rfl) ?_
      refine lv_iload_n hx hb dX0_remove_1 rfl (lv_at hl 2 rfl) ?_
      refine lv_iload_n hx hb dX0_remove_2 rfl (lv_at hl 3 rfl) ?_
      refine zw_ci (va_runS (As := [.int x, .int y, .int z]) (rest := []) ⟨hx, hb, hml, hown, hts⟩ (zc_areNumbers l x y z) (va_cwS 3 hts gX0_remove_X0_areNumbers rfl rfl rfl (by decide +kernel) ⟨Nat.le_of_ble_eq_true rfl, Nat.le_of_ble_eq_true rfl⟩) (preEq) rfl rfl hl.1 rfl (lv_room (Nat.le_of_ble_eq_true rfl)) dX0_remove_3 ⟨Nat.zero_le _, Nat.zero_le _⟩) ?_
      refine zw_ifne (tgt := 11) hx hb dX0_remove_6 (by decide) (fun c_6 => ?_) (fun c_6 => absurd ((hz).symm.trans c_6) (by decide))
      refine lv_aload_n hx hb dX0_remove_11 rfl (lv_at hl 0 rfl) ?_
      refine lv_iload_n hx hb dX0_remove_12 rfl (lv_at hl 1 rfl) ?_
      refine lv_iload_n hx hb dX0_remove_13 rfl (lv_at hl 2 rfl) ?_
      refine lv_iload_n hx hb dX0_remove_14 rfl (lv_at hl 3 rfl) ?_
      refine zw_cl (va_runV (As := [.int x, .int y, .int z]) (rest := []) ⟨hx, hb, hml, hown, hts⟩ (zc_keyOfTriple l dC dI h0 ha cA n f px py pz ks cur x y z) (cwV 3 hts gX0_remove_X0_keyOfTriple rfl rfl rfl (by decide +kernel) ⟨Nat.le_of_ble_eq_true rfl, Nat.le_of_ble_eq_true rfl⟩) (zw_preV (ci := 0) (q0 := 0) hP hK rfl rfl) rfl rfl hl.1 rfl (lv_room (Nat.le_of_ble_eq_true rfl)) dX0_remove_15 ⟨Nat.zero_le _, Nat.zero_le _⟩) ?_
      refine zw_eql (y := lN k) ((hk hz).1) ?_
      refine lv_lstore (lv' := [(4, .long (lN k)), (0, .ref h0), (1, .int x), (2, .int y), (3, .int z)]) hx hb dX0_remove_18 hl (by decide) rfl (fun ls hl => ?_)
      refine lv_aload_n hx hb dX0_remove_20 rfl (lv_at hl 1 rfl) ?_
      refine lv_lload hx hb dX0_remove_21 (lv_at hl 0 rfl) ?_
      refine zw_ci (va_runV (As := [.long (lN k)]) (rest := []) ⟨hx, hb, hml, hown, hts⟩ (zc_keysBefore l dC dI h0 ha cA n f px py pz ks cur k (Nat.le_of_lt (hk hz).2) hG) (cwV 1 hts gX0_remove_X0_keysBefore rfl rfl rfl (by decide +kernel) ⟨Nat.le_of_ble_eq_true rfl, Nat.le_of_ble_eq_true rfl⟩) (zw_preV (ci := 0) (q0 := 0) hP hK rfl rfl) rfl rfl hl.1 rfl (lv_room (Nat.le_of_ble_eq_true rfl)) dX0_remove_23 ⟨Nat.zero_le _, Nat.zero_le _⟩) ?_
      refine lv_istore (lv' := [(6, .int (nI (zk_c ks k))), (4, .long (lN k)), (0, .ref h0), (1, .int x), (2, .int y), (3, .int z)]) hx hb dX0_remove_26 hl (by decide) rfl (fun ls hl => ?_)
      refine lv_aload_n hx hb dX0_remove_28 rfl (lv_at hl 2 rfl) ?_
      refine lv_iload hx hb dX0_remove_29 (lv_at hl 0 rfl) ?_
      refine lv_lload hx hb dX0_remove_31 (lv_at hl 1 rfl) ?_
      refine zw_ci (va_runV (As := [.int (nI (zk_c ks k)), .long (lN k)]) (rest := []) ⟨hx, hb, hml, hown, hts⟩ (zc_isKeyAt l dC dI h0 ha cA n f px py pz ks cur (zk_c ks k) k (zk_c_le ks k) (Nat.le_of_lt (hk hz).2) hG) (cwV 2 hts gX0_remove_X0_isKeyAt rfl rfl rfl (by decide +kernel) ⟨Nat.le_of_ble_eq_true rfl, Nat.le_of_ble_eq_true rfl⟩) (zw_preV (ci := 0) (q0 := 0) hP hK rfl rfl) rfl rfl hl.1 rfl (lv_room (Nat.le_of_ble_eq_true rfl)) dX0_remove_33 ⟨Nat.zero_le _, Nat.zero_le _⟩) ?_
      refine zw_eqi (y := zb_I (decide (k ∈ ks))) (by rw [zk_mem_b hG.1]) ?_
      refine zw_ifne (tgt := 41) hx hb dX0_remove_36 (by decide) (fun c_36 => ?_) (fun c_36 => absurd ((hm).symm.trans c_36) (by decide))
      refine lv_aload_n hx hb dX0_remove_41 rfl (lv_at hl 2 rfl) ?_
      refine lv_iload hx hb dX0_remove_42 (lv_at hl 0 rfl) ?_
      refine lv_iload hx hb dX0_remove_44 (lv_at hl 0 rfl) ?_
      refine lv_iconst (v := 1) hx hb dX0_remove_46 (by decide) ?_
      refine lv_iadd hx hb dX0_remove_47 ?_
      refine zw_eqi (y := nI (zk_c ks k + 1)) (nI_1 _) ?_
      refine zw_callw (ws := zx_w h0 ha cA n f px py pz ks.length cur) (wc := zx_w h0 ha cA n f px py pz ks.length cur) (wr := []) (va_runV (As := [.int (nI (zk_c ks k)), .int (nI (zk_c ks k + 1))]) (rest := []) ⟨hx, hb, hml, hown, hts⟩ (zc_takeOut l dC dI h0 ha cA n f px py pz ks cur s.heap.size (zk_c ks k) (zk_c ks k + 1) (Nat.le_succ _) (hc1) hG) (cwV 2 hts gX0_remove_X0_takeOut rfl rfl rfl (by decide +kernel) ⟨Nat.le_of_ble_eq_true rfl, Nat.le_of_ble_eq_true rfl⟩) (zw_preWV (ci := 0) (q0 := 0) hP hK hD rfl rfl) rfl rfl hl.1 rfl (lv_room (Nat.le_of_ble_eq_true rfl)) dX0_remove_48 ⟨Nat.le_of_ble_eq_true rfl, Nat.le_of_ble_eq_true rfl⟩) hP hD hS hA [0, 1] [] rfl rfl (by decide) (by decide) (fun u H locs hu hP hD hK hS => ?_)
      have hP : va_P (dC, dI) vwCl (zx_w h0 u.1 u.2.1 u.2.2.1 u.2.2.2 px py pz ((zk_del ks (zk_c ks k) (zk_c ks k + 1)).length) cur) H := hP
      have hD : va_D A (zx_w h0 u.1 u.2.1 u.2.2.1 u.2.2.2 px py pz ((zk_del ks (zk_c ks k) (zk_c ks k + 1)).length) cur) := hD
      refine W.eq (g2 := F0 m 51 ls []) rfl ?_
      refine lv_iconst (v := 1) hx hb dX0_remove_51 (by decide) ?_
      exact W.iret hx hb hr (fun t ht hW => ⟨⟨u, rfl, hu, by rw [ht]; exact hP, va_K.moved hW.alike hK, hD⟩, hS.F ht⟩) hS.2.2 dX0_remove_52
set_option maxHeartbeats 4000000 in
set_option maxRecDepth 100000 in
/-- cut(v, a, b, d) -/
theorem zc_cut (l : Launch) (dC : Nat → ClassId) (dI : Nat → Nat → Nat) (h0 ha : Nat) (cA : ClassId) (n : Nat) (f : Nat → Int64) (px py pz : Int32) (ks : List Nat) (cur : Int64) (sz : Nat) (v : Int32) (a : Int32) (b : Int32) (d : Int32) (hG : zk_G ks n f) : Met l yX0_cut wsX0_cut ({ frames := 4, cells := 0, slots := 0, locals := 89 }) (zw_Pw [.ref h0, .int v, .int a, .int b, .int d] (dC, dI) vwCl (zx_w h0 ha cA n f px py pz ks.length cur) [(cA, .long)] sz) (zx_Q dC dI h0 px py pz (some (.int (cond (zs_bad v) (-1) (nI (zk_en ks v a b d) - nI (zk_st ks v a b d))))) (cond (zs_bad v) ks (zk_del ks (zk_st ks v a b d) (zk_en ks v a b d))) (cur) (va_A (zx_w h0 ha cA n f px py pz ks.length cur) sz)) 0 0 (va_A (zx_w h0 ha cA n f px py pz ks.length cur) sz) := by
  refine Met.ofW (cc := cX0_cut) (maxL := 7) (ret := (some .int)) (by decide) rfl ?_
  intro p e s m args below meth c s₁ B hml hv
  obtain ⟨rfl, hsz, hP, hK, hD0⟩ := hv
  have hx := B.exec
  have hb := B.bytes
  have hr := B.returns
  have hts := atoms_spec (ws := wsX0_cut) B.pre
  have hown : s.vm.findClass RX0 = some m.cls := findClass_of_methodNamed B.named
  subst hsz
  have hD := hD0.self (sz := s.heap.size)
  generalize hAe : va_A (zx_w h0 ha cA n f px py pz ks.length cur) s.heap.size = A at hD ⊢
  have hA : ∀ q : Nat, s.heap.size ≤ q → A q := fun q h => by rw [← hAe]; exact Or.inr h
  have hS : va_S A s.heap s.heap [] := va_S.rf
  have hP : va_P (dC, dI) vwCl (zx_w h0 ha cA n f px py pz ks.length cur) s.heap := hP
  have hl := lv_entry ([.ref h0, .int v, .int a, .int b, .int d]) (n := 7) (Nat.le_of_ble_eq_true rfl)
  rw [lg_entry_eq]
  generalize (lg_sl ([.ref h0, .int v, .int a, .int b, .int d]) ++ List.replicate (7 - (lg_sl ([.ref h0, .int v, .int a, .int b, .int d])).length) Slot.unset).toArray = ls at hl ⊢
  have hl : lv_has ls 7 [(0, .ref h0), (1, .int v), (2, .int a), (3, .int b), (4, .int d)] := hl
  cases hz : zs_bad v with
  | false =>
    have c1 : ¬ v < 0 := by intro q; simp [zs_bad, q] at hz
    have c6 : v ≤ 3 := by
      rcases Decidable.em (v ≤ 3) with q | q
      · exact q
      · exact absurd hz (by simp [zs_bad, q])
    obtain ⟨i, hi, ev⟩ := nI_of2 (x := v) (M := 3) (n := 3) (by decide) c1 c6
    have hse := zk_se hG.1 hG.2.1 (i := i) (v := v) (a := a) (b := b) (d := d) hi ev
    refine lv_iload_n hx hb dX0_cut_0 rfl (lv_at hl 1 rfl) ?_
    refine lv_if_lt (tgt := 9) hx hb dX0_cut_1 (by decide) (fun c_1 => absurd c_1 (c1)) (fun c_1 => ?_)
    refine lv_iload_n hx hb dX0_cut_4 rfl (lv_at hl 1 rfl) ?_
    refine lv_iconst (v := 3) hx hb dX0_cut_5 (by decide) ?_
    refine lv_icmp_le (tgt := 11) hx hb dX0_cut_6 (by decide) (fun c_6 => ?_) (fun c_6 => absurd (c6) c_6)
    refine lv_aload_n hx hb dX0_cut_11 rfl (lv_at hl 0 rfl) ?_
    refine lv_iload_n hx hb dX0_cut_12 rfl (lv_at hl 1 rfl) ?_
    refine lv_iload_n hx hb dX0_cut_13 rfl (lv_at hl 2 rfl) ?_
    refine lv_iload_n hx hb dX0_cut_14 rfl (lv_at hl 3 rfl) ?_
    refine lv_iload hx hb dX0_cut_15 (lv_at hl 4 rfl) ?_
    refine zw_ci (va_runV (As := [.int v, .int a, .int b, .int d]) (rest := []) ⟨hx, hb, hml, hown, hts⟩ (zc_startOf l dC dI h0 ha cA n f px py pz ks cur v a b d i hi ev hG) (cwV 4 hts gX0_cut_X0_startOf rfl rfl rfl (by decide +kernel) ⟨Nat.le_of_ble_eq_true rfl, Nat.le_of_ble_eq_true rfl⟩) (zw_preV (ci := 0) (q0 := 0) hP hK rfl rfl) rfl rfl hl.1 rfl (lv_room (Nat.le_of_ble_eq_true rfl)) dX0_cut_17 ⟨Nat.zero_le _, Nat.zero_le _⟩) ?_
    refine lv_istore (lv' := [(5, .int (nI (zk_st ks v a b d))), (0, .ref h0), (1, .int v), (2, .int a), (3, .int b), (4, .int d)]) hx hb dX0_cut_20 hl (by decide) rfl (fun ls hl => ?_)
    refine lv_aload_n hx hb dX0_cut_22 rfl (lv_at hl 1 rfl) ?_
    refine lv_iload_n hx hb dX0_cut_23 rfl (lv_at hl 2 rfl) ?_
    refine lv_iload_n hx hb dX0_cut_24 rfl (lv_at hl 3 rfl) ?_
    refine lv_iload_n hx hb dX0_cut_25 rfl (lv_at hl 4 rfl) ?_
    refine lv_iload hx hb dX0_cut_26 (lv_at hl 5 rfl) ?_
    refine zw_ci (va_runV (As := [.int v, .int a, .int b, .int d]) (rest := []) ⟨hx, hb, hml, hown, hts⟩ (zc_endOf l dC dI h0 ha cA n f px py pz ks cur v a b d i hi ev hG) (cwV 4 hts gX0_cut_X0_endOf rfl rfl rfl (by decide +kernel) ⟨Nat.le_of_ble_eq_true rfl, Nat.le_of_ble_eq_true rfl⟩) (zw_preV (ci := 0) (q0 := 0) hP hK rfl rfl) rfl rfl hl.1 rfl (lv_room (Nat.le_of_ble_eq_true rfl)) dX0_cut_28 ⟨Nat.zero_le _, Nat.zero_le _⟩) ?_
    refine lv_istore (lv' := [(6, .int (nI (zk_en ks v a b d))), (5, .int (nI (zk_st ks v a b d))), (0, .ref h0), (1, .int v), (2, .int a), (3, .int b), (4, .int d)]) hx hb dX0_cut_31 hl (by decide) rfl (fun ls hl => ?_)
    refine lv_aload_n hx hb dX0_cut_33 rfl (lv_at hl 2 rfl) ?_
    refine lv_iload hx hb dX0_cut_34 (lv_at hl 1 rfl) ?_
    refine lv_iload hx hb dX0_cut_36 (lv_at hl 0 rfl) ?_
    refine zw_callw (ws := zx_w h0 ha cA n f px py pz ks.length cur) (wc := zx_w h0 ha cA n f px py pz ks.length cur) (wr := []) (va_runV (As := [.int (nI (zk_st ks v a b d)), .int (nI (zk_en ks v a b d))]) (rest := []) ⟨hx, hb, hml, hown, hts⟩ (zc_takeOut l dC dI h0 ha cA n f px py pz ks cur s.heap.size (zk_st ks v a b d) (zk_en ks v a b d) (hse.1) (hse.2.1) hG) (cwV 2 hts gX0_cut_X0_takeOut rfl rfl rfl (by decide +kernel) ⟨Nat.le_of_ble_eq_true rfl, Nat.le_of_ble_eq_true rfl⟩) (zw_preWV (ci := 0) (q0 := 0) hP hK hD rfl rfl) rfl rfl hl.1 rfl (lv_room (Nat.le_of_ble_eq_true rfl)) dX0_cut_38 ⟨Nat.le_of_ble_eq_true rfl, Nat.le_of_ble_eq_true rfl⟩) hP hD hS hA [0, 1] [] rfl rfl (by decide) (by decide) (fun u H locs hu hP hD hK hS => ?_)
    have hP : va_P (dC, dI) vwCl (zx_w h0 u.1 u.2.1 u.2.2.1 u.2.2.2 px py pz ((zk_del ks (zk_st ks v a b d) (zk_en ks v a b d)).length) cur) H := hP
    have hD : va_D A (zx_w h0 u.1 u.2.1 u.2.2.1 u.2.2.2 px py pz ((zk_del ks (zk_st ks v a b d) (zk_en ks v a b d)).length) cur) := hD
    refine W.eq (g2 := F0 m 41 ls []) rfl ?_
    refine lv_iload hx hb dX0_cut_41 (lv_at hl 0 rfl) ?_
    refine lv_iload hx hb dX0_cut_43 (lv_at hl 1 rfl) ?_
    refine lv_isub hx hb dX0_cut_45 ?_
    exact W.iret hx hb hr (fun t ht hW => ⟨⟨u, rfl, hu, by rw [ht]; exact hP, va_K.moved hW.alike hK, hD⟩, hS.F ht⟩) hS.2.2 dX0_cut_46
  | true =>
    refine lv_iload_n hx hb dX0_cut_0 rfl (lv_at hl 1 rfl) ?_
    refine lv_if_lt (tgt := 9) hx hb dX0_cut_1 (by decide) (fun c_1 => ?_) (fun c_1 => ?_)
    · refine lv_iconst (v := (-1)) hx hb dX0_cut_9 (by decide) ?_
      exact W.iret hx hb hr (fun t ht hW => ⟨⟨(ha, cA, n, f), rfl, hG, by rw [ht]; exact hP, va_K.moved hW.alike hK, hD⟩, hS.F ht⟩) hS.2.2 dX0_cut_10
    · refine lv_iload_n hx hb dX0_cut_4 rfl (lv_at hl 1 rfl) ?_
      refine lv_iconst (v := 3) hx hb dX0_cut_5 (by decide) ?_
      refine lv_icmp_le (tgt := 11) hx hb dX0_cut_6 (by decide) (fun c_6 => ?_) (fun c_6 => ?_)
      · exact absurd hz (by simp [zs_bad, c_1, c_6])
      · refine lv_iconst (v := (-1)) hx hb dX0_cut_9 (by decide) ?_
        exact W.iret hx hb hr (fun t ht hW => ⟨⟨(ha, cA, n, f), rfl, hG, by rw [ht]; exact hP, va_K.moved hW.alike hK, hD⟩, hS.F ht⟩) hS.2.2 dX0_cut_10
