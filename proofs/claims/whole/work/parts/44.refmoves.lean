set_option maxHeartbeats 4000000 in
set_option maxRecDepth 100000 in
/-- stand(v) -/
theorem zd_stand (l : Launch) (dC : Nat → ClassId) (dI : Nat → Nat → Nat) (h0 ha : Nat) (cA : ClassId) (f : Nat → Int64) (o : Nat) (ks : List Nat) (cur : Int64) (sz : Nat) (v : Int32) (hG : zk_R ks f) : Met l yX1_stand wsX1_stand ({ frames := 0, cells := 0, slots := 0, locals := 0 }) (zw_Pw [.ref h0, .int v] (dC, dI) vwCl (zy_w h0 ha cA f o ks.length cur) [(cA, .long)] sz) (zy_Q dC dI h0 ha cA o (some (.int (zb_I (zs_at ks v).isSome))) (ks) (zk_o (zs_at ks v)) (va_A (zy_w h0 ha cA f o ks.length cur) sz)) 0 0 (va_A (zy_w h0 ha cA f o ks.length cur) sz) := by
  refine Met.ofW (cc := cX1_stand) (maxL := 3) (ret := (some .boolean)) (by decide) rfl ?_
  intro p e s m args below meth c s₁ B hml hv
  obtain ⟨rfl, hsz, hP, hK, hD0⟩ := hv
  have hx := B.exec
  have hb := B.bytes
  have hr := B.returns
  have hts := atoms_spec (ws := wsX1_stand) B.pre
  have hown : s.vm.findClass RX1 = some m.cls := findClass_of_methodNamed B.named
  subst hsz
  have hD := hD0.self (sz := s.heap.size)
  generalize hAe : va_A (zy_w h0 ha cA f o ks.length cur) s.heap.size = A at hD ⊢
  have hA : ∀ q : Nat, s.heap.size ≤ q → A q := fun q h => by rw [← hAe]; exact Or.inr h
  have hS : va_S A s.heap s.heap [] := va_S.rf
  have hP : va_P (dC, dI) vwCl (zy_w h0 ha cA f o ks.length cur) s.heap := hP
  have hl := lv_entry ([.ref h0, .int v]) (n := 3) (Nat.le_of_ble_eq_true rfl)
  rw [lg_entry_eq]
  generalize (lg_sl ([.ref h0, .int v]) ++ List.replicate (3 - (lg_sl ([.ref h0, .int v])).length) Slot.unset).toArray = ls at hl ⊢
  have hl : lv_has ls 3 [(0, .ref h0), (1, .int v)] := hl
  refine lv_iload_n hx hb dX1_stand_0 rfl (lv_at hl 1 rfl) ?_
  refine lv_if_lt (tgt := 16) hx hb dX1_stand_1 (by decide) (fun c_1 => ?_) (fun c_1 => ?_)
  · refine lv_iconst (v := 0) hx hb dX1_stand_16 (by decide) ?_
    refine lv_istore_n (lv' := [(2, .int 0), (0, .ref h0), (1, .int v)]) hx hb dX1_stand_17 rfl hl (by decide) rfl (fun ls hl => ?_)
    refine lv_aload_n hx hb dX1_stand_18 rfl (lv_at hl 1 rfl) ?_
    refine lv_iload_n hx hb dX1_stand_19 rfl (lv_at hl 0 rfl) ?_
    refine lv_if_eq (tgt := 32) hx hb dX1_stand_20 (by decide) (fun c_20 => ?_) (fun c_20 => absurd (rfl) c_20)
    refine lv_ldc2 (v := (-1)) hx hb hown (hts (.constantLong RX1 13 (-1)) (by decide +kernel)) dX1_stand_32 ?_
    have hat : none = zs_at ks v := zs_at_neg c_1
    refine zw_eql (y := zk_o (zs_at ks v)) (by rw [← hat]; rfl) ?_
    refine va_put (D := (dC, dI)) (ci := 1) (v := .long (zk_o (zs_at ks v))) (ty := .long) (C := RX1) (T := TX1) (N := 4) hx hb hts (by decide +kernel) tyX1 tyX1_ok nmX1 hown hK hP hD hS 0 rfl rfl 3 (by decide) (hts (.fieldLink RX1 15 "PageIndexModel" "cursor" "J") (by decide +kernel)) (fun _ h9 => h9) rfl (by decide +kernel) rfl rfl (Nat.le_of_ble_eq_true rfl) dX1_stand_35 (fun H locs hP hD hS => ?_)
    have hP : va_P (dC, dI) vwCl (zy_w h0 ha cA f o ks.length (zk_o (zs_at ks v))) H := hP
    have hD : va_D A (zy_w h0 ha cA f o ks.length (zk_o (zs_at ks v))) := hD
    refine lv_iload_n hx hb dX1_stand_38 rfl (lv_at hl 0 rfl) ?_
    refine zw_eqi (y := zb_I (zs_at ks v).isSome) (by rw [← hat]; rfl) ?_
    exact W.zret hx hb hr (zb_nar _) (fun t ht hW => ⟨⟨f, rfl, hG, by rw [ht]; exact hP, va_K.moved hW.alike hK, hD⟩, hS.F ht⟩) hS.2.2 dX1_stand_39
  · refine lv_iload_n hx hb dX1_stand_4 rfl (lv_at hl 1 rfl) ?_
    refine lv_aload_n hx hb dX1_stand_5 rfl (lv_at hl 0 rfl) ?_
    refine va_get (D := (dC, dI)) (ci := 1) (v := .int (nI ks.length)) (C := RX1) (T := TX1) (N := 4) hx hb hts (by decide +kernel) hown hK hP 0 rfl rfl 1 (by decide) (hts (.fieldLink RX1 40 "PageIndexModel" "size" "I") (by decide +kernel)) (fun _ h9 => h9) rfl dX1_stand_6 ?_
    refine lv_icmp_ge (tgt := 16) hx hb dX1_stand_9 (by decide) (fun c_9 => ?_) (fun c_9 => ?_)
    · refine lv_iconst (v := 0) hx hb dX1_stand_16 (by decide) ?_
      refine lv_istore_n (lv' := [(2, .int 0), (0, .ref h0), (1, .int v)]) hx hb dX1_stand_17 rfl hl (by decide) rfl (fun ls hl => ?_)
      refine lv_aload_n hx hb dX1_stand_18 rfl (lv_at hl 1 rfl) ?_
      refine lv_iload_n hx hb dX1_stand_19 rfl (lv_at hl 0 rfl) ?_
      refine lv_if_eq (tgt := 32) hx hb dX1_stand_20 (by decide) (fun c_20 => ?_) (fun c_20 => absurd (rfl) c_20)
      refine lv_ldc2 (v := (-1)) hx hb hown (hts (.constantLong RX1 13 (-1)) (by decide +kernel)) dX1_stand_32 ?_
      have hat : none = zs_at ks v := zs_at_out c_1 c_9 hG.2.2.1
      refine zw_eql (y := zk_o (zs_at ks v)) (by rw [← hat]; rfl) ?_
      refine va_put (D := (dC, dI)) (ci := 1) (v := .long (zk_o (zs_at ks v))) (ty := .long) (C := RX1) (T := TX1) (N := 4) hx hb hts (by decide +kernel) tyX1 tyX1_ok nmX1 hown hK hP hD hS 0 rfl rfl 3 (by decide) (hts (.fieldLink RX1 15 "PageIndexModel" "cursor" "J") (by decide +kernel)) (fun _ h9 => h9) rfl (by decide +kernel) rfl rfl (Nat.le_of_ble_eq_true rfl) dX1_stand_35 (fun H locs hP hD hS => ?_)
      have hP : va_P (dC, dI) vwCl (zy_w h0 ha cA f o ks.length (zk_o (zs_at ks v))) H := hP
      have hD : va_D A (zy_w h0 ha cA f o ks.length (zk_o (zs_at ks v))) := hD
      refine lv_iload_n hx hb dX1_stand_38 rfl (lv_at hl 0 rfl) ?_
      refine zw_eqi (y := zb_I (zs_at ks v).isSome) (by rw [← hat]; rfl) ?_
      exact W.zret hx hb hr (zb_nar _) (fun t ht hW => ⟨⟨f, rfl, hG, by rw [ht]; exact hP, va_K.moved hW.alike hK, hD⟩, hS.F ht⟩) hS.2.2 dX1_stand_39
    · obtain ⟨j, hj, ej, -⟩ := pk_mu c_1 c_9 (by have q := hG.2.2.1; omega)
      refine lv_iconst (v := 1) hx hb dX1_stand_12 (by decide) ?_
      refine lv_goto (tgt := 17) hx hb dX1_stand_13 (by decide) ?_
      refine lv_istore_n (lv' := [(2, .int 1), (0, .ref h0), (1, .int v)]) hx hb dX1_stand_17 rfl hl (by decide) rfl (fun ls hl => ?_)
      refine lv_aload_n hx hb dX1_stand_18 rfl (lv_at hl 1 rfl) ?_
      refine lv_iload_n hx hb dX1_stand_19 rfl (lv_at hl 0 rfl) ?_
      refine lv_if_eq (tgt := 32) hx hb dX1_stand_20 (by decide) (fun c_20 => absurd c_20 (by decide)) (fun c_20 => ?_)
      refine lv_aload_n hx hb dX1_stand_23 rfl (lv_at hl 1 rfl) ?_
      refine va_get (D := (dC, dI)) (ci := 1) (v := .ref ha) (C := RX1) (T := TX1) (N := 4) hx hb hts (by decide +kernel) hown hK hP 0 rfl rfl 0 (by decide) (hts (.fieldLink RX1 7 "PageIndexModel" "keys" "[J") (by decide +kernel)) (fun _ h9 => h9) rfl dX1_stand_24 ?_
      refine lv_iload_n hx hb dX1_stand_27 rfl (lv_at hl 2 rfl) ?_
      refine va_lald hx hb hK hP 1 0 rfl rfl (pk_in j 20000 (by have q := hG.2.2.1; omega) ej (by omega)) dX1_stand_28 ?_
      refine zw_eql (y := lN (ks.getD j 0)) (by rw [ej, nI_clamp (by have q := hG.2.2.1; omega)]; exact hG.2.2.2 _ hj) ?_
      refine lv_goto (tgt := 35) hx hb dX1_stand_29 (by decide) ?_
      have hat : some (ks.getD j 0) = zs_at ks v := zs_at_in ej hj hG.2.2.1
      refine zw_eql (y := zk_o (zs_at ks v)) (by rw [← hat]; rfl) ?_
      refine va_put (D := (dC, dI)) (ci := 1) (v := .long (zk_o (zs_at ks v))) (ty := .long) (C := RX1) (T := TX1) (N := 4) hx hb hts (by decide +kernel) tyX1 tyX1_ok nmX1 hown hK hP hD hS 0 rfl rfl 3 (by decide) (hts (.fieldLink RX1 15 "PageIndexModel" "cursor" "J") (by decide +kernel)) (fun _ h9 => h9) rfl (by decide +kernel) rfl rfl (Nat.le_of_ble_eq_true rfl) dX1_stand_35 (fun H locs hP hD hS => ?_)
      have hP : va_P (dC, dI) vwCl (zy_w h0 ha cA f o ks.length (zk_o (zs_at ks v))) H := hP
      have hD : va_D A (zy_w h0 ha cA f o ks.length (zk_o (zs_at ks v))) := hD
      refine lv_iload_n hx hb dX1_stand_38 rfl (lv_at hl 0 rfl) ?_
      refine zw_eqi (y := zb_I (zs_at ks v).isSome) (by rw [← hat]; rfl) ?_
      exact W.zret hx hb hr (zb_nar _) (fun t ht hW => ⟨⟨f, rfl, hG, by rw [ht]; exact hP, va_K.moved hW.alike hK, hD⟩, hS.F ht⟩) hS.2.2 dX1_stand_39
set_option maxHeartbeats 4000000 in
set_option maxRecDepth 100000 in
/-- choose(v) -/
theorem zd_choose (l : Launch) (dC : Nat → ClassId) (dI : Nat → Nat → Nat) (h0 ha : Nat) (cA : ClassId) (f : Nat → Int64) (o : Nat) (ks : List Nat) (cur : Int64) (sz : Nat) (v : Int32) (hG : zk_R ks f) : Met l yX1_choose wsX1_choose ({ frames := 1, cells := 0, slots := 0, locals := 22 }) (zw_Pw [.ref h0, .int v] (dC, dI) vwCl (zy_w h0 ha cA f o ks.length cur) [(cA, .long)] sz) (zy_Q dC dI h0 ha cA o (some (.int (zb_I (zs_at ks v).isSome))) (ks) (zk_o (zs_at ks v)) (va_A (zy_w h0 ha cA f o ks.length cur) sz)) 0 0 (va_A (zy_w h0 ha cA f o ks.length cur) sz) := by
  refine Met.ofW (cc := cX1_choose) (maxL := 2) (ret := (some .boolean)) (by decide) rfl ?_
  intro p e s m args below meth c s₁ B hml hv
  obtain ⟨rfl, hsz, hP, hK, hD0⟩ := hv
  have hx := B.exec
  have hb := B.bytes
  have hr := B.returns
  have hts := atoms_spec (ws := wsX1_choose) B.pre
  have hown : s.vm.findClass RX1 = some m.cls := findClass_of_methodNamed B.named
  subst hsz
  have hD := hD0.self (sz := s.heap.size)
  generalize hAe : va_A (zy_w h0 ha cA f o ks.length cur) s.heap.size = A at hD ⊢
  have hA : ∀ q : Nat, s.heap.size ≤ q → A q := fun q h => by rw [← hAe]; exact Or.inr h
  have hS : va_S A s.heap s.heap [] := va_S.rf
  have hP : va_P (dC, dI) vwCl (zy_w h0 ha cA f o ks.length cur) s.heap := hP
  have hl := lv_entry ([.ref h0, .int v]) (n := 2) (Nat.le_of_ble_eq_true rfl)
  rw [lg_entry_eq]
  generalize (lg_sl ([.ref h0, .int v]) ++ List.replicate (2 - (lg_sl ([.ref h0, .int v])).length) Slot.unset).toArray = ls at hl ⊢
  have hl : lv_has ls 2 [(0, .ref h0), (1, .int v)] := hl
  refine lv_aload_n hx hb dX1_choose_0 rfl (lv_at hl 0 rfl) ?_
  refine lv_iload_n hx hb dX1_choose_1 rfl (lv_at hl 1 rfl) ?_
  refine zw_callw (ws := zy_w h0 ha cA f o ks.length cur) (wc := zy_w h0 ha cA f o ks.length cur) (wr := []) (va_runV (As := [.int v]) (rest := []) ⟨hx, hb, hml, hown, hts⟩ (zd_stand l dC dI h0 ha cA f o ks cur s.heap.size v hG) (cwV 1 hts gX1_choose_X1_stand rfl rfl rfl (by decide +kernel) ⟨Nat.le_of_ble_eq_true rfl, Nat.le_of_ble_eq_true rfl⟩) (zw_preWV (ci := 1) (q0 := 0) hP hK hD rfl rfl) rfl rfl hl.1 rfl (lv_room (Nat.le_of_ble_eq_true rfl)) dX1_choose_2 ⟨Nat.le_of_ble_eq_true rfl, Nat.le_of_ble_eq_true rfl⟩) hP hD hS hA [0, 1] [] rfl rfl (by decide) (by decide) (fun u H locs hu hP hD hK hS => ?_)
  have hP : va_P (dC, dI) vwCl (zy_w h0 ha cA u o ks.length (zk_o (zs_at ks v))) H := hP
  have hD : va_D A (zy_w h0 ha cA u o ks.length (zk_o (zs_at ks v))) := hD
  refine W.eq (g2 := F0 m 5 ls (.int (zb_I (zs_at ks v).isSome) :: [])) rfl ?_
  exact W.zret hx hb hr (zb_nar _) (fun t ht hW => ⟨⟨u, rfl, hu, by rw [ht]; exact hP, va_K.moved hW.alike hK, hD⟩, hS.F ht⟩) hS.2.2 dX1_choose_5
set_option maxHeartbeats 4000000 in
set_option maxRecDepth 100000 in
/-- seek(a, b, d) -/
theorem zd_seek (l : Launch) (dC : Nat → ClassId) (dI : Nat → Nat → Nat) (h0 ha : Nat) (cA : ClassId) (f : Nat → Int64) (o : Nat) (ks : List Nat) (cur : Int64) (sz : Nat) (a : Int32) (b : Int32) (d : Int32) (k : Nat) (hk : zf_nn a b d = true → zf_pk (Int32.toInt64 a) (Int32.toInt64 b) (Int32.toInt64 d) = lN k ∧ k < 1152921504606846976) (hG : zk_R ks f) : Met l yX1_seek wsX1_seek ({ frames := 2, cells := 0, slots := 0, locals := 43 }) (zw_Pw [.ref h0, .int a, .int b, .int d] (dC, dI) vwCl (zy_w h0 ha cA f o ks.length cur) [(cA, .long)] sz) (zy_Q dC dI h0 ha cA o (some (.int (cond (zf_nn a b d) (zb_I (zs_at ks (nI (zk_c ks k))).isSome) 0))) (ks) (cond (zf_nn a b d) (zk_o (zs_at ks (nI (zk_c ks k)))) cur) (va_A (zy_w h0 ha cA f o ks.length cur) sz)) 0 0 (va_A (zy_w h0 ha cA f o ks.length cur) sz) := by
  refine Met.ofW (cc := cX1_seek) (maxL := 4) (ret := (some .boolean)) (by decide) rfl ?_
  intro p e s m args below meth c s₁ B hml hv
  obtain ⟨rfl, hsz, hP, hK, hD0⟩ := hv
  have hx := B.exec
  have hb := B.bytes
  have hr := B.returns
  have hts := atoms_spec (ws := wsX1_seek) B.pre
  have hown : s.vm.findClass RX1 = some m.cls := findClass_of_methodNamed B.named
  subst hsz
  have hD := hD0.self (sz := s.heap.size)
  generalize hAe : va_A (zy_w h0 ha cA f o ks.length cur) s.heap.size = A at hD ⊢
  have hA : ∀ q : Nat, s.heap.size ≤ q → A q := fun q h => by rw [← hAe]; exact Or.inr h
  have hS : va_S A s.heap s.heap [] := va_S.rf
  have hP : va_P (dC, dI) vwCl (zy_w h0 ha cA f o ks.length cur) s.heap := hP
  have hl := lv_entry ([.ref h0, .int a, .int b, .int d]) (n := 4) (Nat.le_of_ble_eq_true rfl)
  rw [lg_entry_eq]
  generalize (lg_sl ([.ref h0, .int a, .int b, .int d]) ++ List.replicate (4 - (lg_sl ([.ref h0, .int a, .int b, .int d])).length) Slot.unset).toArray = ls at hl ⊢
  have hl : lv_has ls 4 [(0, .ref h0), (1, .int a), (2, .int b), (3, .int d)] := hl
  cases hz : zf_nn a b d with
  | false =>
    refine lv_iconst (v := 3) hx hb dX1_seek_0 (by decide) ?_
    refine lv_iload_n hx hb dX1_seek_1 rfl (lv_at hl 1 rfl) ?_
    refine lv_iload_n hx hb dX1_seek_2 rfl (lv_at hl 2 rfl) ?_
    refine lv_iload_n hx hb dX1_seek_3 rfl (lv_at hl 3 rfl) ?_
    refine zw_ci (va_runS (As := [.int 3, .int a, .int b, .int d]) (rest := []) ⟨hx, hb, hml, hown, hts⟩ (zd_areNumbers l 3 a b d) (va_cwS 4 hts gX1_seek_X1_areNumbers rfl rfl rfl (by decide +kernel) ⟨Nat.le_of_ble_eq_true rfl, Nat.le_of_ble_eq_true rfl⟩) (preEq) rfl rfl hl.1 rfl (lv_room (Nat.le_of_ble_eq_true rfl)) dX1_seek_4 ⟨Nat.zero_le _, Nat.zero_le _⟩) ?_
    refine zw_eqi (y := zb_I (zf_nn a b d)) (by rw [zf_fn3]) ?_
    refine zw_ifeq (tgt := 34) hx hb dX1_seek_7 (by decide) (fun c_7 => ?_) (fun c_7 => absurd ((hz).symm.trans c_7) (by decide))
    refine lv_iconst (v := 0) hx hb dX1_seek_34 (by decide) ?_
    refine zw_eqi (y := zb_I false) rfl ?_
    exact W.zret hx hb hr (zb_nar _) (fun t ht hW => ⟨⟨f, rfl, hG, by rw [ht]; exact hP, va_K.moved hW.alike hK, hD⟩, hS.F ht⟩) hS.2.2 dX1_seek_35
  | true =>
    refine lv_iconst (v := 3) hx hb dX1_seek_0 (by decide) ?_
    refine lv_iload_n hx hb dX1_seek_1 rfl (lv_at hl 1 rfl) ?_
    refine lv_iload_n hx hb dX1_seek_2 rfl (lv_at hl 2 rfl) ?_
    refine lv_iload_n hx hb dX1_seek_3 rfl (lv_at hl 3 rfl) ?_
    refine zw_ci (va_runS (As := [.int 3, .int a, .int b, .int d]) (rest := []) ⟨hx, hb, hml, hown, hts⟩ (zd_areNumbers l 3 a b d) (va_cwS 4 hts gX1_seek_X1_areNumbers rfl rfl rfl (by decide +kernel) ⟨Nat.le_of_ble_eq_true rfl, Nat.le_of_ble_eq_true rfl⟩) (preEq) rfl rfl hl.1 rfl (lv_room (Nat.le_of_ble_eq_true rfl)) dX1_seek_4 ⟨Nat.zero_le _, Nat.zero_le _⟩) ?_
    refine zw_eqi (y := zb_I (zf_nn a b d)) (by rw [zf_fn3]) ?_
    refine zw_ifeq (tgt := 34) hx hb dX1_seek_7 (by decide) (fun c_7 => absurd ((hz).symm.trans c_7) (by decide)) (fun c_7 => ?_)
    refine lv_aload_n hx hb dX1_seek_10 rfl (lv_at hl 0 rfl) ?_
    refine lv_aload_n hx hb dX1_seek_11 rfl (lv_at hl 0 rfl) ?_
    refine lv_iload_n hx hb dX1_seek_12 rfl (lv_at hl 1 rfl) ?_
    refine lv_i2l (v := Int32.toInt64 a) hx hb dX1_seek_13 rfl ?_
    refine lv_iload_n hx hb dX1_seek_14 rfl (lv_at hl 2 rfl) ?_
    refine lv_i2l (v := Int32.toInt64 b) hx hb dX1_seek_15 rfl ?_
    refine lv_iload_n hx hb dX1_seek_16 rfl (lv_at hl 3 rfl) ?_
    refine lv_i2l (v := Int32.toInt64 d) hx hb dX1_seek_17 rfl ?_
    refine zw_cl (va_runS (As := [.long (Int32.toInt64 a), .long (Int32.toInt64 b), .long (Int32.toInt64 d)]) (rest := [.ref h0, .ref h0]) ⟨hx, hb, hml, hown, hts⟩ (zd_packed l (Int32.toInt64 a) (Int32.toInt64 b) (Int32.toInt64 d)) (va_cwS 3 hts gX1_seek_X1_packed rfl rfl rfl (by decide +kernel) ⟨Nat.le_of_ble_eq_true rfl, Nat.le_of_ble_eq_true rfl⟩) (preEq) rfl rfl hl.1 rfl (lv_room (Nat.le_of_ble_eq_true rfl)) dX1_seek_18 ⟨Nat.zero_le _, Nat.zero_le _⟩) ?_
    refine zw_eql (y := lN k) ((hk hz).1) ?_
    refine zw_ci (va_runV (As := [.long (lN k)]) (rest := [.ref h0]) ⟨hx, hb, hml, hown, hts⟩ (zd_below l dC dI h0 ha cA f o ks cur k (Nat.le_of_lt (hk hz).2) hG) (cwV 1 hts gX1_seek_X1_below rfl rfl rfl (by decide +kernel) ⟨Nat.le_of_ble_eq_true rfl, Nat.le_of_ble_eq_true rfl⟩) (zw_preV (ci := 1) (q0 := 0) hP hK rfl rfl) rfl rfl hl.1 rfl (lv_room (Nat.le_of_ble_eq_true rfl)) dX1_seek_21 ⟨Nat.zero_le _, Nat.zero_le _⟩) ?_
    refine zw_callw (ws := zy_w h0 ha cA f o ks.length cur) (wc := zy_w h0 ha cA f o ks.length cur) (wr := []) (va_runV (As := [.int (nI (zk_c ks k))]) (rest := []) ⟨hx, hb, hml, hown, hts⟩ (zd_stand l dC dI h0 ha cA f o ks cur s.heap.size (nI (zk_c ks k)) hG) (cwV 1 hts gX1_seek_X1_stand rfl rfl rfl (by decide +kernel) ⟨Nat.le_of_ble_eq_true rfl, Nat.le_of_ble_eq_true rfl⟩) (zw_preWV (ci := 1) (q0 := 0) hP hK hD rfl rfl) rfl rfl hl.1 rfl (lv_room (Nat.le_of_ble_eq_true rfl)) dX1_seek_24 ⟨Nat.le_of_ble_eq_true rfl, Nat.le_of_ble_eq_true rfl⟩) hP hD hS hA [0, 1] [] rfl rfl (by decide) (by decide) (fun u H locs hu hP hD hK hS => ?_)
    have hP : va_P (dC, dI) vwCl (zy_w h0 ha cA u o ks.length (zk_o (zs_at ks (nI (zk_c ks k))))) H := hP
    have hD : va_D A (zy_w h0 ha cA u o ks.length (zk_o (zs_at ks (nI (zk_c ks k))))) := hD
    refine W.eq (g2 := F0 m 27 ls (.int (zb_I (zs_at ks (nI (zk_c ks k))).isSome) :: [])) rfl ?_
    refine zw_ifeq (tgt := 34) hx hb dX1_seek_27 (by decide) (fun c_27 => ?_) (fun c_27 => ?_)
    · refine lv_iconst (v := 0) hx hb dX1_seek_34 (by decide) ?_
      refine zw_eqi (y := zb_I (zs_at ks (nI (zk_c ks k))).isSome) (by rw [c_27]; rfl) ?_
      exact W.zret hx hb hr (zb_nar _) (fun t ht hW => ⟨⟨u, rfl, hu, by rw [ht]; exact hP, va_K.moved hW.alike hK, hD⟩, hS.F ht⟩) hS.2.2 dX1_seek_35
    · refine lv_iconst (v := 1) hx hb dX1_seek_30 (by decide) ?_
      refine lv_goto (tgt := 35) hx hb dX1_seek_31 (by decide) ?_
      refine zw_eqi (y := zb_I (zs_at ks (nI (zk_c ks k))).isSome) (by rw [c_27]; rfl) ?_
      exact W.zret hx hb hr (zb_nar _) (fun t ht hW => ⟨⟨u, rfl, hu, by rw [ht]; exact hP, va_K.moved hW.alike hK, hD⟩, hS.F ht⟩) hS.2.2 dX1_seek_35
set_option maxHeartbeats 4000000 in
set_option maxRecDepth 100000 in
/-- next() -/
theorem zd_next (l : Launch) (dC : Nat → ClassId) (dI : Nat → Nat → Nat) (h0 ha : Nat) (cA : ClassId) (f : Nat → Int64) (o : Nat) (ks : List Nat) (cur : Int64) (sz : Nat) (oc : Option Nat) (hoc : ∀ z, oc = some z → z < 1152921504606846976) (ec : cur = zk_o oc) (hG : zk_R ks f) : Met l yX1_next wsX1_next ({ frames := 1, cells := 0, slots := 0, locals := 23 }) (zw_Pw [.ref h0] (dC, dI) vwCl (zy_w h0 ha cA f o ks.length cur) [(cA, .long)] sz) (zy_Q dC dI h0 ha cA o (some (.int (zb_I (zs_at ks (nI (zk_c ks (zk_nx oc)))).isSome))) (ks) (zk_o (zs_at ks (nI (zk_c ks (zk_nx oc))))) (va_A (zy_w h0 ha cA f o ks.length cur) sz)) 0 0 (va_A (zy_w h0 ha cA f o ks.length cur) sz) := by
  refine Met.ofW (cc := cX1_next) (maxL := 1) (ret := (some .boolean)) (by decide) rfl ?_
  intro p e s m args below meth c s₁ B hml hv
  obtain ⟨rfl, hsz, hP, hK, hD0⟩ := hv
  have hx := B.exec
  have hb := B.bytes
  have hr := B.returns
  have hts := atoms_spec (ws := wsX1_next) B.pre
  have hown : s.vm.findClass RX1 = some m.cls := findClass_of_methodNamed B.named
  subst hsz
  have hD := hD0.self (sz := s.heap.size)
  generalize hAe : va_A (zy_w h0 ha cA f o ks.length cur) s.heap.size = A at hD ⊢
  have hA : ∀ q : Nat, s.heap.size ≤ q → A q := fun q h => by rw [← hAe]; exact Or.inr h
  have hS : va_S A s.heap s.heap [] := va_S.rf
  have hP : va_P (dC, dI) vwCl (zy_w h0 ha cA f o ks.length cur) s.heap := hP
  have hl := lv_entry ([.ref h0]) (n := 1) (Nat.le_of_ble_eq_true rfl)
  rw [lg_entry_eq]
  generalize (lg_sl ([.ref h0]) ++ List.replicate (1 - (lg_sl ([.ref h0])).length) Slot.unset).toArray = ls at hl ⊢
  have hl : lv_has ls 1 [(0, .ref h0)] := hl
  refine lv_aload_n hx hb dX1_next_0 rfl (lv_at hl 0 rfl) ?_
  refine lv_aload_n hx hb dX1_next_1 rfl (lv_at hl 0 rfl) ?_
  refine lv_aload_n hx hb dX1_next_2 rfl (lv_at hl 0 rfl) ?_
  refine va_get (D := (dC, dI)) (ci := 1) (v := .long cur) (C := RX1) (T := TX1) (N := 4) hx hb hts (by decide +kernel) hown hK hP 0 rfl rfl 3 (by decide) (hts (.fieldLink RX1 15 "PageIndexModel" "cursor" "J") (by decide +kernel)) (fun _ h9 => h9) rfl dX1_next_3 ?_
  refine lv_lconst (v := 1) hx hb dX1_next_6 (by decide) ?_
  refine lv_ladd hx hb dX1_next_7 ?_
  refine zw_eql (y := lN (zk_nx oc)) (by rw [ec]; exact zk_o_succ oc) ?_
  refine zw_ci (va_runV (As := [.long (lN (zk_nx oc))]) (rest := [.ref h0]) ⟨hx, hb, hml, hown, hts⟩ (zd_below l dC dI h0 ha cA f o ks cur (zk_nx oc) (zk_nx_le hoc) hG) (cwV 1 hts gX1_next_X1_below rfl rfl rfl (by decide +kernel) ⟨Nat.le_of_ble_eq_true rfl, Nat.le_of_ble_eq_true rfl⟩) (zw_preV (ci := 1) (q0 := 0) hP hK rfl rfl) rfl rfl hl.1 rfl (lv_room (Nat.le_of_ble_eq_true rfl)) dX1_next_8 ⟨Nat.zero_le _, Nat.zero_le _⟩) ?_
  refine zw_callw (ws := zy_w h0 ha cA f o ks.length cur) (wc := zy_w h0 ha cA f o ks.length cur) (wr := []) (va_runV (As := [.int (nI (zk_c ks (zk_nx oc)))]) (rest := []) ⟨hx, hb, hml, hown, hts⟩ (zd_stand l dC dI h0 ha cA f o ks cur s.heap.size (nI (zk_c ks (zk_nx oc))) hG) (cwV 1 hts gX1_next_X1_stand rfl rfl rfl (by decide +kernel) ⟨Nat.le_of_ble_eq_true rfl, Nat.le_of_ble_eq_true rfl⟩) (zw_preWV (ci := 1) (q0 := 0) hP hK hD rfl rfl) rfl rfl hl.1 rfl (lv_room (Nat.le_of_ble_eq_true rfl)) dX1_next_11 ⟨Nat.le_of_ble_eq_true rfl, Nat.le_of_ble_eq_true rfl⟩) hP hD hS hA [0, 1] [] rfl rfl (by decide) (by decide) (fun u H locs hu hP hD hK hS => ?_)
  have hP : va_P (dC, dI) vwCl (zy_w h0 ha cA u o ks.length (zk_o (zs_at ks (nI (zk_c ks (zk_nx oc)))))) H := hP
  have hD : va_D A (zy_w h0 ha cA u o ks.length (zk_o (zs_at ks (nI (zk_c ks (zk_nx oc)))))) := hD
  refine W.eq (g2 := F0 m 14 ls (.int (zb_I (zs_at ks (nI (zk_c ks (zk_nx oc)))).isSome) :: [])) rfl ?_
  exact W.zret hx hb hr (zb_nar _) (fun t ht hW => ⟨⟨u, rfl, hu, by rw [ht]; exact hP, va_K.moved hW.alike hK, hD⟩, hS.F ht⟩) hS.2.2 dX1_next_14
set_option maxHeartbeats 4000000 in
set_option maxRecDepth 100000 in
/-- previous() -/
theorem zd_previous (l : Launch) (dC : Nat → ClassId) (dI : Nat → Nat → Nat) (h0 ha : Nat) (cA : ClassId) (f : Nat → Int64) (o : Nat) (ks : List Nat) (cur : Int64) (sz : Nat) (oc : Option Nat) (hoc : ∀ z, oc = some z → z < 1152921504606846976) (ec : cur = zk_o oc) (hG : zk_R ks f) : Met l yX1_previous wsX1_previous ({ frames := 1, cells := 0, slots := 0, locals := 23 }) (zw_Pw [.ref h0] (dC, dI) vwCl (zy_w h0 ha cA f o ks.length cur) [(cA, .long)] sz) (zy_Q dC dI h0 ha cA o (some (.int (zb_I (zs_at ks (nI (zk_pv ks oc) - 1)).isSome))) (ks) (zk_o (zs_at ks (nI (zk_pv ks oc) - 1))) (va_A (zy_w h0 ha cA f o ks.length cur) sz)) 0 0 (va_A (zy_w h0 ha cA f o ks.length cur) sz) := by
  refine Met.ofW (cc := cX1_previous) (maxL := 1) (ret := (some .boolean)) (by decide) rfl ?_
  intro p e s m args below meth c s₁ B hml hv
  obtain ⟨rfl, hsz, hP, hK, hD0⟩ := hv
  have hx := B.exec
  have hb := B.bytes
  have hr := B.returns
  have hts := atoms_spec (ws := wsX1_previous) B.pre
  have hown : s.vm.findClass RX1 = some m.cls := findClass_of_methodNamed B.named
  subst hsz
  have hD := hD0.self (sz := s.heap.size)
  generalize hAe : va_A (zy_w h0 ha cA f o ks.length cur) s.heap.size = A at hD ⊢
  have hA : ∀ q : Nat, s.heap.size ≤ q → A q := fun q h => by rw [← hAe]; exact Or.inr h
  have hS : va_S A s.heap s.heap [] := va_S.rf
  have hP : va_P (dC, dI) vwCl (zy_w h0 ha cA f o ks.length cur) s.heap := hP
  have hl := lv_entry ([.ref h0]) (n := 1) (Nat.le_of_ble_eq_true rfl)
  rw [lg_entry_eq]
  generalize (lg_sl ([.ref h0]) ++ List.replicate (1 - (lg_sl ([.ref h0])).length) Slot.unset).toArray = ls at hl ⊢
  have hl : lv_has ls 1 [(0, .ref h0)] := hl
  cases oc with
  | none =>
    refine lv_aload_n hx hb dX1_previous_0 rfl (lv_at hl 0 rfl) ?_
    refine lv_aload_n hx hb dX1_previous_1 rfl (lv_at hl 0 rfl) ?_
    refine va_get (D := (dC, dI)) (ci := 1) (v := .long cur) (C := RX1) (T := TX1) (N := 4) hx hb hts (by decide +kernel) hown hK hP 0 rfl rfl 3 (by decide) (hts (.fieldLink RX1 15 "PageIndexModel" "cursor" "J") (by decide +kernel)) (fun _ h9 => h9) rfl dX1_previous_2 ?_
    refine lv_ldc2 (v := (-1)) hx hb hown (hts (.constantLong RX1 13 (-1)) (by decide +kernel)) dX1_previous_5 ?_
    refine W.lcmp hx hb dX1_previous_8 ?_
    refine lv_if_ne (tgt := 21) hx hb dX1_previous_9 (by decide) (fun c_9 => absurd ((lg_cmp_eq _ _).mpr ec) c_9) (fun c_9 => ?_)
    refine lv_aload_n hx hb dX1_previous_12 rfl (lv_at hl 0 rfl) ?_
    refine va_get (D := (dC, dI)) (ci := 1) (v := .int (nI ks.length)) (C := RX1) (T := TX1) (N := 4) hx hb hts (by decide +kernel) hown hK hP 0 rfl rfl 1 (by decide) (hts (.fieldLink RX1 40 "PageIndexModel" "size" "I") (by decide +kernel)) (fun _ h9 => h9) rfl dX1_previous_13 ?_
    refine lv_iconst (v := 1) hx hb dX1_previous_16 (by decide) ?_
    refine lv_isub hx hb dX1_previous_17 ?_
    refine lv_goto (tgt := 31) hx hb dX1_previous_18 (by decide) ?_
    refine zw_callw (ws := zy_w h0 ha cA f o ks.length cur) (wc := zy_w h0 ha cA f o ks.length cur) (wr := []) (va_runV (As := [.int ((nI ks.length) - 1)]) (rest := []) ⟨hx, hb, hml, hown, hts⟩ (zd_stand l dC dI h0 ha cA f o ks cur s.heap.size ((nI ks.length) - 1) hG) (cwV 1 hts gX1_previous_X1_stand rfl rfl rfl (by decide +kernel) ⟨Nat.le_of_ble_eq_true rfl, Nat.le_of_ble_eq_true rfl⟩) (zw_preWV (ci := 1) (q0 := 0) hP hK hD rfl rfl) rfl rfl hl.1 rfl (lv_room (Nat.le_of_ble_eq_true rfl)) dX1_previous_31 ⟨Nat.le_of_ble_eq_true rfl, Nat.le_of_ble_eq_true rfl⟩) hP hD hS hA [0, 1] [] rfl rfl (by decide) (by decide) (fun u H locs hu hP hD hK hS => ?_)
    have hP : va_P (dC, dI) vwCl (zy_w h0 ha cA u o ks.length (zk_o (zs_at ks ((nI ks.length) - 1)))) H := hP
    have hD : va_D A (zy_w h0 ha cA u o ks.length (zk_o (zs_at ks ((nI ks.length) - 1)))) := hD
    refine W.eq (g2 := F0 m 34 ls (.int (zb_I (zs_at ks ((nI ks.length) - 1)).isSome) :: [])) rfl ?_
    exact W.zret hx hb hr (zb_nar _) (fun t ht hW => ⟨⟨u, rfl, hu, by rw [ht]; exact hP, va_K.moved hW.alike hK, hD⟩, hS.F ht⟩) hS.2.2 dX1_previous_34
  | some z =>
    refine lv_aload_n hx hb dX1_previous_0 rfl (lv_at hl 0 rfl) ?_
    refine lv_aload_n hx hb dX1_previous_1 rfl (lv_at hl 0 rfl) ?_
    refine va_get (D := (dC, dI)) (ci := 1) (v := .long cur) (C := RX1) (T := TX1) (N := 4) hx hb hts (by decide +kernel) hown hK hP 0 rfl rfl 3 (by decide) (hts (.fieldLink RX1 15 "PageIndexModel" "cursor" "J") (by decide +kernel)) (fun _ h9 => h9) rfl dX1_previous_2 ?_
    refine lv_ldc2 (v := (-1)) hx hb hown (hts (.constantLong RX1 13 (-1)) (by decide +kernel)) dX1_previous_5 ?_
    refine W.lcmp hx hb dX1_previous_8 ?_
    refine lv_if_ne (tgt := 21) hx hb dX1_previous_9 (by decide) (fun c_9 => ?_) (fun c_9 => absurd c_9 (fun q => zk_o_ne (hoc z rfl) (ec.symm.trans ((lg_cmp_eq _ _).mp q))))
    refine lv_aload_n hx hb dX1_previous_21 rfl (lv_at hl 0 rfl) ?_
    refine lv_aload_n hx hb dX1_previous_22 rfl (lv_at hl 0 rfl) ?_
    refine va_get (D := (dC, dI)) (ci := 1) (v := .long cur) (C := RX1) (T := TX1) (N := 4) hx hb hts (by decide +kernel) hown hK hP 0 rfl rfl 3 (by decide) (hts (.fieldLink RX1 15 "PageIndexModel" "cursor" "J") (by decide +kernel)) (fun _ h9 => h9) rfl dX1_previous_23 ?_
    refine zw_eql (y := lN z) (ec) ?_
    refine zw_ci (va_runV (As := [.long (lN z)]) (rest := [.ref h0]) ⟨hx, hb, hml, hown, hts⟩ (zd_below l dC dI h0 ha cA f o ks cur z (Nat.le_of_lt (hoc z rfl)) hG) (cwV 1 hts gX1_previous_X1_below rfl rfl rfl (by decide +kernel) ⟨Nat.le_of_ble_eq_true rfl, Nat.le_of_ble_eq_true rfl⟩) (zw_preV (ci := 1) (q0 := 0) hP hK rfl rfl) rfl rfl hl.1 rfl (lv_room (Nat.le_of_ble_eq_true rfl)) dX1_previous_26 ⟨Nat.zero_le _, Nat.zero_le _⟩) ?_
    refine lv_iconst (v := 1) hx hb dX1_previous_29 (by decide) ?_
    refine lv_isub hx hb dX1_previous_30 ?_
    refine zw_callw (ws := zy_w h0 ha cA f o ks.length cur) (wc := zy_w h0 ha cA f o ks.length cur) (wr := []) (va_runV (As := [.int ((nI (zk_c ks z)) - 1)]) (rest := []) ⟨hx, hb, hml, hown, hts⟩ (zd_stand l dC dI h0 ha cA f o ks cur s.heap.size ((nI (zk_c ks z)) - 1) hG) (cwV 1 hts gX1_previous_X1_stand rfl rfl rfl (by decide +kernel) ⟨Nat.le_of_ble_eq_true rfl, Nat.le_of_ble_eq_true rfl⟩) (zw_preWV (ci := 1) (q0 := 0) hP hK hD rfl rfl) rfl rfl hl.1 rfl (lv_room (Nat.le_of_ble_eq_true rfl)) dX1_previous_31 ⟨Nat.le_of_ble_eq_true rfl, Nat.le_of_ble_eq_true rfl⟩) hP hD hS hA [0, 1] [] rfl rfl (by decide) (by decide) (fun u H locs hu hP hD hK hS => ?_)
    have hP : va_P (dC, dI) vwCl (zy_w h0 ha cA u o ks.length (zk_o (zs_at ks ((nI (zk_c ks z)) - 1)))) H := hP
    have hD : va_D A (zy_w h0 ha cA u o ks.length (zk_o (zs_at ks ((nI (zk_c ks z)) - 1)))) := hD
    refine W.eq (g2 := F0 m 34 ls (.int (zb_I (zs_at ks ((nI (zk_c ks z)) - 1)).isSome) :: [])) rfl ?_
    exact W.zret hx hb hr (zb_nar _) (fun t ht hW => ⟨⟨u, rfl, hu, by rw [ht]; exact hP, va_K.moved hW.alike hK, hD⟩, hS.F ht⟩) hS.2.2 dX1_previous_34
