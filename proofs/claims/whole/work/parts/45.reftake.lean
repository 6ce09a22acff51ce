set_option maxHeartbeats 4000000 in
set_option maxRecDepth 100000 in
/-- take(C) -/
theorem zd_take (l : Launch) (dC : Nat → ClassId) (dI : Nat → Nat → Nat) (h0 ha : Nat) (cA : ClassId) (f : Nat → Int64) (o : Nat) (ks : List Nat) (cur : Int64) (sz : Nat) (C : Nat) (hC : C < ks.length) (hG : zk_R ks f) : Met l yX1_take wsX1_take ({ frames := 0, cells := 0, slots := 0, locals := 0 }) (zw_Pw [.ref h0, .int (nI C)] (dC, dI) vwCl (zy_w h0 ha cA f o ks.length cur) [(cA, .long)] sz) (zy_Q dC dI h0 ha cA o (none) (zk_del ks C (C + 1)) (cur) (va_A (zy_w h0 ha cA f o ks.length cur) sz)) 0 0 (va_A (zy_w h0 ha cA f o ks.length cur) sz) := by
  refine Met.ofW (cc := cX1_take) (maxL := 3) (ret := none) (by decide) rfl ?_
  intro p e s m args below meth c s₁ B hml hv
  obtain ⟨rfl, hsz, hP, hK, hD0⟩ := hv
  have hx := B.exec
  have hb := B.bytes
  have hr := B.returns
  have hts := atoms_spec (ws := wsX1_take) B.pre
  have hown : s.vm.findClass RX1 = some m.cls := findClass_of_methodNamed B.named
  subst hsz
  have hD := hD0.self (sz := s.heap.size)
  generalize hAe : va_A (zy_w h0 ha cA f o ks.length cur) s.heap.size = A at hD ⊢
  have hA : ∀ q : Nat, s.heap.size ≤ q → A q := fun q h => by rw [← hAe]; exact Or.inr h
  have hS : va_S A s.heap s.heap [] := va_S.rf
  have hP : va_P (dC, dI) vwCl (zy_w h0 ha cA f o ks.length cur) s.heap := hP
  have hl := lv_entry ([.ref h0, .int (nI C)]) (n := 3) (Nat.le_of_ble_eq_true rfl)
  rw [lg_entry_eq]
  generalize (lg_sl ([.ref h0, .int (nI C)]) ++ List.replicate (3 - (lg_sl ([.ref h0, .int (nI C)])).length) Slot.unset).toArray = ls at hl ⊢
  have hl : lv_has ls 3 [(0, .ref h0), (1, .int (nI C))] := hl
  have hn3 := hG.2.2.1
  refine lv_aload_n hx hb dX1_take_0 rfl (lv_at hl 0 rfl) ?_
  refine lv_dup hx hb dX1_take_1 rfl ?_
  refine va_get (D := (dC, dI)) (ci := 1) (v := .int (nI ks.length)) (C := RX1) (T := TX1) (N := 4) hx hb hts (by decide +kernel) hown hK hP 0 rfl rfl 1 (by decide) (hts (.fieldLink RX1 40 "PageIndexModel" "size" "I") (by decide +kernel)) (fun _ h9 => h9) rfl dX1_take_2 ?_
  refine lv_iconst (v := 1) hx hb dX1_take_5 (by decide) ?_
  refine lv_isub hx hb dX1_take_6 ?_
  refine zw_eqi (y := nI (ks.length - 1)) (pk_sub (b := 1) (by omega)) ?_
  refine va_put (D := (dC, dI)) (ci := 1) (v := .int (nI (ks.length - 1))) (ty := .int) (C := RX1) (T := TX1) (N := 4) hx hb hts (by decide +kernel) tyX1 tyX1_ok nmX1 hown hK hP hD hS 0 rfl rfl 1 (by decide) (hts (.fieldLink RX1 40 "PageIndexModel" "size" "I") (by decide +kernel)) (fun _ h9 => h9) rfl (by decide +kernel) rfl rfl (Nat.le_of_ble_eq_true rfl) dX1_take_7 (fun H locs hP hD hS => ?_)
  have hP : va_P (dC, dI) vwCl (zy_w h0 ha cA f o ((ks.length - 1)) cur) H := hP
  have hD : va_D A (zy_w h0 ha cA f o ((ks.length - 1)) cur) := hD
  refine lv_iload_n hx hb dX1_take_10 rfl (lv_at hl 1 rfl) ?_
  refine lv_istore_n (lv' := [(2, .int (nI C)), (0, .ref h0), (1, .int (nI C))]) hx hb dX1_take_11 rfl hl (by decide) rfl (fun ls hl => ?_)
  have LOOP : ∀ (r i : Nat), C ≤ i → i + r = ks.length - 1 → ∀ (H : Heap) (locs : List Loc), va_P (dC, dI) vwCl (zy_w h0 ha cA (va_cpy f f (C + 1) C (i - C)) o (ks.length - 1) cur) H → va_D A (zy_w h0 ha cA (va_cpy f f (C + 1) C (i - C)) o (ks.length - 1) cur) → va_S A s.heap H locs → ∀ ls : Array Slot, lv_has ls 3 [(2, .int (nI i)), (0, .ref h0)] → W p l e (headSpec wsX1_take ({ frames := 0, cells := 0, slots := 0, locals := 0 })).room s m [.ref h0, .int (nI C)].toArray below meth c H locs 0 0 (MQ below (zy_Q dC dI h0 ha cA o (none) (zk_del ks C (C + 1)) (cur) A) [.ref h0, .int (nI C)].toArray s 0 0 A) (F0 m 12 ls []) := by
    intro r
    induction r with
    | zero =>
      intro i h0i h1 H locs hP hD hS ls hl
      rw [show i - C = ks.length - (C + 1) by omega, show ks.length - 1 = (zk_del ks C (C + 1)).length by rw [zk_del_len (Nat.le_succ _) hC]; omega] at hP hD
      refine lv_iload_n hx hb dX1_take_12 rfl (lv_at hl 0 rfl) ?_
      refine lv_aload_n hx hb dX1_take_13 rfl (lv_at hl 1 rfl) ?_
      refine va_get (D := (dC, dI)) (ci := 1) (v := .int (nI ((zk_del ks C (C + 1)).length))) (C := RX1) (T := TX1) (N := 4) hx hb hts (by decide +kernel) hown hK hP 0 rfl rfl 1 (by decide) (hts (.fieldLink RX1 40 "PageIndexModel" "size" "I") (by decide +kernel)) (fun _ h9 => h9) rfl dX1_take_14 ?_
      refine lv_icmp_ge (tgt := 40) hx hb dX1_take_17 (by decide) (fun c_17 => ?_) (fun c_17 => absurd (nI_le (by rw [zk_del_len (Nat.le_succ _) hC]; omega) (by omega)) c_17)
      exact W.vret hx hb hr (fun t ht hW => ⟨⟨va_cpy f f (C + 1) C (ks.length - (C + 1)), rfl, zk_R_del hG (Nat.le_succ _) hC, by rw [ht]; exact hP, va_K.moved hW.alike hK, hD⟩, hS.F ht⟩) hS.2.2 dX1_take_40
    | succ r ih =>
      intro i h0i h1 H locs hP hD hS ls hl
      refine lv_iload_n hx hb dX1_take_12 rfl (lv_at hl 0 rfl) ?_
      refine lv_aload_n hx hb dX1_take_13 rfl (lv_at hl 1 rfl) ?_
      refine va_get (D := (dC, dI)) (ci := 1) (v := .int (nI (ks.length - 1))) (C := RX1) (T := TX1) (N := 4) hx hb hts (by decide +kernel) hown hK hP 0 rfl rfl 1 (by decide) (hts (.fieldLink RX1 40 "PageIndexModel" "size" "I") (by decide +kernel)) (fun _ h9 => h9) rfl dX1_take_14 ?_
      refine lv_icmp_ge (tgt := 40) hx hb dX1_take_17 (by decide) (fun c_17 => absurd c_17 (nI_ge (by omega) (by omega))) (fun c_17 => ?_)
      refine lv_aload_n hx hb dX1_take_20 rfl (lv_at hl 1 rfl) ?_
      refine va_get (D := (dC, dI)) (ci := 1) (v := .ref ha) (C := RX1) (T := TX1) (N := 4) hx hb hts (by decide +kernel) hown hK hP 0 rfl rfl 0 (by decide) (hts (.fieldLink RX1 7 "PageIndexModel" "keys" "[J") (by decide +kernel)) (fun _ h9 => h9) rfl dX1_take_21 ?_
      refine lv_iload_n hx hb dX1_take_24 rfl (lv_at hl 0 rfl) ?_
      refine lv_aload_n hx hb dX1_take_25 rfl (lv_at hl 1 rfl) ?_
      refine va_get (D := (dC, dI)) (ci := 1) (v := .ref ha) (C := RX1) (T := TX1) (N := 4) hx hb hts (by decide +kernel) hown hK hP 0 rfl rfl 0 (by decide) (hts (.fieldLink RX1 7 "PageIndexModel" "keys" "[J") (by decide +kernel)) (fun _ h9 => h9) rfl dX1_take_26 ?_
      refine lv_iload_n hx hb dX1_take_29 rfl (lv_at hl 0 rfl) ?_
      refine lv_iconst (v := 1) hx hb dX1_take_30 (by decide) ?_
      refine lv_iadd hx hb dX1_take_31 ?_
      refine zw_eqi (y := nI (i + 1)) (nI_1 _) ?_
      refine va_lald hx hb hK hP 1 0 rfl rfl (pk_in (i + 1) 20000 (by omega) rfl (by omega)) dX1_take_32 ?_
      refine zw_eql (y := va_cpy f f (C + 1) C (i - C) (i + 1)) (by rw [nI_clamp (by omega)]) ?_
      refine va_last hx hb hK hP hD hS 1 0 rfl rfl (pk_in i 20000 (by omega) rfl (by omega)) dX1_take_33 (fun H locs hP hD hS => ?_)
      rw [nI_clamp (n := i) (by omega), zk_down h0i] at hP hD
      have hP : va_P (dC, dI) vwCl (zy_w h0 ha cA (va_cpy f f (C + 1) C (i + 1 - C)) o (ks.length - 1) cur) H := hP
      have hD : va_D A (zy_w h0 ha cA (va_cpy f f (C + 1) C (i + 1 - C)) o (ks.length - 1) cur) := hD
      refine lv_iinc (v := nI (i + 1)) (lv' := [(2, .int (nI (i + 1))), (0, .ref h0)]) hx hb dX1_take_34 hl (k := 0) rfl (nI_1 _) (by decide) rfl (fun ls hl => ?_)
      refine lv_goto (tgt := 12) hx hb dX1_take_37 (by decide) ?_
      exact ih (i + 1) (by omega) (by omega) H locs hP hD hS ls (lv_sub hl [0, 1] rfl)
  have hP : va_P (dC, dI) vwCl (zy_w h0 ha cA (va_cpy f f (C + 1) C (C - C)) o (ks.length - 1) cur) H := by rw [Nat.sub_self, zk_cpy0]; exact hP
  have hD : va_D A (zy_w h0 ha cA (va_cpy f f (C + 1) C (C - C)) o (ks.length - 1) cur) := by rw [Nat.sub_self, zk_cpy0]; exact hD
  exact LOOP (ks.length - 1 - C) C (Nat.le_refl _) (by omega) H locs hP hD hS ls (lv_sub hl [0, 1] rfl)
set_option maxHeartbeats 4000000 in
set_option maxRecDepth 100000 in
/-- remove(x, y, z) -/
theorem zd_remove (l : Launch) (dC : Nat → ClassId) (dI : Nat → Nat → Nat) (h0 ha : Nat) (cA : ClassId) (f : Nat → Int64) (o : Nat) (ks : List Nat) (cur : Int64) (sz : Nat) (x : Int32) (y : Int32) (z : Int32) (ho : o < 6) (k : Nat) (hk : zf_nn x y z = true → zf_ky o x y z = lN k ∧ k < 1152921504606846976) (hG : zk_R ks f) : Met l yX1_remove wsX1_remove ({ frames := 2, cells := 0, slots := 0, locals := 48 }) (zw_Pw [.ref h0, .int x, .int y, .int z] (dC, dI) vwCl (zy_w h0 ha cA f o ks.length cur) [(cA, .long)] sz) (zy_Q dC dI h0 ha cA o (some (.int (cond (zf_nn x y z) (cond (decide (k ∈ ks)) 1 0) (-1)))) (cond (zf_nn x y z) (cond (decide (k ∈ ks)) (zk_del ks (zk_c ks k) (zk_c ks k + 1)) ks) ks) (cur) (va_A (zy_w h0 ha cA f o ks.length cur) sz)) 0 0 (va_A (zy_w h0 ha cA f o ks.length cur) sz) := by
  refine Met.ofW (cc := cX1_remove) (maxL := 7) (ret := (some .int)) (by decide) rfl ?_
  intro p e s m args below meth c s₁ B hml hv
  obtain ⟨rfl, hsz, hP, hK, hD0⟩ := hv
  have hx := B.exec
  have hb := B.bytes
  have hr := B.returns
  have hts := atoms_spec (ws := wsX1_remove) B.pre
  have hown : s.vm.findClass RX1 = some m.cls := findClass_of_methodNamed B.named
  subst hsz
  have hD := hD0.self (sz := s.heap.size)
  generalize hAe : va_A (zy_w h0 ha cA f o ks.length cur) s.heap.size = A at hD ⊢
  have hA : ∀ q : Nat, s.heap.size ≤ q → A q := fun q h => by rw [← hAe]; exact Or.inr h
  have hS : va_S A s.heap s.heap [] := va_S.rf
  have hP : va_P (dC, dI) vwCl (zy_w h0 ha cA f o ks.length cur) s.heap := hP
  have hl := lv_entry ([.ref h0, .int x, .int y, .int z]) (n := 7) (Nat.le_of_ble_eq_true rfl)
  rw [lg_entry_eq]
  generalize (lg_sl ([.ref h0, .int x, .int y, .int z]) ++ List.replicate (7 - (lg_sl ([.ref h0, .int x, .int y, .int z])).length) Slot.unset).toArray = ls at hl ⊢
  have hl : lv_has ls 7 [(0, .ref h0), (1, .int x), (2, .int y), (3, .int z)] := hl
  cases hz : zf_nn x y z with
  | false =>
    refine lv_iconst (v := 3) hx hb dX1_remove_0 (by decide) ?_
    refine lv_iload_n hx hb dX1_remove_1 rfl (lv_at hl 1 rfl) ?_
    refine lv_iload_n hx hb dX1_remove_2 rfl (lv_at hl 2 rfl) ?_
    refine lv_iload_n hx hb dX1_remove_3 rfl (lv_at hl 3 rfl) ?_
    refine zw_ci (va_runS (As := [.int 3, .int x, .int y, .int z]) (rest := []) ⟨hx, hb, hml, hown, hts⟩ (zd_areNumbers l 3 x y z) (va_cwS 4 hts gX1_remove_X1_areNumbers rfl rfl rfl (by decide +kernel) ⟨Nat.le_of_ble_eq_true rfl, Nat.le_of_ble_eq_true rfl⟩) (preEq) rfl rfl hl.1 rfl (lv_room (Nat.le_of_ble_eq_true rfl)) dX1_remove_4 ⟨Nat.zero_le _, Nat.zero_le _⟩) ?_
    refine zw_eqi (y := zb_I (zf_nn x y z)) (by rw [zf_fn3]) ?_
    refine zw_ifne (tgt := 12) hx hb dX1_remove_7 (by decide) (fun c_7 => absurd ((hz).symm.trans c_7) (by decide)) (fun c_7 => ?_)
    refine lv_iconst (v := (-1)) hx hb dX1_remove_10 (by decide) ?_
    exact W.iret hx hb hr (fun t ht hW => ⟨⟨f, rfl, hG, by rw [ht]; exact hP, va_K.moved hW.alike hK, hD⟩, hS.F ht⟩) hS.2.2 dX1_remove_11
  | true =>
    cases hm : decide (k ∈ ks) with
    | false =>
      refine lv_iconst (v := 3) hx hb dX1_remove_0 (by decide) ?_
      refine lv_iload_n hx hb dX1_remove_1 rfl (lv_at hl 1 rfl) ?_
      refine lv_iload_n hx hb dX1_remove_2 rfl (lv_at hl 2 rfl) ?_
      refine lv_iload_n hx hb dX1_remove_3 rfl (lv_at hl 3 rfl) ?_
      refine zw_ci (va_runS (As := [.int 3, .int x, .int y, .int z]) (rest := []) ⟨hx, hb, hml, hown, hts⟩ (zd_areNumbers l 3 x y z) (va_cwS 4 hts gX1_remove_X1_areNumbers rfl rfl rfl (by decide +kernel) ⟨Nat.le_of_ble_eq_true rfl, Nat.le_of_ble_eq_true rfl⟩) (preEq) rfl rfl hl.1 rfl (lv_room (Nat.le_of_ble_eq_true rfl)) dX1_remove_4 ⟨Nat.zero_le _, Nat.zero_le _⟩) ?_
      refine zw_eqi (y := zb_I (zf_nn x y z)) (by rw [zf_fn3]) ?_
      refine zw_ifne (tgt := 12) hx hb dX1_remove_7 (by decide) (fun c_7 => ?_) (fun c_7 => absurd ((hz).symm.trans c_7) (by decide))
      refine lv_aload_n hx hb dX1_remove_12 rfl (lv_at hl 0 rfl) ?_
      refine lv_iload_n hx hb dX1_remove_13 rfl (lv_at hl 1 rfl) ?_
      refine lv_iload_n hx hb dX1_remove_14 rfl (lv_at hl 2 rfl) ?_
      refine lv_iload_n hx hb dX1_remove_15 rfl (lv_at hl 3 rfl) ?_
      refine zw_cl (va_runV (As := [.int x, .int y, .int z]) (rest := []) ⟨hx, hb, hml, hown, hts⟩ (zd_key l dC dI h0 ha cA f o ks cur x y z ho) (cwV 3 hts gX1_remove_X1_key rfl rfl rfl (by decide +kernel) ⟨Nat.le_of_ble_eq_true rfl, Nat.le_of_ble_eq_true rfl⟩) (zw_preV (ci := 1) (q0 := 0) hP hK rfl rfl) rfl rfl hl.1 rfl (lv_room (Nat.le_of_ble_eq_true rfl)) dX1_remove_16 ⟨Nat.zero_le _, Nat.zero_le _⟩) ?_
      refine zw_eql (y := lN k) ((hk hz).1) ?_
      refine lv_lstore (lv' := [(4, .long (lN k)), (0, .ref h0), (1, .int x), (2, .int y), (3, .int z)]) hx hb dX1_remove_19 hl (by decide) rfl (fun ls hl => ?_)
      refine lv_aload_n hx hb dX1_remove_21 rfl (lv_at hl 1 rfl) ?_
      refine lv_lload hx hb dX1_remove_22 (lv_at hl 0 rfl) ?_
      refine zw_ci (va_runV (As := [.long (lN k)]) (rest := []) ⟨hx, hb, hml, hown, hts⟩ (zd_below l dC dI h0 ha cA f o ks cur k (Nat.le_of_lt (hk hz).2) hG) (cwV 1 hts gX1_remove_X1_below rfl rfl rfl (by decide +kernel) ⟨Nat.le_of_ble_eq_true rfl, Nat.le_of_ble_eq_true rfl⟩) (zw_preV (ci := 1) (q0 := 0) hP hK rfl rfl) rfl rfl hl.1 rfl (lv_room (Nat.le_of_ble_eq_true rfl)) dX1_remove_24 ⟨Nat.zero_le _, Nat.zero_le _⟩) ?_
      refine lv_istore (lv' := [(6, .int (nI (zk_c ks k))), (4, .long (lN k)), (0, .ref h0), (1, .int x), (2, .int y), (3, .int z)]) hx hb dX1_remove_27 hl (by decide) rfl (fun ls hl => ?_)
      refine lv_aload_n hx hb dX1_remove_29 rfl (lv_at hl 2 rfl) ?_
      refine lv_iload hx hb dX1_remove_30 (lv_at hl 0 rfl) ?_
      refine lv_lload hx hb dX1_remove_32 (lv_at hl 1 rfl) ?_
      refine zw_ci (va_runV (As := [.int (nI (zk_c ks k)), .long (lN k)]) (rest := []) ⟨hx, hb, hml, hown, hts⟩ (zd_isThere l dC dI h0 ha cA f o ks cur (zk_c ks k) k (zk_c_le ks k) (Nat.le_of_lt (hk hz).2) hG) (cwV 2 hts gX1_remove_X1_isThere rfl rfl rfl (by decide +kernel) ⟨Nat.le_of_ble_eq_true rfl, Nat.le_of_ble_eq_true rfl⟩) (zw_preV (ci := 1) (q0 := 0) hP hK rfl rfl) rfl rfl hl.1 rfl (lv_room (Nat.le_of_ble_eq_true rfl)) dX1_remove_34 ⟨Nat.zero_le _, Nat.zero_le _⟩) ?_
      refine zw_eqi (y := zb_I (decide (k ∈ ks))) (by rw [zk_mem_b hG.1]) ?_
      refine zw_ifne (tgt := 42) hx hb dX1_remove_37 (by decide) (fun c_37 => absurd ((hm).symm.trans c_37) (by decide)) (fun c_37 => ?_)
      refine lv_iconst (v := 0) hx hb dX1_remove_40 (by decide) ?_
      exact W.iret hx hb hr (fun t ht hW => ⟨⟨f, rfl, hG, by rw [ht]; exact hP, va_K.moved hW.alike hK, hD⟩, hS.F ht⟩) hS.2.2 dX1_remove_41
    | true =>
      have hc1 := ((zk_mem_iff hG.1).mp (of_decide_eq_true hm)).1
      refine lv_iconst (v := 3) hx hb dX1_remove_0 (by decide) ?_
      refine lv_iload_n hx hb dX1_remove_1 rfl (lv_at hl 1 rfl) ?_
      refine lv_iload_n hx hb dX1_remove_2 rfl (lv_at hl 2 rfl) ?_
      refine lv_iload_n hx hb dX1_remove_3 rfl (lv_at hl 3 rfl) ?_
      refine zw_ci (va_runS (As := [.int 3, .int x, .int y, .int z]) (rest := []) ⟨hx, hb, hml, hown, hts⟩ (zd_areNumbers l 3 x y z) (va_cwS 4 hts gX1_remove_X1_areNumbers rfl rfl rfl (by decide +kernel) ⟨Nat.le_of_ble_eq_true rfl, Nat.le_of_ble_eq_true rfl⟩) (preEq) rfl rfl hl.1 rfl (lv_room (Nat.le_of_ble_eq_true rfl)) dX1_remove_4 ⟨Nat.zero_le _, Nat.zero_le _⟩) ?_
      refine zw_eqi (y := zb_I (zf_nn x y z)) (by rw [zf_fn3]) ?_
      refine zw_ifne (tgt := 12) hx hb dX1_remove_7 (by decide) (fun c_7 => ?_) (fun c_7 => absurd ((hz).symm.trans c_7) (by decide))
      refine lv_aload_n hx hb dX1_remove_12 rfl (lv_at hl 0 rfl) ?_
      refine lv_iload_n hx hb dX1_remove_13 rfl (lv_at hl 1 rfl) ?_
      refine lv_iload_n hx hb dX1_remove_14 rfl (lv_at hl 2 rfl) ?_
      refine lv_iload_n hx hb dX1_remove_15 rfl (lv_at hl 3 rfl) ?_
      refine zw_cl (va_runV (As := [.int x, .int y, .int z]) (rest := []) ⟨hx, hb, hml, hown, hts⟩ (zd_key l dC dI h0 ha cA f o ks cur x y z ho) (cwV 3 hts gX1_remove_X1_key rfl rfl rfl (by decide +kernel) ⟨Nat.le_of_ble_eq_true rfl, Nat.le_of_ble_eq_true rfl⟩) (zw_preV (ci := 1) (q0 := 0) hP hK rfl rfl) rfl rfl hl.1 rfl (lv_room (Nat.le_of_ble_eq_true rfl)) dX1_remove_16 ⟨Nat.zero_le _, Nat.zero_le _⟩) ?_
      refine zw_eql (y := lN k) ((hk hz).1) ?_
      refine lv_lstore (lv' := [(4, .long (lN k)), (0, .ref h0), (1, .int x), (2, .int y), (3, .int z)]) hx hb dX1_remove_19 hl (by decide) rfl (fun ls hl => ?_)
      refine lv_aload_n hx hb dX1_remove_21 rfl (lv_at hl 1 rfl) ?_
      refine lv_lload hx hb dX1_remove_22 (lv_at hl 0 rfl) ?_
      refine zw_ci (va_runV (As := [.long (lN k)]) (rest := []) ⟨hx, hb, hml, hown, hts⟩ (zd_below l dC dI h0 ha cA f o ks cur k (Nat.le_of_lt (hk hz).2) hG) (cwV 1 hts gX1_remove_X1_below rfl rfl rfl (by decide +kernel) ⟨Nat.le_of_ble_eq_true rfl, Nat.le_of_ble_eq_true rfl⟩) (zw_preV (ci := 1) (q0 := 0) hP hK rfl rfl) rfl rfl hl.1 rfl (lv_room (Nat.le_of_ble_eq_true rfl)) dX1_remove_24 ⟨Nat.zero_le _, Nat.zero_le _⟩) ?_
      refine lv_istore (lv' := [(6, .int (nI (zk_c ks k))), (4, .long (lN k)), (0, .ref h0), (1, .int x), (2, .int y), (3, .int z)]) hx hb dX1_remove_27 hl (by decide) rfl (fun ls hl => ?_)
      refine lv_aload_n hx hb dX1_remove_29 rfl (lv_at hl 2 rfl) ?_
      refine lv_iload hx hb dX1_remove_30 (lv_at hl 0 rfl) ?_
      refine lv_lload hx hb dX1_remove_32 (lv_at hl 1 rfl) ?_
      refine zw_ci (va_runV (As := [.int (nI (zk_c ks k)), .long (lN k)]) (rest := []) ⟨hx, hb, hml, hown, hts⟩ (zd_isThere l dC dI h0 ha cA f o ks cur (zk_c ks k) k (zk_c_le ks k) (Nat.le_of_lt (hk hz).2) hG) (cwV 2 hts gX1_remove_X1_isThere rfl rfl rfl (by decide +kernel) ⟨Nat.le_of_ble_eq_true rfl, Nat.le_of_ble_eq_true rfl⟩) (zw_preV (ci := 1) (q0 := 0) hP hK rfl rfl) rfl rfl hl.1 rfl (lv_room (Nat.le_of_ble_eq_true rfl)) dX1_remove_34 ⟨Nat.zero_le _, Nat.zero_le _⟩) ?_
      refine zw_eqi (y := zb_I (decide (k ∈ ks))) (by rw [zk_mem_b hG.1]) ?_
      refine zw_ifne (tgt := 42) hx hb dX1_remove_37 (by decide) (fun c_37 => ?_) (fun c_37 => absurd ((hm).symm.trans c_37) (by decide))
      refine lv_aload_n hx hb dX1_remove_42 rfl (lv_at hl 2 rfl) ?_
      refine lv_iload hx hb dX1_remove_43 (lv_at hl 0 rfl) ?_
      refine zw_callw (ws := zy_w h0 ha cA f o ks.length cur) (wc := zy_w h0 ha cA f o ks.length cur) (wr := []) (va_runV (As := [.int (nI (zk_c ks k))]) (rest := []) ⟨hx, hb, hml, hown, hts⟩ (zd_take l dC dI h0 ha cA f o ks cur s.heap.size (zk_c ks k) hc1 hG) (cwV 1 hts gX1_remove_X1_take rfl rfl rfl (by decide +kernel) ⟨Nat.le_of_ble_eq_true rfl, Nat.le_of_ble_eq_true rfl⟩) (zw_preWV (ci := 1) (q0 := 0) hP hK hD rfl rfl) rfl rfl hl.1 rfl (lv_room (Nat.le_of_ble_eq_true rfl)) dX1_remove_45 ⟨Nat.le_of_ble_eq_true rfl, Nat.le_of_ble_eq_true rfl⟩) hP hD hS hA [0, 1] [] rfl rfl (by decide) (by decide) (fun u H locs hu hP hD hK hS => ?_)
      have hP : va_P (dC, dI) vwCl (zy_w h0 ha cA u o ((zk_del ks (zk_c ks k) (zk_c ks k + 1)).length) cur) H := hP
      have hD : va_D A (zy_w h0 ha cA u o ((zk_del ks (zk_c ks k) (zk_c ks k + 1)).length) cur) := hD
      refine W.eq (g2 := F0 m 48 ls []) rfl ?_
      refine lv_iconst (v := 1) hx hb dX1_remove_48 (by decide) ?_
      exact W.iret hx hb hr (fun t ht hW => ⟨⟨u, rfl, hu, by rw [ht]; exact hP, va_K.moved hW.alike hK, hD⟩, hS.F ht⟩) hS.2.2 dX1_remove_49
set_option maxHeartbeats 4000000 in
set_option maxRecDepth 100000 in
/-- insert(x, y, z) -/
theorem zd_insert (l : Launch) (dC : Nat → ClassId) (dI : Nat → Nat → Nat) (h0 ha : Nat) (cA : ClassId) (f : Nat → Int64) (o : Nat) (ks : List Nat) (cur : Int64) (sz : Nat) (x : Int32) (y : Int32) (z : Int32) (ho : o < 6) (k : Nat) (hk : zf_nn x y z = true → zf_ky o x y z = lN k ∧ k < 1152921504606846976) (hlen : ks.length < 512) (hG : zk_R ks f) : Met l yX1_insert wsX1_insert ({ frames := 2, cells := 0, slots := 0, locals := 48 }) (zw_Pw [.ref h0, .int x, .int y, .int z] (dC, dI) vwCl (zy_w h0 ha cA f o ks.length cur) [(cA, .long)] sz) (zy_Q dC dI h0 ha cA o (some (.int (cond (zf_nn x y z) (cond (decide (k ∈ ks)) 0 1) (-1)))) (cond (zf_nn x y z) (cond (decide (k ∈ ks)) ks (zk_ins ks k)) ks) (cur) (va_A (zy_w h0 ha cA f o ks.length cur) sz)) 0 0 (va_A (zy_w h0 ha cA f o ks.length cur) sz) := by
  refine Met.ofW (cc := cX1_insert) (maxL := 8) (ret := (some .int)) (by decide) rfl ?_
  intro p e s m args below meth c s₁ B hml hv
  obtain ⟨rfl, hsz, hP, hK, hD0⟩ := hv
  have hx := B.exec
  have hb := B.bytes
  have hr := B.returns
  have hts := atoms_spec (ws := wsX1_insert) B.pre
  have hown : s.vm.findClass RX1 = some m.cls := findClass_of_methodNamed B.named
  subst hsz
  have hD := hD0.self (sz := s.heap.size)
  generalize hAe : va_A (zy_w h0 ha cA f o ks.length cur) s.heap.size = A at hD ⊢
  have hA : ∀ q : Nat, s.heap.size ≤ q → A q := fun q h => by rw [← hAe]; exact Or.inr h
  have hS : va_S A s.heap s.heap [] := va_S.rf
  have hP : va_P (dC, dI) vwCl (zy_w h0 ha cA f o ks.length cur) s.heap := hP
  have hl := lv_entry ([.ref h0, .int x, .int y, .int z]) (n := 8) (Nat.le_of_ble_eq_true rfl)
  rw [lg_entry_eq]
  generalize (lg_sl ([.ref h0, .int x, .int y, .int z]) ++ List.replicate (8 - (lg_sl ([.ref h0, .int x, .int y, .int z])).length) Slot.unset).toArray = ls at hl ⊢
  have hl : lv_has ls 8 [(0, .ref h0), (1, .int x), (2, .int y), (3, .int z)] := hl
  cases hz : zf_nn x y z with
  | false =>
    refine lv_iconst (v := 3) hx hb dX1_insert_0 (by decide) ?_
    refine lv_iload_n hx hb dX1_insert_1 rfl (lv_at hl 1 rfl) ?_
    refine lv_iload_n hx hb dX1_insert_2 rfl (lv_at hl 2 rfl) ?_
    refine lv_iload_n hx hb dX1_insert_3 rfl (lv_at hl 3 rfl) ?_
    refine zw_ci (va_runS (As := [.int 3, .int x, .int y, .int z]) (rest := []) ⟨hx, hb, hml, hown, hts⟩ (zd_areNumbers l 3 x y z) (va_cwS 4 hts gX1_insert_X1_areNumbers rfl rfl rfl (by decide +kernel) ⟨Nat.le_of_ble_eq_true rfl, Nat.le_of_ble_eq_true rfl⟩) (preEq) rfl rfl hl.1 rfl (lv_room (Nat.le_of_ble_eq_true rfl)) dX1_insert_4 ⟨Nat.zero_le _, Nat.zero_le _⟩) ?_
    refine zw_eqi (y := zb_I (zf_nn x y z)) (by rw [zf_fn3]) ?_
    refine zw_ifne (tgt := 12) hx hb dX1_insert_7 (by decide) (fun c_7 => absurd ((hz).symm.trans c_7) (by decide)) (fun c_7 => ?_)
    refine lv_iconst (v := (-1)) hx hb dX1_insert_10 (by decide) ?_
    exact W.iret hx hb hr (fun t ht hW => ⟨⟨f, rfl, hG, by rw [ht]; exact hP, va_K.moved hW.alike hK, hD⟩, hS.F ht⟩) hS.2.2 dX1_insert_11
  | true =>
    cases hm : decide (k ∈ ks) with
    | true =>
      refine lv_iconst (v := 3) hx hb dX1_insert_0 (by decide) ?_
      refine lv_iload_n hx hb dX1_insert_1 rfl (lv_at hl 1 rfl) ?_
      refine lv_iload_n hx hb dX1_insert_2 rfl (lv_at hl 2 rfl) ?_
      refine lv_iload_n hx hb dX1_insert_3 rfl (lv_at hl 3 rfl) ?_
      refine zw_ci (va_runS (As := [.int 3, .int x, .int y, .int z]) (rest := []) ⟨hx, hb, hml, hown, hts⟩ (zd_areNumbers l 3 x y z) (va_cwS 4 hts gX1_insert_X1_areNumbers rfl rfl rfl (by decide +kernel) ⟨Nat.le_of_ble_eq_true rfl, Nat.le_of_ble_eq_true rfl⟩) (preEq) rfl rfl hl.1 rfl (lv_room (Nat.le_of_ble_eq_true rfl)) dX1_insert_4 ⟨Nat.zero_le _, Nat.zero_le _⟩) ?_
      refine zw_eqi (y := zb_I (zf_nn x y z)) (by rw [zf_fn3]) ?_
      refine zw_ifne (tgt := 12) hx hb dX1_insert_7 (by decide) (fun c_7 => ?_) (fun c_7 => absurd ((hz).symm.trans c_7) (by decide))
      refine lv_aload_n hx hb dX1_insert_12 rfl (lv_at hl 0 rfl) ?_
      refine lv_iload_n hx hb dX1_insert_13 rfl (lv_at hl 1 rfl) ?_
      refine lv_iload_n hx hb dX1_insert_14 rfl (lv_at hl 2 rfl) ?_
      refine lv_iload_n hx hb dX1_insert_15 rfl (lv_at hl 3 rfl) ?_
      refine zw_cl (va_runV (As := [.int x, .int y, .int z]) (rest := []) ⟨hx, hb, hml, hown, hts⟩ (zd_key l dC dI h0 ha cA f o ks cur x y z ho) (cwV 3 hts gX1_insert_X1_key rfl rfl rfl (by decide +kernel) ⟨Nat.le_of_ble_eq_true rfl, Nat.le_of_ble_eq_true rfl⟩) (zw_preV (ci := 1) (q0 := 0) hP hK rfl rfl) rfl rfl hl.1 rfl (lv_room (Nat.le_of_ble_eq_true rfl)) dX1_insert_16 ⟨Nat.zero_le _, Nat.zero_le _⟩) ?_
      refine zw_eql (y := lN k) ((hk hz).1) ?_
      refine lv_lstore (lv' := [(4, .long (lN k)), (0, .ref h0), (1, .int x), (2, .int y), (3, .int z)]) hx hb dX1_insert_19 hl (by decide) rfl (fun ls hl => ?_)
      refine lv_aload_n hx hb dX1_insert_21 rfl (lv_at hl 1 rfl) ?_
      refine lv_lload hx hb dX1_insert_22 (lv_at hl 0 rfl) ?_
      refine zw_ci (va_runV (As := [.long (lN k)]) (rest := []) ⟨hx, hb, hml, hown, hts⟩ (zd_below l dC dI h0 ha cA f o ks cur k (Nat.le_of_lt (hk hz).2) hG) (cwV 1 hts gX1_insert_X1_below rfl rfl rfl (by decide +kernel) ⟨Nat.le_of_ble_eq_true rfl, Nat.le_of_ble_eq_true rfl⟩) (zw_preV (ci := 1) (q0 := 0) hP hK rfl rfl) rfl rfl hl.1 rfl (lv_room (Nat.le_of_ble_eq_true rfl)) dX1_insert_24 ⟨Nat.zero_le _, Nat.zero_le _⟩) ?_
      refine lv_istore (lv' := [(6, .int (nI (zk_c ks k))), (4, .long (lN k)), (0, .ref h0), (1, .int x), (2, .int y), (3, .int z)]) hx hb dX1_insert_27 hl (by decide) rfl (fun ls hl => ?_)
      refine lv_aload_n hx hb dX1_insert_29 rfl (lv_at hl 2 rfl) ?_
      refine lv_iload hx hb dX1_insert_30 (lv_at hl 0 rfl) ?_
      refine lv_lload hx hb dX1_insert_32 (lv_at hl 1 rfl) ?_
      refine zw_ci (va_runV (As := [.int (nI (zk_c ks k)), .long (lN k)]) (rest := []) ⟨hx, hb, hml, hown, hts⟩ (zd_isThere l dC dI h0 ha cA f o ks cur (zk_c ks k) k (zk_c_le ks k) (Nat.le_of_lt (hk hz).2) hG) (cwV 2 hts gX1_insert_X1_isThere rfl rfl rfl (by decide +kernel) ⟨Nat.le_of_ble_eq_true rfl, Nat.le_of_ble_eq_true rfl⟩) (zw_preV (ci := 1) (q0 := 0) hP hK rfl rfl) rfl rfl hl.1 rfl (lv_room (Nat.le_of_ble_eq_true rfl)) dX1_insert_34 ⟨Nat.zero_le _, Nat.zero_le _⟩) ?_
      refine zw_eqi (y := zb_I (decide (k ∈ ks))) (by rw [zk_mem_b hG.1]) ?_
      refine zw_ifeq (tgt := 42) hx hb dX1_insert_37 (by decide) (fun c_37 => absurd ((hm).symm.trans c_37) (by decide)) (fun c_37 => ?_)
      refine lv_iconst (v := 0) hx hb dX1_insert_40 (by decide) ?_
      exact W.iret hx hb hr (fun t ht hW => ⟨⟨f, rfl, hG, by rw [ht]; exact hP, va_K.moved hW.alike hK, hD⟩, hS.F ht⟩) hS.2.2 dX1_insert_41
    | false =>
      have hkn := of_decide_eq_false hm
      have hn3 := hG.2.2.1
      have hCl := zk_c_le ks k
      generalize hCe : zk_c ks k = C at hCl
      refine lv_iconst (v := 3) hx hb dX1_insert_0 (by decide) ?_
      refine lv_iload_n hx hb dX1_insert_1 rfl (lv_at hl 1 rfl) ?_
      refine lv_iload_n hx hb dX1_insert_2 rfl (lv_at hl 2 rfl) ?_
      refine lv_iload_n hx hb dX1_insert_3 rfl (lv_at hl 3 rfl) ?_
      refine zw_ci (va_runS (As := [.int 3, .int x, .int y, .int z]) (rest := []) ⟨hx, hb, hml, hown, hts⟩ (zd_areNumbers l 3 x y z) (va_cwS 4 hts gX1_insert_X1_areNumbers rfl rfl rfl (by decide +kernel) ⟨Nat.le_of_ble_eq_true rfl, Nat.le_of_ble_eq_true rfl⟩) (preEq) rfl rfl hl.1 rfl (lv_room (Nat.le_of_ble_eq_true rfl)) dX1_insert_4 ⟨Nat.zero_le _, Nat.zero_le _⟩) ?_
      refine zw_eqi (y := zb_I (zf_nn x y z)) (by rw [zf_fn3]) ?_
      refine zw_ifne (tgt := 12) hx hb dX1_insert_7 (by decide) (fun c_7 => ?_) (fun c_7 => absurd ((hz).symm.trans c_7) (by decide))
      refine lv_aload_n hx hb dX1_insert_12 rfl (lv_at hl 0 rfl) ?_
      refine lv_iload_n hx hb dX1_insert_13 rfl (lv_at hl 1 rfl) ?_
      refine lv_iload_n hx hb dX1_insert_14 rfl (lv_at hl 2 rfl) ?_
      refine lv_iload_n hx hb dX1_insert_15 rfl (lv_at hl 3 rfl) ?_
      refine zw_cl (va_runV (As := [.int x, .int y, .int z]) (rest := []) ⟨hx, hb, hml, hown, hts⟩ (zd_key l dC dI h0 ha cA f o ks cur x y z ho) (cwV 3 hts gX1_insert_X1_key rfl rfl rfl (by decide +kernel) ⟨Nat.le_of_ble_eq_true rfl, Nat.le_of_ble_eq_true rfl⟩) (zw_preV (ci := 1) (q0 := 0) hP hK rfl rfl) rfl rfl hl.1 rfl (lv_room (Nat.le_of_ble_eq_true rfl)) dX1_insert_16 ⟨Nat.zero_le _, Nat.zero_le _⟩) ?_
      refine zw_eql (y := lN k) ((hk hz).1) ?_
      refine lv_lstore (lv' := [(4, .long (lN k)), (0, .ref h0), (1, .int x), (2, .int y), (3, .int z)]) hx hb dX1_insert_19 hl (by decide) rfl (fun ls hl => ?_)
      refine lv_aload_n hx hb dX1_insert_21 rfl (lv_at hl 1 rfl) ?_
      refine lv_lload hx hb dX1_insert_22 (lv_at hl 0 rfl) ?_
      refine zw_ci (va_runV (As := [.long (lN k)]) (rest := []) ⟨hx, hb, hml, hown, hts⟩ (zd_below l dC dI h0 ha cA f o ks cur k (Nat.le_of_lt (hk hz).2) hG) (cwV 1 hts gX1_insert_X1_below rfl rfl rfl (by decide +kernel) ⟨Nat.le_of_ble_eq_true rfl, Nat.le_of_ble_eq_true rfl⟩) (zw_preV (ci := 1) (q0 := 0) hP hK rfl rfl) rfl rfl hl.1 rfl (lv_room (Nat.le_of_ble_eq_true rfl)) dX1_insert_24 ⟨Nat.zero_le _, Nat.zero_le _⟩) ?_
      refine zw_eqi (y := nI C) (by rw [hCe]) ?_
      refine lv_istore (lv' := [(6, .int (nI C)), (4, .long (lN k)), (0, .ref h0), (1, .int x), (2, .int y), (3, .int z)]) hx hb dX1_insert_27 hl (by decide) rfl (fun ls hl => ?_)
      refine lv_aload_n hx hb dX1_insert_29 rfl (lv_at hl 2 rfl) ?_
      refine lv_iload hx hb dX1_insert_30 (lv_at hl 0 rfl) ?_
      refine lv_lload hx hb dX1_insert_32 (lv_at hl 1 rfl) ?_
      refine zw_ci (va_runV (As := [.int (nI C), .long (lN k)]) (rest := []) ⟨hx, hb, hml, hown, hts⟩ (zd_isThere l dC dI h0 ha cA f o ks cur C k hCl (Nat.le_of_lt (hk hz).2) hG) (cwV 2 hts gX1_insert_X1_isThere rfl rfl rfl (by decide +kernel) ⟨Nat.le_of_ble_eq_true rfl, Nat.le_of_ble_eq_true rfl⟩) (zw_preV (ci := 1) (q0 := 0) hP hK rfl rfl) rfl rfl hl.1 rfl (lv_room (Nat.le_of_ble_eq_true rfl)) dX1_insert_34 ⟨Nat.zero_le _, Nat.zero_le _⟩) ?_
      refine zw_eqi (y := zb_I (decide (k ∈ ks))) (by rw [← hCe, zk_mem_b hG.1]) ?_
      refine zw_ifeq (tgt := 42) hx hb dX1_insert_37 (by decide) (fun c_37 => ?_) (fun c_37 => absurd ((hm).symm.trans c_37) (by decide))
      refine lv_aload_n hx hb dX1_insert_42 rfl (lv_at hl 2 rfl) ?_
      refine va_get (D := (dC, dI)) (ci := 1) (v := .int (nI ks.length)) (C := RX1) (T := TX1) (N := 4) hx hb hts (by decide +kernel) hown hK hP 0 rfl rfl 1 (by decide) (hts (.fieldLink RX1 40 "PageIndexModel" "size" "I") (by decide +kernel)) (fun _ h9 => h9) rfl dX1_insert_43 ?_
      refine lv_sipush (v := 20000) hx hb dX1_insert_46 (by decide) ?_
      refine lv_icmp_ne (tgt := 55) hx hb dX1_insert_49 (by decide) (fun c_49 => ?_) (fun c_49 => absurd c_49 (fun q => absurd ((nI_eq (b := 20000) (by omega) (by omega)).mp q) (by omega)))
      refine lv_aload_n hx hb dX1_insert_55 rfl (lv_at hl 2 rfl) ?_
      refine va_get (D := (dC, dI)) (ci := 1) (v := .int (nI ks.length)) (C := RX1) (T := TX1) (N := 4) hx hb hts (by decide +kernel) hown hK hP 0 rfl rfl 1 (by decide) (hts (.fieldLink RX1 40 "PageIndexModel" "size" "I") (by decide +kernel)) (fun _ h9 => h9) rfl dX1_insert_56 ?_
      refine lv_istore (lv' := [(7, .int (nI ks.length)), (6, .int (nI C)), (4, .long (lN k)), (0, .ref h0), (1, .int x), (2, .int y), (3, .int z)]) hx hb dX1_insert_59 hl (by decide) rfl (fun ls hl => ?_)
      have LOOP : ∀ (r i : Nat), C + r = i → i ≤ ks.length → ∀ (H : Heap) (locs : List Loc), va_P (dC, dI) vwCl (zy_w h0 ha cA (va_cpy f f i (i + 1) (ks.length - i)) o ks.length cur) H → va_D A (zy_w h0 ha cA (va_cpy f f i (i + 1) (ks.length - i)) o ks.length cur) → va_S A s.heap H locs → ∀ ls : Array Slot, lv_has ls 8 [(7, .int (nI i)), (6, .int (nI C)), (4, .long (lN k)), (0, .ref h0)] → W p l e (headSpec wsX1_insert ({ frames := 2, cells := 0, slots := 0, locals := 48 })).room s m [.ref h0, .int x, .int y, .int z].toArray below meth c H locs 0 0 (MQ below (zy_Q dC dI h0 ha cA o (some (.int (cond true (cond false 0 1) (-1)))) (cond true (cond false ks (zk_ins ks k)) ks) (cur) A) [.ref h0, .int x, .int y, .int z].toArray s 0 0 A) (F0 m 61 ls []) := by
        intro r
        induction r with
        | zero =>
          intro i h1 h2 H locs hP hD hS ls hl
          have ei : i = C := by omega
          subst ei
          refine lv_iload hx hb dX1_insert_61 (lv_at hl 0 rfl) ?_
          refine lv_iload hx hb dX1_insert_63 (lv_at hl 1 rfl) ?_
          refine lv_icmp_le (tgt := 90) hx hb dX1_insert_65 (by decide) (fun c_65 => ?_) (fun c_65 => absurd (nI_le (Nat.le_refl _) (by omega)) c_65)
          refine lv_aload_n hx hb dX1_insert_90 rfl (lv_at hl 3 rfl) ?_
          refine va_get (D := (dC, dI)) (ci := 1) (v := .ref ha) (C := RX1) (T := TX1) (N := 4) hx hb hts (by decide +kernel) hown hK hP 0 rfl rfl 0 (by decide) (hts (.fieldLink RX1 7 "PageIndexModel" "keys" "[J") (by decide +kernel)) (fun _ h9 => h9) rfl dX1_insert_91 ?_
          refine lv_iload hx hb dX1_insert_94 (lv_at hl 1 rfl) ?_
          refine lv_lload hx hb dX1_insert_96 (lv_at hl 2 rfl) ?_
          refine va_last hx hb hK hP hD hS 1 0 rfl rfl (pk_in i 20000 (by omega) rfl (by omega)) dX1_insert_98 (fun H locs hP hD hS => ?_)
          rw [nI_clamp (n := i) (by omega)] at hP hD
          have hP : va_P (dC, dI) vwCl (zy_w h0 ha cA (vp_updL (va_cpy f f i (i + 1) (ks.length - i)) i (lN k)) o ks.length cur) H := hP
          have hD : va_D A (zy_w h0 ha cA (vp_updL (va_cpy f f i (i + 1) (ks.length - i)) i (lN k)) o ks.length cur) := hD
          refine lv_aload_n hx hb dX1_insert_99 rfl (lv_at hl 3 rfl) ?_
          refine lv_dup hx hb dX1_insert_100 rfl ?_
          refine va_get (D := (dC, dI)) (ci := 1) (v := .int (nI ks.length)) (C := RX1) (T := TX1) (N := 4) hx hb hts (by decide +kernel) hown hK hP 0 rfl rfl 1 (by decide) (hts (.fieldLink RX1 40 "PageIndexModel" "size" "I") (by decide +kernel)) (fun _ h9 => h9) rfl dX1_insert_101 ?_
          refine lv_iconst (v := 1) hx hb dX1_insert_104 (by decide) ?_
          refine lv_iadd hx hb dX1_insert_105 ?_
          refine zw_eqi (y := nI (zk_ins ks k).length) (by rw [zk_ins_len]; exact nI_1 _) ?_
          refine va_put (D := (dC, dI)) (ci := 1) (v := .int (nI (zk_ins ks k).length)) (ty := .int) (C := RX1) (T := TX1) (N := 4) hx hb hts (by decide +kernel) tyX1 tyX1_ok nmX1 hown hK hP hD hS 0 rfl rfl 1 (by decide) (hts (.fieldLink RX1 40 "PageIndexModel" "size" "I") (by decide +kernel)) (fun _ h9 => h9) rfl (by decide +kernel) rfl rfl (Nat.le_of_ble_eq_true rfl) dX1_insert_106 (fun H locs hP hD hS => ?_)
          have hP : va_P (dC, dI) vwCl (zy_w h0 ha cA (vp_updL (va_cpy f f i (i + 1) (ks.length - i)) i (lN k)) o ((zk_ins ks k).length) cur) H := hP
          have hD : va_D A (zy_w h0 ha cA (vp_updL (va_cpy f f i (i + 1) (ks.length - i)) i (lN k)) o ((zk_ins ks k).length) cur) := hD
          refine lv_iconst (v := 1) hx hb dX1_insert_109 (by decide) ?_
          exact W.iret hx hb hr (fun t ht hW => ⟨⟨vp_updL (va_cpy f f i (i + 1) (ks.length - i)) i (lN k), rfl, by rw [← hCe]; exact zk_R_ins hG hkn (hk hz).2 (by omega), by rw [ht]; exact hP, va_K.moved hW.alike hK, hD⟩, hS.F ht⟩) hS.2.2 dX1_insert_110
        | succ r ih =>
          intro i h1 h2 H locs hP hD hS ls hl
          refine lv_iload hx hb dX1_insert_61 (lv_at hl 0 rfl) ?_
          refine lv_iload hx hb dX1_insert_63 (lv_at hl 1 rfl) ?_
          refine lv_icmp_le (tgt := 90) hx hb dX1_insert_65 (by decide) (fun c_65 => absurd c_65 (fun q => absurd ((nI_leI (by omega) (by omega)).mp q) (by omega))) (fun c_65 => ?_)
          refine lv_aload_n hx hb dX1_insert_68 rfl (lv_at hl 3 rfl) ?_
          refine va_get (D := (dC, dI)) (ci := 1) (v := .ref ha) (C := RX1) (T := TX1) (N := 4) hx hb hts (by decide +kernel) hown hK hP 0 rfl rfl 0 (by decide) (hts (.fieldLink RX1 7 "PageIndexModel" "keys" "[J") (by decide +kernel)) (fun _ h9 => h9) rfl dX1_insert_69 ?_
          refine lv_iload hx hb dX1_insert_72 (lv_at hl 0 rfl) ?_
          refine lv_aload_n hx hb dX1_insert_74 rfl (lv_at hl 3 rfl) ?_
          refine va_get (D := (dC, dI)) (ci := 1) (v := .ref ha) (C := RX1) (T := TX1) (N := 4) hx hb hts (by decide +kernel) hown hK hP 0 rfl rfl 0 (by decide) (hts (.fieldLink RX1 7 "PageIndexModel" "keys" "[J") (by decide +kernel)) (fun _ h9 => h9) rfl dX1_insert_75 ?_
          refine lv_iload hx hb dX1_insert_78 (lv_at hl 0 rfl) ?_
          refine lv_iconst (v := 1) hx hb dX1_insert_80 (by decide) ?_
          refine lv_isub hx hb dX1_insert_81 ?_
          refine zw_eqi (y := nI (i - 1)) (pk_sub (b := 1) (by omega)) ?_
          refine va_lald hx hb hK hP 1 0 rfl rfl (pk_in (i - 1) 20000 (by omega) rfl (by omega)) dX1_insert_82 ?_
          refine zw_eql (y := va_cpy f f i (i + 1) (ks.length - i) (i - 1)) (by rw [nI_clamp (by omega)]) ?_
          refine va_last hx hb hK hP hD hS 1 0 rfl rfl (pk_in i 20000 (by omega) rfl (by omega)) dX1_insert_83 (fun H locs hP hD hS => ?_)
          rw [nI_clamp (n := i) (by omega), zk_upw (by omega) h2] at hP hD
          have hP : va_P (dC, dI) vwCl (zy_w h0 ha cA (va_cpy f f (i - 1) ((i - 1) + 1) (ks.length - ((i - 1)))) o ks.length cur) H := hP
          have hD : va_D A (zy_w h0 ha cA (va_cpy f f (i - 1) ((i - 1) + 1) (ks.length - ((i - 1)))) o ks.length cur) := hD
          refine lv_iinc (v := nI (i - 1)) (lv' := [(7, .int (nI (i - 1))), (6, .int (nI C)), (4, .long (lN k)), (0, .ref h0)]) hx hb dX1_insert_84 hl (k := 0) rfl (sb_m1 (by omega)) (by decide) rfl (fun ls hl => ?_)
          refine lv_goto (tgt := 61) hx hb dX1_insert_87 (by decide) ?_
          exact ih (i - 1) (by omega) (by omega) H locs hP hD hS ls (lv_sub hl [0, 1, 2, 3] rfl)
      have hP : va_P (dC, dI) vwCl (zy_w h0 ha cA (va_cpy f f ks.length (ks.length + 1) (ks.length - ks.length)) o ks.length cur) s.heap := by rw [Nat.sub_self, zk_cpy0]; exact hP
      have hD : va_D A (zy_w h0 ha cA (va_cpy f f ks.length (ks.length + 1) (ks.length - ks.length)) o ks.length cur) := by rw [Nat.sub_self, zk_cpy0]; exact hD
      exact LOOP (ks.length - C) ks.length (by omega) (Nat.le_refl _) s.heap [] hP hD hS ls (lv_sub hl [0, 1, 2, 3] rfl)
