set_option maxHeartbeats 4000000 in
set_option maxRecDepth 100000 in
/-- below(k) -/
theorem zd_below (l : Launch) (dC : Nat → ClassId) (dI : Nat → Nat → Nat) (h0 ha : Nat) (cA : ClassId) (f : Nat → Int64) (o : Nat) (ks : List Nat) (cur : Int64) (k : Nat) (hk60 : k ≤ 1152921504606846976) (hG : zk_R ks f) : Met l yX1_below wsX1_below ({ frames := 0, cells := 0, slots := 0, locals := 0 }) (zw_P [.ref h0, .long (lN k)] (dC, dI) vwCl (zy_w h0 ha cA f o ks.length cur) [(cA, .long)]) (zw_Q (some (.int (nI (zk_c ks k))))) 0 0 (fun _ => False) := by
  refine Met.ofW (cc := cX1_below) (maxL := 4) (ret := (some .int)) (by decide) rfl ?_
  intro p e s m args below meth c s₁ B hml hv
  obtain ⟨rfl, hP, hK⟩ := hv
  have hx := B.exec
  have hb := B.bytes
  have hr := B.returns
  have hts := atoms_spec (ws := wsX1_below) B.pre
  have hown : s.vm.findClass RX1 = some m.cls := findClass_of_methodNamed B.named
  have hl := lv_entry ([.ref h0, .long (lN k)]) (n := 4) (Nat.le_of_ble_eq_true rfl)
  rw [lg_entry_eq]
  generalize (lg_sl ([.ref h0, .long (lN k)]) ++ List.replicate (4 - (lg_sl ([.ref h0, .long (lN k)])).length) Slot.unset).toArray = ls at hl ⊢
  have hl : lv_has ls 4 [(0, .ref h0), (1, .long (lN k))] := hl
  have hP : va_P (dC, dI) vwCl (zy_w h0 ha cA f o ks.length cur) s.heap := hP
  obtain ⟨hs, h60, hn, hf⟩ := hG
  have hCl := zk_c_le ks k
  have LOOP : ∀ (r i : Nat), i + r = zk_c ks k → ∀ ls : Array Slot, lv_has ls 4 [(3, .int (nI i)), (0, .ref h0), (1, .long (lN k))] → W p l e (headSpec wsX1_below ({ frames := 0, cells := 0, slots := 0, locals := 0 })).room s m [.ref h0, .long (lN k)].toArray below meth c s.heap [] 0 0 (MQ below (zw_Q (some (.int (nI (zk_c ks k))))) [.ref h0, .long (lN k)].toArray s 0 0 (fun _ => False)) (F0 m 2 ls []) := by
    intro r
    induction r with
    | zero =>
      intro i h1 ls hl
      have ei : i = zk_c ks k := by omega
      refine lv_iload_n hx hb dX1_below_2 rfl (lv_at hl 0 rfl) ?_
      refine lv_aload_n hx hb dX1_below_3 rfl (lv_at hl 1 rfl) ?_
      refine va_get (D := (dC, dI)) (ci := 1) (v := .int (nI ks.length)) (C := RX1) (T := TX1) (N := 4) hx hb hts (by decide +kernel) hown hK hP 0 rfl rfl 1 (by decide) (hts (.fieldLink RX1 40 "PageIndexModel" "size" "I") (by decide +kernel)) (fun _ h9 => h9) rfl dX1_below_4 ?_
      refine lv_icmp_ge (tgt := 27) hx hb dX1_below_7 (by decide) (fun c_7 => ?_) (fun c_7 => ?_)
      · have h7 : ks.length ≤ i := (nI_leI (by omega) (by omega)).mp c_7
        refine lv_iload_n hx hb dX1_below_27 rfl (lv_at hl 0 rfl) ?_
        refine zw_eqi (y := nI (zk_c ks k)) (by rw [ei]) ?_
        exact W.iret hx hb hr (fun t ht hW => ⟨rfl, ht⟩) (fun q h => by cases h) dX1_below_28
      · have h7 : i < ks.length := Nat.lt_of_not_le (fun z => c_7 (nI_le z (by omega)))
        have hkey := zk_lt ks k hs i h7
        have hkb := h60 _ (zk_mem_getD h7)
        refine lv_aload_n hx hb dX1_below_10 rfl (lv_at hl 1 rfl) ?_
        refine va_get (D := (dC, dI)) (ci := 1) (v := .ref ha) (C := RX1) (T := TX1) (N := 4) hx hb hts (by decide +kernel) hown hK hP 0 rfl rfl 0 (by decide) (hts (.fieldLink RX1 7 "PageIndexModel" "keys" "[J") (by decide +kernel)) (fun _ h9 => h9) rfl dX1_below_11 ?_
        refine lv_iload_n hx hb dX1_below_14 rfl (lv_at hl 0 rfl) ?_
        refine va_lald hx hb hK hP 1 0 rfl rfl (pk_in i 20000 (by omega) rfl (by omega)) dX1_below_15 ?_
        refine zw_eql (y := lN (ks.getD i 0)) (by rw [nI_clamp (by omega)]; exact hf _ (by omega)) ?_
        refine lv_lload_n hx hb dX1_below_16 rfl (lv_at hl 2 rfl) ?_
        refine W.lcmp hx hb dX1_below_17 ?_
        refine lv_if_ge (tgt := 27) hx hb dX1_below_18 (by decide) (fun c_18 => ?_) (fun c_18 => absurd ((lg_cmp_ge _ _).mpr ((pk_lLE (by omega) (by omega)).mpr (by omega))) c_18)
        refine lv_iload_n hx hb dX1_below_27 rfl (lv_at hl 0 rfl) ?_
        refine zw_eqi (y := nI (zk_c ks k)) (by rw [ei]) ?_
        exact W.iret hx hb hr (fun t ht hW => ⟨rfl, ht⟩) (fun q h => by cases h) dX1_below_28
    | succ r ih =>
      intro i h1 ls hl
      have hil : i < ks.length := by omega
      have hkey := zk_lt ks k hs i hil
      have hkb := h60 _ (zk_mem_getD hil)
      refine lv_iload_n hx hb dX1_below_2 rfl (lv_at hl 0 rfl) ?_
      refine lv_aload_n hx hb dX1_below_3 rfl (lv_at hl 1 rfl) ?_
      refine va_get (D := (dC, dI)) (ci := 1) (v := .int (nI ks.length)) (C := RX1) (T := TX1) (N := 4) hx hb hts (by decide +kernel) hown hK hP 0 rfl rfl 1 (by decide) (hts (.fieldLink RX1 40 "PageIndexModel" "size" "I") (by decide +kernel)) (fun _ h9 => h9) rfl dX1_below_4 ?_
      refine lv_icmp_ge (tgt := 27) hx hb dX1_below_7 (by decide) (fun c_7 => absurd c_7 (nI_ge hil (by omega))) (fun c_7 => ?_)
      refine lv_aload_n hx hb dX1_below_10 rfl (lv_at hl 1 rfl) ?_
      refine va_get (D := (dC, dI)) (ci := 1) (v := .ref ha) (C := RX1) (T := TX1) (N := 4) hx hb hts (by decide +kernel) hown hK hP 0 rfl rfl 0 (by decide) (hts (.fieldLink RX1 7 "PageIndexModel" "keys" "[J") (by decide +kernel)) (fun _ h9 => h9) rfl dX1_below_11 ?_
      refine lv_iload_n hx hb dX1_below_14 rfl (lv_at hl 0 rfl) ?_
      refine va_lald hx hb hK hP 1 0 rfl rfl (pk_in i 20000 (by omega) rfl (by omega)) dX1_below_15 ?_
      refine zw_eql (y := lN (ks.getD i 0)) (by rw [nI_clamp (by omega)]; exact hf _ (by omega)) ?_
      refine lv_lload_n hx hb dX1_below_16 rfl (lv_at hl 2 rfl) ?_
      refine W.lcmp hx hb dX1_below_17 ?_
      refine lv_if_ge (tgt := 27) hx hb dX1_below_18 (by decide) (fun c_18 => absurd c_18 (fun q => absurd ((pk_lLE (by omega) (by omega)).mp ((lg_cmp_ge _ _).mp q)) (by omega))) (fun c_18 => ?_)
      refine lv_iinc (v := nI (i + 1)) (lv' := [(3, .int (nI (i + 1))), (0, .ref h0), (1, .long (lN k))]) hx hb dX1_below_21 hl (k := 0) rfl (nI_1 _) (by decide) rfl (fun ls hl => ?_)
      refine lv_goto (tgt := 2) hx hb dX1_below_24 (by decide) ?_
      exact ih (i + 1) (by omega) ls (lv_sub hl [0, 1, 2] rfl)
  refine lv_iconst (v := 0) hx hb dX1_below_0 (by decide) ?_
  refine zw_eqi (y := nI 0) (nI_0.symm) ?_
  refine lv_istore_n (lv' := [(3, .int (nI 0)), (0, .ref h0), (1, .long (lN k))]) hx hb dX1_below_1 rfl hl (by decide) rfl (fun ls hl => ?_)
  exact LOOP (zk_c ks k) 0 (by omega) ls hl
set_option maxHeartbeats 4000000 in
set_option maxRecDepth 100000 in
/-- isThere(C, k) -/
theorem zd_isThere (l : Launch) (dC : Nat → ClassId) (dI : Nat → Nat → Nat) (h0 ha : Nat) (cA : ClassId) (f : Nat → Int64) (o : Nat) (ks : List Nat) (cur : Int64) (C k : Nat) (hC : C ≤ ks.length) (hk60 : k ≤ 1152921504606846976) (hG : zk_R ks f) : Met l yX1_isThere wsX1_isThere ({ frames := 0, cells := 0, slots := 0, locals := 0 }) (zw_P [.ref h0, .int (nI C), .long (lN k)] (dC, dI) vwCl (zy_w h0 ha cA f o ks.length cur) [(cA, .long)]) (zw_Q (some (.int (zb_I (decide (C < ks.length) && decide (ks.getD C 0 = k)))))) 0 0 (fun _ => False) := by
  refine Met.ofW (cc := cX1_isThere) (maxL := 4) (ret := (some .boolean)) (by decide) rfl ?_
  intro p e s m args below meth c s₁ B hml hv
  obtain ⟨rfl, hP, hK⟩ := hv
  have hx := B.exec
  have hb := B.bytes
  have hr := B.returns
  have hts := atoms_spec (ws := wsX1_isThere) B.pre
  have hown : s.vm.findClass RX1 = some m.cls := findClass_of_methodNamed B.named
  have hl := lv_entry ([.ref h0, .int (nI C), .long (lN k)]) (n := 4) (Nat.le_of_ble_eq_true rfl)
  rw [lg_entry_eq]
  generalize (lg_sl ([.ref h0, .int (nI C), .long (lN k)]) ++ List.replicate (4 - (lg_sl ([.ref h0, .int (nI C), .long (lN k)])).length) Slot.unset).toArray = ls at hl ⊢
  have hl : lv_has ls 4 [(0, .ref h0), (1, .int (nI C)), (2, .long (lN k))] := hl
  have hP : va_P (dC, dI) vwCl (zy_w h0 ha cA f o ks.length cur) s.heap := hP
  obtain ⟨hs, h60, hn, hf⟩ := hG
  refine lv_iload_n hx hb dX1_isThere_0 rfl (lv_at hl 1 rfl) ?_
  refine lv_aload_n hx hb dX1_isThere_1 rfl (lv_at hl 0 rfl) ?_
  refine va_get (D := (dC, dI)) (ci := 1) (v := .int (nI ks.length)) (C := RX1) (T := TX1) (N := 4) hx hb hts (by decide +kernel) hown hK hP 0 rfl rfl 1 (by decide) (hts (.fieldLink RX1 40 "PageIndexModel" "size" "I") (by decide +kernel)) (fun _ h9 => h9) rfl dX1_isThere_2 ?_
  refine lv_icmp_ge (tgt := 23) hx hb dX1_isThere_5 (by decide) (fun c_5 => ?_) (fun c_5 => ?_)
  · have h9 : ¬ C < ks.length := by have q := (nI_leI (by omega) (by omega)).mp c_5; omega
    refine lv_iconst (v := 0) hx hb dX1_isThere_23 (by decide) ?_
    refine zw_eqi (y := zb_I (decide (C < ks.length) && decide (ks.getD C 0 = k))) (by simp only [h9, decide_true, decide_false, Bool.true_and, Bool.false_and, eq_self]; rfl) ?_
    exact W.zret hx hb hr (zb_nar _) (fun t ht hW => ⟨rfl, ht⟩) (fun q h => by cases h) dX1_isThere_24
  · have h9 : C < ks.length := Nat.lt_of_not_le (fun z => c_5 (nI_le z (by omega)))
    have hkb := h60 _ (zk_mem_getD (ks := ks) (j := C) h9)
    refine lv_aload_n hx hb dX1_isThere_8 rfl (lv_at hl 0 rfl) ?_
    refine va_get (D := (dC, dI)) (ci := 1) (v := .ref ha) (C := RX1) (T := TX1) (N := 4) hx hb hts (by decide +kernel) hown hK hP 0 rfl rfl 0 (by decide) (hts (.fieldLink RX1 7 "PageIndexModel" "keys" "[J") (by decide +kernel)) (fun _ h9 => h9) rfl dX1_isThere_9 ?_
    refine lv_iload_n hx hb dX1_isThere_12 rfl (lv_at hl 1 rfl) ?_
    refine va_lald hx hb hK hP 1 0 rfl rfl (pk_in C 20000 (by omega) rfl (by omega)) dX1_isThere_13 ?_
    refine zw_eql (y := lN (ks.getD C 0)) (by rw [nI_clamp (by omega)]; exact hf _ h9) ?_
    refine lv_lload_n hx hb dX1_isThere_14 rfl (lv_at hl 2 rfl) ?_
    refine W.lcmp hx hb dX1_isThere_15 ?_
    refine lv_if_ne (tgt := 23) hx hb dX1_isThere_16 (by decide) (fun c_16 => ?_) (fun c_16 => ?_)
    · have h20 : ¬ ks.getD C 0 = k := fun z => c_16 ((lg_cmp_eq _ _).mpr (by rw [z]))
      refine lv_iconst (v := 0) hx hb dX1_isThere_23 (by decide) ?_
      refine zw_eqi (y := zb_I (decide (C < ks.length) && decide (ks.getD C 0 = k))) (by simp only [h9, h20, decide_true, decide_false, Bool.true_and, Bool.false_and, eq_self]; rfl) ?_
      exact W.zret hx hb hr (zb_nar _) (fun t ht hW => ⟨rfl, ht⟩) (fun q h => by cases h) dX1_isThere_24
    · have h20 : ks.getD C 0 = k := (pk_lEQ (by omega) (by omega)).mp ((lg_cmp_eq _ _).mp c_16)
      refine lv_iconst (v := 1) hx hb dX1_isThere_19 (by decide) ?_
      refine lv_goto (tgt := 24) hx hb dX1_isThere_20 (by decide) ?_
      refine zw_eqi (y := zb_I (decide (C < ks.length) && decide (ks.getD C 0 = k))) (by simp only [h9, h20, decide_true, decide_false, Bool.true_and, Bool.false_and, eq_self]; rfl) ?_
      exact W.zret hx hb hr (zb_nar _) (fun t ht hW => ⟨rfl, ht⟩) (fun q h => by cases h) dX1_isThere_24
set_option maxHeartbeats 4000000 in
set_option maxRecDepth 100000 in
/-- has(x, y, z) -/
theorem zd_has (l : Launch) (dC : Nat → ClassId) (dI : Nat → Nat → Nat) (h0 ha : Nat) (cA : ClassId) (f : Nat → Int64) (o : Nat) (ks : List Nat) (cur : Int64) (x : Int32) (y : Int32) (z : Int32) (ho : o < 6) (k : Nat) (hk : zf_nn x y z = true → zf_ky o x y z = lN k ∧ k < 1152921504606846976) (hG : zk_R ks f) : Met l yX1_has wsX1_has ({ frames := 2, cells := 0, slots := 0, locals := 48 }) (zw_P [.ref h0, .int x, .int y, .int z] (dC, dI) vwCl (zy_w h0 ha cA f o ks.length cur) [(cA, .long)]) (zw_Q (some (.int (if zf_nn x y z then zb_I (decide (k ∈ ks)) else -1)))) 0 0 (fun _ => False) := by
  refine Met.ofW (cc := cX1_has) (maxL := 6) (ret := (some .int)) (by decide) rfl ?_
  intro p e s m args below meth c s₁ B hml hv
  obtain ⟨rfl, hP, hK⟩ := hv
  have hx := B.exec
  have hb := B.bytes
  have hr := B.returns
  have hts := atoms_spec (ws := wsX1_has) B.pre
  have hown : s.vm.findClass RX1 = some m.cls := findClass_of_methodNamed B.named
  have hl := lv_entry ([.ref h0, .int x, .int y, .int z]) (n := 6) (Nat.le_of_ble_eq_true rfl)
  rw [lg_entry_eq]
  generalize (lg_sl ([.ref h0, .int x, .int y, .int z]) ++ List.replicate (6 - (lg_sl ([.ref h0, .int x, .int y, .int z])).length) Slot.unset).toArray = ls at hl ⊢
  have hl : lv_has ls 6 [(0, .ref h0), (1, .int x), (2, .int y), (3, .int z)] := hl
  have hP : va_P (dC, dI) vwCl (zy_w h0 ha cA f o ks.length cur) s.heap := hP
  refine lv_iconst (v := 3) hx hb dX1_has_0 (by decide) ?_
  refine lv_iload_n hx hb dX1_has_1 rfl (lv_at hl 1 rfl) ?_
  refine lv_iload_n hx hb dX1_has_2 rfl (lv_at hl 2 rfl) ?_
  refine lv_iload_n hx hb dX1_has_3 rfl (lv_at hl 3 rfl) ?_
  refine zw_ci (va_runS (As := [.int 3, .int x, .int y, .int z]) (rest := []) ⟨hx, hb, hml, hown, hts⟩ (zd_areNumbers l 3 x y z) (va_cwS 4 hts gX1_has_X1_areNumbers rfl rfl rfl (by decide +kernel) ⟨Nat.le_of_ble_eq_true rfl, Nat.le_of_ble_eq_true rfl⟩) (preEq) rfl rfl hl.1 rfl (lv_room (Nat.le_of_ble_eq_true rfl)) dX1_has_4 ⟨Nat.zero_le _, Nat.zero_le _⟩) ?_
  refine zw_eqi (y := zb_I (zf_nn x y z)) (by rw [zf_fn3]) ?_
  refine zw_ifne (tgt := 12) hx hb dX1_has_7 (by decide) (fun c_7 => ?_) (fun c_7 => ?_)
  · refine lv_aload_n hx hb dX1_has_12 rfl (lv_at hl 0 rfl) ?_
    refine lv_iload_n hx hb dX1_has_13 rfl (lv_at hl 1 rfl) ?_
    refine lv_iload_n hx hb dX1_has_14 rfl (lv_at hl 2 rfl) ?_
    refine lv_iload_n hx hb dX1_has_15 rfl (lv_at hl 3 rfl) ?_
    refine zw_cl (va_runV (As := [.int x, .int y, .int z]) (rest := []) ⟨hx, hb, hml, hown, hts⟩ (zd_key l dC dI h0 ha cA f o ks cur x y z ho) (cwV 3 hts gX1_has_X1_key rfl rfl rfl (by decide +kernel) ⟨Nat.le_of_ble_eq_true rfl, Nat.le_of_ble_eq_true rfl⟩) (zw_preV (ci := 1) (q0 := 0) hP hK rfl rfl) rfl rfl hl.1 rfl (lv_room (Nat.le_of_ble_eq_true rfl)) dX1_has_16 ⟨Nat.zero_le _, Nat.zero_le _⟩) ?_
    refine zw_eql (y := lN k) ((hk c_7).1) ?_
    refine lv_lstore (lv' := [(4, .long (lN k)), (0, .ref h0), (1, .int x), (2, .int y), (3, .int z)]) hx hb dX1_has_19 hl (by decide) rfl (fun ls hl => ?_)
    refine lv_aload_n hx hb dX1_has_21 rfl (lv_at hl 1 rfl) ?_
    refine lv_aload_n hx hb dX1_has_22 rfl (lv_at hl 1 rfl) ?_
    refine lv_lload hx hb dX1_has_23 (lv_at hl 0 rfl) ?_
    refine zw_ci (va_runV (As := [.long (lN k)]) (rest := [.ref h0]) ⟨hx, hb, hml, hown, hts⟩ (zd_below l dC dI h0 ha cA f o ks cur k (Nat.le_of_lt (hk c_7).2) hG) (cwV 1 hts gX1_has_X1_below rfl rfl rfl (by decide +kernel) ⟨Nat.le_of_ble_eq_true rfl, Nat.le_of_ble_eq_true rfl⟩) (zw_preV (ci := 1) (q0 := 0) hP hK rfl rfl) rfl rfl hl.1 rfl (lv_room (Nat.le_of_ble_eq_true rfl)) dX1_has_25 ⟨Nat.zero_le _, Nat.zero_le _⟩) ?_
    refine lv_lload hx hb dX1_has_28 (lv_at hl 0 rfl) ?_
    refine zw_ci (va_runV (As := [.int (nI (zk_c ks k)), .long (lN k)]) (rest := []) ⟨hx, hb, hml, hown, hts⟩ (zd_isThere l dC dI h0 ha cA f o ks cur (zk_c ks k) k (zk_c_le ks k) (Nat.le_of_lt (hk c_7).2) hG) (cwV 2 hts gX1_has_X1_isThere rfl rfl rfl (by decide +kernel) ⟨Nat.le_of_ble_eq_true rfl, Nat.le_of_ble_eq_true rfl⟩) (zw_preV (ci := 1) (q0 := 0) hP hK rfl rfl) rfl rfl hl.1 rfl (lv_room (Nat.le_of_ble_eq_true rfl)) dX1_has_30 ⟨Nat.zero_le _, Nat.zero_le _⟩) ?_
    refine zw_eqi (y := zb_I (decide (k ∈ ks))) (by rw [zk_mem_b hG.1]) ?_
    refine zw_ifeq (tgt := 40) hx hb dX1_has_33 (by decide) (fun c_33 => ?_) (fun c_33 => ?_)
    · refine lv_iconst (v := 0) hx hb dX1_has_40 (by decide) ?_
      refine zw_eqi (y := if zf_nn x y z then zb_I (decide (k ∈ ks)) else -1) (by simp [zb_I, c_7, c_33]) ?_
      exact W.iret hx hb hr (fun t ht hW => ⟨rfl, ht⟩) (fun q h => by cases h) dX1_has_41
    · refine lv_iconst (v := 1) hx hb dX1_has_36 (by decide) ?_
      refine lv_goto (tgt := 41) hx hb dX1_has_37 (by decide) ?_
      refine zw_eqi (y := if zf_nn x y z then zb_I (decide (k ∈ ks)) else -1) (by simp [zb_I, c_7, c_33]) ?_
      exact W.iret hx hb hr (fun t ht hW => ⟨rfl, ht⟩) (fun q h => by cases h) dX1_has_41
  · refine lv_iconst (v := (-1)) hx hb dX1_has_10 (by decide) ?_
    refine zw_eqi (y := if zf_nn x y z then zb_I (decide (k ∈ ks)) else -1) (by simp [zb_I, c_7]) ?_
    exact W.iret hx hb hr (fun t ht hW => ⟨rfl, ht⟩) (fun q h => by cases h) dX1_has_11
set_option maxHeartbeats 4000000 in
set_option maxRecDepth 100000 in
/-- rank(a, b, d) -/
theorem zd_rank (l : Launch) (dC : Nat → ClassId) (dI : Nat → Nat → Nat) (h0 ha : Nat) (cA : ClassId) (f : Nat → Int64) (o : Nat) (ks : List Nat) (cur : Int64) (a : Int32) (b : Int32) (d : Int32) (k : Nat) (hk : zf_nn a b d = true → zf_pk (Int32.toInt64 a) (Int32.toInt64 b) (Int32.toInt64 d) = lN k ∧ k < 1152921504606846976) (hG : zk_R ks f) : Met l yX1_rank wsX1_rank ({ frames := 2, cells := 0, slots := 0, locals := 43 }) (zw_P [.ref h0, .int a, .int b, .int d] (dC, dI) vwCl (zy_w h0 ha cA f o ks.length cur) [(cA, .long)]) (zw_Q (some (.int (if zf_nn a b d then nI (zk_c ks k) else -1)))) 0 0 (fun _ => False) := by
  refine Met.ofW (cc := cX1_rank) (maxL := 4) (ret := (some .int)) (by decide) rfl ?_
  intro p e s m args below meth c s₁ B hml hv
  obtain ⟨rfl, hP, hK⟩ := hv
  have hx := B.exec
  have hb := B.bytes
  have hr := B.returns
  have hts := atoms_spec (ws := wsX1_rank) B.pre
  have hown : s.vm.findClass RX1 = some m.cls := findClass_of_methodNamed B.named
  have hl := lv_entry ([.ref h0, .int a, .int b, .int d]) (n := 4) (Nat.le_of_ble_eq_true rfl)
  rw [lg_entry_eq]
  generalize (lg_sl ([.ref h0, .int a, .int b, .int d]) ++ List.replicate (4 - (lg_sl ([.ref h0, .int a, .int b, .int d])).length) Slot.unset).toArray = ls at hl ⊢
  have hl : lv_has ls 4 [(0, .ref h0), (1, .int a), (2, .int b), (3, .int d)] := hl
  have hP : va_P (dC, dI) vwCl (zy_w h0 ha cA f o ks.length cur) s.heap := hP
  refine lv_iconst (v := 3) hx hb dX1_rank_0 (by decide) ?_
  refine lv_iload_n hx hb dX1_rank_1 rfl (lv_at hl 1 rfl) ?_
  refine lv_iload_n hx hb dX1_rank_2 rfl (lv_at hl 2 rfl) ?_
  refine lv_iload_n hx hb dX1_rank_3 rfl (lv_at hl 3 rfl) ?_
  refine zw_ci (va_runS (As := [.int 3, .int a, .int b, .int d]) (rest := []) ⟨hx, hb, hml, hown, hts⟩ (zd_areNumbers l 3 a b d) (va_cwS 4 hts gX1_rank_X1_areNumbers rfl rfl rfl (by decide +kernel) ⟨Nat.le_of_ble_eq_true rfl, Nat.le_of_ble_eq_true rfl⟩) (preEq) rfl rfl hl.1 rfl (lv_room (Nat.le_of_ble_eq_true rfl)) dX1_rank_4 ⟨Nat.zero_le _, Nat.zero_le _⟩) ?_
  refine zw_eqi (y := zb_I (zf_nn a b d)) (by rw [zf_fn3]) ?_
  refine zw_ifeq (tgt := 26) hx hb dX1_rank_7 (by decide) (fun c_7 => ?_) (fun c_7 => ?_)
  · refine lv_iconst (v := (-1)) hx hb dX1_rank_26 (by decide) ?_
    refine zw_eqi (y := if zf_nn a b d then nI (zk_c ks k) else -1) (by simp [c_7]) ?_
    exact W.iret hx hb hr (fun t ht hW => ⟨rfl, ht⟩) (fun q h => by cases h) dX1_rank_27
  · refine lv_aload_n hx hb dX1_rank_10 rfl (lv_at hl 0 rfl) ?_
    refine lv_iload_n hx hb dX1_rank_11 rfl (lv_at hl 1 rfl) ?_
    refine lv_i2l (v := Int32.toInt64 a) hx hb dX1_rank_12 rfl ?_
    refine lv_iload_n hx hb dX1_rank_13 rfl (lv_at hl 2 rfl) ?_
    refine lv_i2l (v := Int32.toInt64 b) hx hb dX1_rank_14 rfl ?_
    refine lv_iload_n hx hb dX1_rank_15 rfl (lv_at hl 3 rfl) ?_
    refine lv_i2l (v := Int32.toInt64 d) hx hb dX1_rank_16 rfl ?_
    refine zw_cl (va_runS (As := [.long (Int32.toInt64 a), .long (Int32.toInt64 b), .long (Int32.toInt64 d)]) (rest := [.ref h0]) ⟨hx, hb, hml, hown, hts⟩ (zd_packed l (Int32.toInt64 a) (Int32.toInt64 b) (Int32.toInt64 d)) (va_cwS 3 hts gX1_rank_X1_packed rfl rfl rfl (by decide +kernel) ⟨Nat.le_of_ble_eq_true rfl, Nat.le_of_ble_eq_true rfl⟩) (preEq) rfl rfl hl.1 rfl (lv_room (Nat.le_of_ble_eq_true rfl)) dX1_rank_17 ⟨Nat.zero_le _, Nat.zero_le _⟩) ?_
    refine zw_eql (y := lN k) ((hk c_7).1) ?_
    refine zw_ci (va_runV (As := [.long (lN k)]) (rest := []) ⟨hx, hb, hml, hown, hts⟩ (zd_below l dC dI h0 ha cA f o ks cur k (Nat.le_of_lt (hk c_7).2) hG) (cwV 1 hts gX1_rank_X1_below rfl rfl rfl (by decide +kernel) ⟨Nat.le_of_ble_eq_true rfl, Nat.le_of_ble_eq_true rfl⟩) (zw_preV (ci := 1) (q0 := 0) hP hK rfl rfl) rfl rfl hl.1 rfl (lv_room (Nat.le_of_ble_eq_true rfl)) dX1_rank_20 ⟨Nat.zero_le _, Nat.zero_le _⟩) ?_
    refine lv_goto (tgt := 27) hx hb dX1_rank_23 (by decide) ?_
    refine zw_eqi (y := if zf_nn a b d then nI (zk_c ks k) else -1) (by simp [c_7]) ?_
    exact W.iret hx hb hr (fun t ht hW => ⟨rfl, ht⟩) (fun q h => by cases h) dX1_rank_27
set_option maxHeartbeats 4000000 in
set_option maxRecDepth 100000 in
/-- stands() -/
theorem zd_stands (l : Launch) (dC : Nat → ClassId) (dI : Nat → Nat → Nat) (h0 ha : Nat) (cA : ClassId) (f : Nat → Int64) (o : Nat) (ks : List Nat) (cur : Int64) (k : Nat) (hk : ¬ cur = -1 → cur = lN k ∧ k < 1152921504606846976) (hG : zk_R ks f) : Met l yX1_stands wsX1_stands ({ frames := 1, cells := 0, slots := 0, locals := 23 }) (zw_P [.ref h0] (dC, dI) vwCl (zy_w h0 ha cA f o ks.length cur) [(cA, .long)]) (zw_Q (some (.int (if cur = -1 then 0 else zb_I (decide (k ∈ ks)))))) 0 0 (fun _ => False) := by
  refine Met.ofW (cc := cX1_stands) (maxL := 1) (ret := (some .int)) (by decide) rfl ?_
  intro p e s m args below meth c s₁ B hml hv
  obtain ⟨rfl, hP, hK⟩ := hv
  have hx := B.exec
  have hb := B.bytes
  have hr := B.returns
  have hts := atoms_spec (ws := wsX1_stands) B.pre
  have hown : s.vm.findClass RX1 = some m.cls := findClass_of_methodNamed B.named
  have hl := lv_entry ([.ref h0]) (n := 1) (Nat.le_of_ble_eq_true rfl)
  rw [lg_entry_eq]
  generalize (lg_sl ([.ref h0]) ++ List.replicate (1 - (lg_sl ([.ref h0])).length) Slot.unset).toArray = ls at hl ⊢
  have hl : lv_has ls 1 [(0, .ref h0)] := hl
  have hP : va_P (dC, dI) vwCl (zy_w h0 ha cA f o ks.length cur) s.heap := hP
  refine lv_aload_n hx hb dX1_stands_0 rfl (lv_at hl 0 rfl) ?_
  refine va_get (D := (dC, dI)) (ci := 1) (v := .long cur) (C := RX1) (T := TX1) (N := 4) hx hb hts (by decide +kernel) hown hK hP 0 rfl rfl 3 (by decide) (hts (.fieldLink RX1 15 "PageIndexModel" "cursor" "J") (by decide +kernel)) (fun _ h9 => h9) rfl dX1_stands_1 ?_
  refine lv_ldc2 (v := (-1)) hx hb hown (hts (.constantLong RX1 13 (-1)) (by decide +kernel)) dX1_stands_4 ?_
  refine W.lcmp hx hb dX1_stands_7 ?_
  refine lv_if_eq (tgt := 34) hx hb dX1_stands_8 (by decide) (fun c_8 => ?_) (fun c_8 => ?_)
  · have h8 := (lg_cmp_eq _ _).mp c_8
    refine lv_iconst (v := 0) hx hb dX1_stands_34 (by decide) ?_
    refine zw_eqi (y := if cur = -1 then 0 else zb_I (decide (k ∈ ks))) (by simp [zb_I, h8]) ?_
    exact W.iret hx hb hr (fun t ht hW => ⟨rfl, ht⟩) (fun q h => by cases h) dX1_stands_35
  · have h8 : ¬ cur = -1 := fun z => c_8 ((lg_cmp_eq _ _).mpr z)
    refine lv_aload_n hx hb dX1_stands_11 rfl (lv_at hl 0 rfl) ?_
    refine lv_aload_n hx hb dX1_stands_12 rfl (lv_at hl 0 rfl) ?_
    refine lv_aload_n hx hb dX1_stands_13 rfl (lv_at hl 0 rfl) ?_
    refine va_get (D := (dC, dI)) (ci := 1) (v := .long cur) (C := RX1) (T := TX1) (N := 4) hx hb hts (by decide +kernel) hown hK hP 0 rfl rfl 3 (by decide) (hts (.fieldLink RX1 15 "PageIndexModel" "cursor" "J") (by decide +kernel)) (fun _ h9 => h9) rfl dX1_stands_14 ?_
    refine zw_eql (y := lN k) ((hk h8).1) ?_
    refine zw_ci (va_runV (As := [.long (lN k)]) (rest := [.ref h0]) ⟨hx, hb, hml, hown, hts⟩ (zd_below l dC dI h0 ha cA f o ks cur k (Nat.le_of_lt (hk h8).2) hG) (cwV 1 hts gX1_stands_X1_below rfl rfl rfl (by decide +kernel) ⟨Nat.le_of_ble_eq_true rfl, Nat.le_of_ble_eq_true rfl⟩) (zw_preV (ci := 1) (q0 := 0) hP hK rfl rfl) rfl rfl hl.1 rfl (lv_room (Nat.le_of_ble_eq_true rfl)) dX1_stands_17 ⟨Nat.zero_le _, Nat.zero_le _⟩) ?_
    refine lv_aload_n hx hb dX1_stands_20 rfl (lv_at hl 0 rfl) ?_
    refine va_get (D := (dC, dI)) (ci := 1) (v := .long cur) (C := RX1) (T := TX1) (N := 4) hx hb hts (by decide +kernel) hown hK hP 0 rfl rfl 3 (by decide) (hts (.fieldLink RX1 15 "PageIndexModel" "cursor" "J") (by decide +kernel)) (fun _ h9 => h9) rfl dX1_stands_21 ?_
    refine zw_eql (y := lN k) ((hk h8).1) ?_
    refine zw_ci (va_runV (As := [.int (nI (zk_c ks k)), .long (lN k)]) (rest := []) ⟨hx, hb, hml, hown, hts⟩ (zd_isThere l dC dI h0 ha cA f o ks cur (zk_c ks k) k (zk_c_le ks k) (Nat.le_of_lt (hk h8).2) hG) (cwV 2 hts gX1_stands_X1_isThere rfl rfl rfl (by decide +kernel) ⟨Nat.le_of_ble_eq_true rfl, Nat.le_of_ble_eq_true rfl⟩) (zw_preV (ci := 1) (q0 := 0) hP hK rfl rfl) rfl rfl hl.1 rfl (lv_room (Nat.le_of_ble_eq_true rfl)) dX1_stands_24 ⟨Nat.zero_le _, Nat.zero_le _⟩) ?_
    refine zw_eqi (y := zb_I (decide (k ∈ ks))) (by rw [zk_mem_b hG.1]) ?_
    refine zw_ifeq (tgt := 34) hx hb dX1_stands_27 (by decide) (fun c_27 => ?_) (fun c_27 => ?_)
    · refine lv_iconst (v := 0) hx hb dX1_stands_34 (by decide) ?_
      refine zw_eqi (y := if cur = -1 then 0 else zb_I (decide (k ∈ ks))) (by simp [zb_I, h8, c_27]) ?_
      exact W.iret hx hb hr (fun t ht hW => ⟨rfl, ht⟩) (fun q h => by cases h) dX1_stands_35
    · refine lv_iconst (v := 1) hx hb dX1_stands_30 (by decide) ?_
      refine lv_goto (tgt := 35) hx hb dX1_stands_31 (by decide) ?_
      refine zw_eqi (y := if cur = -1 then 0 else zb_I (decide (k ∈ ks))) (by simp [zb_I, h8, c_27]) ?_
      exact W.iret hx hb hr (fun t ht hW => ⟨rfl, ht⟩) (fun q h => by cases h) dX1_stands_35
set_option maxHeartbeats 4000000 in
set_option maxRecDepth 100000 in
/-- number(j) -/
theorem zd_number (l : Launch) (dC : Nat → ClassId) (dI : Nat → Nat → Nat) (h0 ha : Nat) (cA : ClassId) (f : Nat → Int64) (o : Nat) (ks : List Nat) (cur : Int64) (z j : Nat) (hz : z < 1152921504606846976) (ec : cur = lN z) (hj : j < 3) : Met l yX1_number wsX1_number ({ frames := 0, cells := 0, slots := 0, locals := 0 }) (zw_P [.ref h0, .int (nI j)] (dC, dI) vwCl (zy_w h0 ha cA f o ks.length cur) [(cA, .long)]) (zw_Q (some (.int (zf_cn cur (nI j))))) 0 0 (fun _ => False) := by
  refine Met.ofW (cc := cX1_number) (maxL := 2) (ret := (some .int)) (by decide) rfl ?_
  intro p e s m args below meth c s₁ B hml hv
  obtain ⟨rfl, hP, hK⟩ := hv
  have hx := B.exec
  have hb := B.bytes
  have hr := B.returns
  have hts := atoms_spec (ws := wsX1_number) B.pre
  have hown : s.vm.findClass RX1 = some m.cls := findClass_of_methodNamed B.named
  have hl := lv_entry ([.ref h0, .int (nI j)]) (n := 2) (Nat.le_of_ble_eq_true rfl)
  rw [lg_entry_eq]
  generalize (lg_sl ([.ref h0, .int (nI j)]) ++ List.replicate (2 - (lg_sl ([.ref h0, .int (nI j)])).length) Slot.unset).toArray = ls at hl ⊢
  have hl : lv_has ls 2 [(0, .ref h0), (1, .int (nI j))] := hl
  have hP : va_P (dC, dI) vwCl (zy_w h0 ha cA f o ks.length cur) s.heap := hP
  match j, hj with
  | 0, _ =>
    refine lv_iload_n hx hb dX1_number_0 rfl (lv_at hl 1 rfl) ?_
    refine lv_if_ne (tgt := 19) hx hb dX1_number_1 (by decide) (fun c_1 => absurd (rfl) c_1) (fun c_1 => ?_)
    refine lv_aload_n hx hb dX1_number_4 rfl (lv_at hl 0 rfl) ?_
    refine va_get (D := (dC, dI)) (ci := 1) (v := .long cur) (C := RX1) (T := TX1) (N := 4) hx hb hts (by decide +kernel) hown hK hP 0 rfl rfl 3 (by decide) (hts (.fieldLink RX1 15 "PageIndexModel" "cursor" "J") (by decide +kernel)) (fun _ h9 => h9) rfl dX1_number_5 ?_
    refine zw_eql (y := lN z) (ec) ?_
    refine lv_ldc2 (v := 1048576) hx hb hown (hts (.constantLong RX1 34 1048576) (by decide +kernel)) dX1_number_8 ?_
    refine lv_ldiv hx hb dX1_number_11 (by decide) ?_
    refine zw_eql (y := lN (z / 1048576)) (pk_lDiv (b := 1048576) (by omega) (by decide) (by decide)) ?_
    refine lv_ldc2 (v := 1048576) hx hb hown (hts (.constantLong RX1 34 1048576) (by decide +kernel)) dX1_number_12 ?_
    refine lv_ldiv hx hb dX1_number_15 (by decide) ?_
    refine zw_eql (y := lN (z / 1048576 / 1048576)) (pk_lDiv (b := 1048576) (by omega) (by decide) (by decide)) ?_
    refine lv_goto (tgt := 47) hx hb dX1_number_16 (by decide) ?_
    refine lv_l2i (v := Int64.toInt32 (lN (z / 1048576 / 1048576))) hx hb dX1_number_47 rfl ?_
    refine zw_eqi (y := zf_cn cur (nI 0)) (by rw [lN_i, ec, zf_cn_nI hz (by decide)]; exact zk_at_0) ?_
    exact W.iret hx hb hr (fun t ht hW => ⟨rfl, ht⟩) (fun q h => by cases h) dX1_number_48
  | 1, _ =>
    refine lv_iload_n hx hb dX1_number_0 rfl (lv_at hl 1 rfl) ?_
    refine lv_if_ne (tgt := 19) hx hb dX1_number_1 (by decide) (fun c_1 => ?_) (fun c_1 => absurd c_1 (by decide))
    refine lv_iload_n hx hb dX1_number_19 rfl (lv_at hl 1 rfl) ?_
    refine lv_iconst (v := 1) hx hb dX1_number_20 (by decide) ?_
    refine lv_icmp_ne (tgt := 39) hx hb dX1_number_21 (by decide) (fun c_21 => absurd (rfl) c_21) (fun c_21 => ?_)
    refine lv_aload_n hx hb dX1_number_24 rfl (lv_at hl 0 rfl) ?_
    refine va_get (D := (dC, dI)) (ci := 1) (v := .long cur) (C := RX1) (T := TX1) (N := 4) hx hb hts (by decide +kernel) hown hK hP 0 rfl rfl 3 (by decide) (hts (.fieldLink RX1 15 "PageIndexModel" "cursor" "J") (by decide +kernel)) (fun _ h9 => h9) rfl dX1_number_25 ?_
    refine zw_eql (y := lN z) (ec) ?_
    refine lv_ldc2 (v := 1048576) hx hb hown (hts (.constantLong RX1 34 1048576) (by decide +kernel)) dX1_number_28 ?_
    refine lv_ldiv hx hb dX1_number_31 (by decide) ?_
    refine zw_eql (y := lN (z / 1048576)) (pk_lDiv (b := 1048576) (by omega) (by decide) (by decide)) ?_
    refine lv_ldc2 (v := 1048576) hx hb hown (hts (.constantLong RX1 34 1048576) (by decide +kernel)) dX1_number_32 ?_
    refine lv_lrem hx hb dX1_number_35 (by decide) ?_
    refine zw_eql (y := lN (z / 1048576 % 1048576)) (pk_lRem (b := 1048576) (by omega) (by decide) (by decide)) ?_
    refine lv_goto (tgt := 47) hx hb dX1_number_36 (by decide) ?_
    refine lv_l2i (v := Int64.toInt32 (lN (z / 1048576 % 1048576))) hx hb dX1_number_47 rfl ?_
    refine zw_eqi (y := zf_cn cur (nI 1)) (by rw [lN_i, ec, zf_cn_nI hz (by decide)]; exact zk_at_1) ?_
    exact W.iret hx hb hr (fun t ht hW => ⟨rfl, ht⟩) (fun q h => by cases h) dX1_number_48
  | 2, _ =>
    refine lv_iload_n hx hb dX1_number_0 rfl (lv_at hl 1 rfl) ?_
    refine lv_if_ne (tgt := 19) hx hb dX1_number_1 (by decide) (fun c_1 => ?_) (fun c_1 => absurd c_1 (by decide))
    refine lv_iload_n hx hb dX1_number_19 rfl (lv_at hl 1 rfl) ?_
    refine lv_iconst (v := 1) hx hb dX1_number_20 (by decide) ?_
    refine lv_icmp_ne (tgt := 39) hx hb dX1_number_21 (by decide) (fun c_21 => ?_) (fun c_21 => absurd c_21 (by decide))
    refine lv_aload_n hx hb dX1_number_39 rfl (lv_at hl 0 rfl) ?_
    refine va_get (D := (dC, dI)) (ci := 1) (v := .long cur) (C := RX1) (T := TX1) (N := 4) hx hb hts (by decide +kernel) hown hK hP 0 rfl rfl 3 (by decide) (hts (.fieldLink RX1 15 "PageIndexModel" "cursor" "J") (by decide +kernel)) (fun _ h9 => h9) rfl dX1_number_40 ?_
    refine zw_eql (y := lN z) (ec) ?_
    refine lv_ldc2 (v := 1048576) hx hb hown (hts (.constantLong RX1 34 1048576) (by decide +kernel)) dX1_number_43 ?_
    refine lv_lrem hx hb dX1_number_46 (by decide) ?_
    refine zw_eql (y := lN (z % 1048576)) (pk_lRem (b := 1048576) (by omega) (by decide) (by decide)) ?_
    refine lv_l2i (v := Int64.toInt32 (lN (z % 1048576))) hx hb dX1_number_47 rfl ?_
    refine zw_eqi (y := zf_cn cur (nI 2)) (by rw [lN_i, ec, zf_cn_nI hz (by decide)]; exact zk_at_2) ?_
    exact W.iret hx hb hr (fun t ht hW => ⟨rfl, ht⟩) (fun q h => by cases h) dX1_number_48
set_option maxHeartbeats 4000000 in
set_option maxRecDepth 100000 in
/-- told(v) -/
theorem zd_told (l : Launch) (dC : Nat → ClassId) (dI : Nat → Nat → Nat) (h0 ha : Nat) (cA : ClassId) (f : Nat → Int64) (o : Nat) (ks : List Nat) (cur : Int64) (v : Int32) (ho : o < 6) (hc : ¬ cur = -1 → ∃ z, z < 1152921504606846976 ∧ cur = lN z) : Met l yX1_told wsX1_told ({ frames := 1, cells := 0, slots := 0, locals := 21 }) (zw_P [.ref h0, .int v] (dC, dI) vwCl (zy_w h0 ha cA f o ks.length cur) [(cA, .long)]) (zw_Q (some (.int (zf_told (nI (zk_px o)) (nI (zk_py o)) (nI (zk_pz o)) cur v)))) 0 0 (fun _ => False) := by
  refine Met.ofW (cc := cX1_told) (maxL := 2) (ret := (some .int)) (by decide) rfl ?_
  intro p e s m args below meth c s₁ B hml hv
  obtain ⟨rfl, hP, hK⟩ := hv
  have hx := B.exec
  have hb := B.bytes
  have hr := B.returns
  have hts := atoms_spec (ws := wsX1_told) B.pre
  have hown : s.vm.findClass RX1 = some m.cls := findClass_of_methodNamed B.named
  have hl := lv_entry ([.ref h0, .int v]) (n := 2) (Nat.le_of_ble_eq_true rfl)
  rw [lg_entry_eq]
  generalize (lg_sl ([.ref h0, .int v]) ++ List.replicate (2 - (lg_sl ([.ref h0, .int v])).length) Slot.unset).toArray = ls at hl ⊢
  have hl : lv_has ls 2 [(0, .ref h0), (1, .int v)] := hl
  have hP : va_P (dC, dI) vwCl (zy_w h0 ha cA f o ks.length cur) s.heap := hP
  by_cases h8 : cur = -1
  · skip
    refine lv_aload_n hx hb dX1_told_0 rfl (lv_at hl 0 rfl) ?_
    refine va_get (D := (dC, dI)) (ci := 1) (v := .long cur) (C := RX1) (T := TX1) (N := 4) hx hb hts (by decide +kernel) hown hK hP 0 rfl rfl 3 (by decide) (hts (.fieldLink RX1 15 "PageIndexModel" "cursor" "J") (by decide +kernel)) (fun _ h9 => h9) rfl dX1_told_1 ?_
    refine lv_ldc2 (v := (-1)) hx hb hown (hts (.constantLong RX1 13 (-1)) (by decide +kernel)) dX1_told_4 ?_
    refine W.lcmp hx hb dX1_told_7 ?_
    refine lv_if_eq (tgt := 20) hx hb dX1_told_8 (by decide) (fun c_8 => ?_) (fun c_8 => absurd ((lg_cmp_eq _ _).mpr h8) c_8)
    refine lv_iconst (v := (-1)) hx hb dX1_told_20 (by decide) ?_
    refine zw_eqi (y := zf_told (nI (zk_px o)) (nI (zk_py o)) (nI (zk_pz o)) cur v) (by rw [zf_told, if_pos h8]) ?_
    exact W.iret hx hb hr (fun t ht hW => ⟨rfl, ht⟩) (fun q h => by cases h) dX1_told_21
  · obtain ⟨z, hz, ec⟩ := hc h8
    by_cases h12 : v < 0
    · skip
      refine lv_aload_n hx hb dX1_told_0 rfl (lv_at hl 0 rfl) ?_
      refine va_get (D := (dC, dI)) (ci := 1) (v := .long cur) (C := RX1) (T := TX1) (N := 4) hx hb hts (by decide +kernel) hown hK hP 0 rfl rfl 3 (by decide) (hts (.fieldLink RX1 15 "PageIndexModel" "cursor" "J") (by decide +kernel)) (fun _ h9 => h9) rfl dX1_told_1 ?_
      refine lv_ldc2 (v := (-1)) hx hb hown (hts (.constantLong RX1 13 (-1)) (by decide +kernel)) dX1_told_4 ?_
      refine W.lcmp hx hb dX1_told_7 ?_
      refine lv_if_eq (tgt := 20) hx hb dX1_told_8 (by decide) (fun c_8 => absurd c_8 (fun q => h8 ((lg_cmp_eq _ _).mp q))) (fun c_8 => ?_)
      refine lv_iload_n hx hb dX1_told_11 rfl (lv_at hl 1 rfl) ?_
      refine lv_if_lt (tgt := 20) hx hb dX1_told_12 (by decide) (fun c_12 => ?_) (fun c_12 => absurd (h12) c_12)
      refine lv_iconst (v := (-1)) hx hb dX1_told_20 (by decide) ?_
      refine zw_eqi (y := zf_told (nI (zk_px o)) (nI (zk_py o)) (nI (zk_pz o)) cur v) (zf_told_out h8 (Or.inl h12)) ?_
      exact W.iret hx hb hr (fun t ht hW => ⟨rfl, ht⟩) (fun q h => by cases h) dX1_told_21
    by_cases h17 : v ≤ 5
    rotate_left
    · skip
      refine lv_aload_n hx hb dX1_told_0 rfl (lv_at hl 0 rfl) ?_
      refine va_get (D := (dC, dI)) (ci := 1) (v := .long cur) (C := RX1) (T := TX1) (N := 4) hx hb hts (by decide +kernel) hown hK hP 0 rfl rfl 3 (by decide) (hts (.fieldLink RX1 15 "PageIndexModel" "cursor" "J") (by decide +kernel)) (fun _ h9 => h9) rfl dX1_told_1 ?_
      refine lv_ldc2 (v := (-1)) hx hb hown (hts (.constantLong RX1 13 (-1)) (by decide +kernel)) dX1_told_4 ?_
      refine W.lcmp hx hb dX1_told_7 ?_
      refine lv_if_eq (tgt := 20) hx hb dX1_told_8 (by decide) (fun c_8 => absurd c_8 (fun q => h8 ((lg_cmp_eq _ _).mp q))) (fun c_8 => ?_)
      refine lv_iload_n hx hb dX1_told_11 rfl (lv_at hl 1 rfl) ?_
      refine lv_if_lt (tgt := 20) hx hb dX1_told_12 (by decide) (fun c_12 => absurd c_12 (h12)) (fun c_12 => ?_)
      refine lv_iload_n hx hb dX1_told_15 rfl (lv_at hl 1 rfl) ?_
      refine lv_iconst (v := 5) hx hb dX1_told_16 (by decide) ?_
      refine lv_icmp_le (tgt := 22) hx hb dX1_told_17 (by decide) (fun c_17 => absurd c_17 (h17)) (fun c_17 => ?_)
      refine lv_iconst (v := (-1)) hx hb dX1_told_20 (by decide) ?_
      refine zw_eqi (y := zf_told (nI (zk_px o)) (nI (zk_py o)) (nI (zk_pz o)) cur v) (zf_told_out h8 (Or.inr h17)) ?_
      exact W.iret hx hb hr (fun t ht hW => ⟨rfl, ht⟩) (fun q h => by cases h) dX1_told_21
    obtain ⟨j, hj, ej⟩ := nI_of2 (x := v) (M := 5) (n := 5) (by decide) h12 h17
    match j, hj, ej with
    | 0, _, ej =>
      refine lv_aload_n hx hb dX1_told_0 rfl (lv_at hl 0 rfl) ?_
      refine va_get (D := (dC, dI)) (ci := 1) (v := .long cur) (C := RX1) (T := TX1) (N := 4) hx hb hts (by decide +kernel) hown hK hP 0 rfl rfl 3 (by decide) (hts (.fieldLink RX1 15 "PageIndexModel" "cursor" "J") (by decide +kernel)) (fun _ h9 => h9) rfl dX1_told_1 ?_
      refine lv_ldc2 (v := (-1)) hx hb hown (hts (.constantLong RX1 13 (-1)) (by decide +kernel)) dX1_told_4 ?_
      refine W.lcmp hx hb dX1_told_7 ?_
      refine lv_if_eq (tgt := 20) hx hb dX1_told_8 (by decide) (fun c_8 => absurd c_8 (fun q => h8 ((lg_cmp_eq _ _).mp q))) (fun c_8 => ?_)
      refine lv_iload_n hx hb dX1_told_11 rfl (lv_at hl 1 rfl) ?_
      refine lv_if_lt (tgt := 20) hx hb dX1_told_12 (by decide) (fun c_12 => absurd c_12 (h12)) (fun c_12 => ?_)
      refine lv_iload_n hx hb dX1_told_15 rfl (lv_at hl 1 rfl) ?_
      refine lv_iconst (v := 5) hx hb dX1_told_16 (by decide) ?_
      refine lv_icmp_le (tgt := 22) hx hb dX1_told_17 (by decide) (fun c_17 => ?_) (fun c_17 => absurd (h17) c_17)
      refine lv_iload_n hx hb dX1_told_22 rfl (lv_at hl 1 rfl) ?_
      refine lv_iconst (v := 3) hx hb dX1_told_23 (by decide) ?_
      refine lv_icmp_ge (tgt := 35) hx hb dX1_told_24 (by decide) (fun c_24 => absurd c_24 (by rw [ej]; decide)) (fun c_24 => ?_)
      refine lv_aload_n hx hb dX1_told_27 rfl (lv_at hl 0 rfl) ?_
      refine lv_iload_n hx hb dX1_told_28 rfl (lv_at hl 1 rfl) ?_
      refine zw_eqi (y := nI 0) (ej) ?_
      refine zw_ci (va_runV (As := [.int (nI 0)]) (rest := []) ⟨hx, hb, hml, hown, hts⟩ (zd_number l dC dI h0 ha cA f o ks cur z 0 hz ec (by decide)) (cwV 1 hts gX1_told_X1_number rfl rfl rfl (by decide +kernel) ⟨Nat.le_of_ble_eq_true rfl, Nat.le_of_ble_eq_true rfl⟩) (zw_preV (ci := 1) (q0 := 0) hP hK rfl rfl) rfl rfl hl.1 rfl (lv_room (Nat.le_of_ble_eq_true rfl)) dX1_told_29 ⟨Nat.zero_le _, Nat.zero_le _⟩) ?_
      refine lv_goto (tgt := 46) hx hb dX1_told_32 (by decide) ?_
      refine zw_eqi (y := zf_told (nI (zk_px o)) (nI (zk_py o)) (nI (zk_pz o)) cur v) (zf_told_0 h8 ej) ?_
      exact W.iret hx hb hr (fun t ht hW => ⟨rfl, ht⟩) (fun q h => by cases h) dX1_told_46
    | 1, _, ej =>
      refine lv_aload_n hx hb dX1_told_0 rfl (lv_at hl 0 rfl) ?_
      refine va_get (D := (dC, dI)) (ci := 1) (v := .long cur) (C := RX1) (T := TX1) (N := 4) hx hb hts (by decide +kernel) hown hK hP 0 rfl rfl 3 (by decide) (hts (.fieldLink RX1 15 "PageIndexModel" "cursor" "J") (by decide +kernel)) (fun _ h9 => h9) rfl dX1_told_1 ?_
      refine lv_ldc2 (v := (-1)) hx hb hown (hts (.constantLong RX1 13 (-1)) (by decide +kernel)) dX1_told_4 ?_
      refine W.lcmp hx hb dX1_told_7 ?_
      refine lv_if_eq (tgt := 20) hx hb dX1_told_8 (by decide) (fun c_8 => absurd c_8 (fun q => h8 ((lg_cmp_eq _ _).mp q))) (fun c_8 => ?_)
      refine lv_iload_n hx hb dX1_told_11 rfl (lv_at hl 1 rfl) ?_
      refine lv_if_lt (tgt := 20) hx hb dX1_told_12 (by decide) (fun c_12 => absurd c_12 (h12)) (fun c_12 => ?_)
      refine lv_iload_n hx hb dX1_told_15 rfl (lv_at hl 1 rfl) ?_
      refine lv_iconst (v := 5) hx hb dX1_told_16 (by decide) ?_
      refine lv_icmp_le (tgt := 22) hx hb dX1_told_17 (by decide) (fun c_17 => ?_) (fun c_17 => absurd (h17) c_17)
      refine lv_iload_n hx hb dX1_told_22 rfl (lv_at hl 1 rfl) ?_
      refine lv_iconst (v := 3) hx hb dX1_told_23 (by decide) ?_
      refine lv_icmp_ge (tgt := 35) hx hb dX1_told_24 (by decide) (fun c_24 => absurd c_24 (by rw [ej]; decide)) (fun c_24 => ?_)
      refine lv_aload_n hx hb dX1_told_27 rfl (lv_at hl 0 rfl) ?_
      refine lv_iload_n hx hb dX1_told_28 rfl (lv_at hl 1 rfl) ?_
      refine zw_eqi (y := nI 1) (ej) ?_
      refine zw_ci (va_runV (As := [.int (nI 1)]) (rest := []) ⟨hx, hb, hml, hown, hts⟩ (zd_number l dC dI h0 ha cA f o ks cur z 1 hz ec (by decide)) (cwV 1 hts gX1_told_X1_number rfl rfl rfl (by decide +kernel) ⟨Nat.le_of_ble_eq_true rfl, Nat.le_of_ble_eq_true rfl⟩) (zw_preV (ci := 1) (q0 := 0) hP hK rfl rfl) rfl rfl hl.1 rfl (lv_room (Nat.le_of_ble_eq_true rfl)) dX1_told_29 ⟨Nat.zero_le _, Nat.zero_le _⟩) ?_
      refine lv_goto (tgt := 46) hx hb dX1_told_32 (by decide) ?_
      refine zw_eqi (y := zf_told (nI (zk_px o)) (nI (zk_py o)) (nI (zk_pz o)) cur v) (zf_told_1 h8 ej) ?_
      exact W.iret hx hb hr (fun t ht hW => ⟨rfl, ht⟩) (fun q h => by cases h) dX1_told_46
    | 2, _, ej =>
      refine lv_aload_n hx hb dX1_told_0 rfl (lv_at hl 0 rfl) ?_
      refine va_get (D := (dC, dI)) (ci := 1) (v := .long cur) (C := RX1) (T := TX1) (N := 4) hx hb hts (by decide +kernel) hown hK hP 0 rfl rfl 3 (by decide) (hts (.fieldLink RX1 15 "PageIndexModel" "cursor" "J") (by decide +kernel)) (fun _ h9 => h9) rfl dX1_told_1 ?_
      refine lv_ldc2 (v := (-1)) hx hb hown (hts (.constantLong RX1 13 (-1)) (by decide +kernel)) dX1_told_4 ?_
      refine W.lcmp hx hb dX1_told_7 ?_
      refine lv_if_eq (tgt := 20) hx hb dX1_told_8 (by decide) (fun c_8 => absurd c_8 (fun q => h8 ((lg_cmp_eq _ _).mp q))) (fun c_8 => ?_)
      refine lv_iload_n hx hb dX1_told_11 rfl (lv_at hl 1 rfl) ?_
      refine lv_if_lt (tgt := 20) hx hb dX1_told_12 (by decide) (fun c_12 => absurd c_12 (h12)) (fun c_12 => ?_)
      refine lv_iload_n hx hb dX1_told_15 rfl (lv_at hl 1 rfl) ?_
      refine lv_iconst (v := 5) hx hb dX1_told_16 (by decide) ?_
      refine lv_icmp_le (tgt := 22) hx hb dX1_told_17 (by decide) (fun c_17 => ?_) (fun c_17 => absurd (h17) c_17)
      refine lv_iload_n hx hb dX1_told_22 rfl (lv_at hl 1 rfl) ?_
      refine lv_iconst (v := 3) hx hb dX1_told_23 (by decide) ?_
      refine lv_icmp_ge (tgt := 35) hx hb dX1_told_24 (by decide) (fun c_24 => absurd c_24 (by rw [ej]; decide)) (fun c_24 => ?_)
      refine lv_aload_n hx hb dX1_told_27 rfl (lv_at hl 0 rfl) ?_
      refine lv_iload_n hx hb dX1_told_28 rfl (lv_at hl 1 rfl) ?_
      refine zw_eqi (y := nI 2) (ej) ?_
      refine zw_ci (va_runV (As := [.int (nI 2)]) (rest := []) ⟨hx, hb, hml, hown, hts⟩ (zd_number l dC dI h0 ha cA f o ks cur z 2 hz ec (by decide)) (cwV 1 hts gX1_told_X1_number rfl rfl rfl (by decide +kernel) ⟨Nat.le_of_ble_eq_true rfl, Nat.le_of_ble_eq_true rfl⟩) (zw_preV (ci := 1) (q0 := 0) hP hK rfl rfl) rfl rfl hl.1 rfl (lv_room (Nat.le_of_ble_eq_true rfl)) dX1_told_29 ⟨Nat.zero_le _, Nat.zero_le _⟩) ?_
      refine lv_goto (tgt := 46) hx hb dX1_told_32 (by decide) ?_
      refine zw_eqi (y := zf_told (nI (zk_px o)) (nI (zk_py o)) (nI (zk_pz o)) cur v) (zf_told_2 h8 ej) ?_
      exact W.iret hx hb hr (fun t ht hW => ⟨rfl, ht⟩) (fun q h => by cases h) dX1_told_46
    | 3, _, ej =>
      refine lv_aload_n hx hb dX1_told_0 rfl (lv_at hl 0 rfl) ?_
      refine va_get (D := (dC, dI)) (ci := 1) (v := .long cur) (C := RX1) (T := TX1) (N := 4) hx hb hts (by decide +kernel) hown hK hP 0 rfl rfl 3 (by decide) (hts (.fieldLink RX1 15 "PageIndexModel" "cursor" "J") (by decide +kernel)) (fun _ h9 => h9) rfl dX1_told_1 ?_
      refine lv_ldc2 (v := (-1)) hx hb hown (hts (.constantLong RX1 13 (-1)) (by decide +kernel)) dX1_told_4 ?_
      refine W.lcmp hx hb dX1_told_7 ?_
      refine lv_if_eq (tgt := 20) hx hb dX1_told_8 (by decide) (fun c_8 => absurd c_8 (fun q => h8 ((lg_cmp_eq _ _).mp q))) (fun c_8 => ?_)
      refine lv_iload_n hx hb dX1_told_11 rfl (lv_at hl 1 rfl) ?_
      refine lv_if_lt (tgt := 20) hx hb dX1_told_12 (by decide) (fun c_12 => absurd c_12 (h12)) (fun c_12 => ?_)
      refine lv_iload_n hx hb dX1_told_15 rfl (lv_at hl 1 rfl) ?_
      refine lv_iconst (v := 5) hx hb dX1_told_16 (by decide) ?_
      refine lv_icmp_le (tgt := 22) hx hb dX1_told_17 (by decide) (fun c_17 => ?_) (fun c_17 => absurd (h17) c_17)
      refine lv_iload_n hx hb dX1_told_22 rfl (lv_at hl 1 rfl) ?_
      refine lv_iconst (v := 3) hx hb dX1_told_23 (by decide) ?_
      refine lv_icmp_ge (tgt := 35) hx hb dX1_told_24 (by decide) (fun c_24 => ?_) (fun c_24 => absurd (by rw [ej]; decide) c_24)
      refine lv_aload_n hx hb dX1_told_35 rfl (lv_at hl 0 rfl) ?_
      refine lv_aload_n hx hb dX1_told_36 rfl (lv_at hl 0 rfl) ?_
      refine lv_iload_n hx hb dX1_told_37 rfl (lv_at hl 1 rfl) ?_
      refine lv_iconst (v := 3) hx hb dX1_told_38 (by decide) ?_
      refine lv_isub hx hb dX1_told_39 ?_
      refine zw_eqi (y := nI 0) (by rw [ej]; decide) ?_
      refine zw_ci (va_runV (As := [.int (nI 0)]) (rest := [.ref h0]) ⟨hx, hb, hml, hown, hts⟩ (zd_placeOf l dC dI h0 ha cA f o ks cur (nI 0) ho) (cwV 1 hts gX1_told_X1_placeOf rfl rfl rfl (by decide +kernel) ⟨Nat.le_of_ble_eq_true rfl, Nat.le_of_ble_eq_true rfl⟩) (zw_preV (ci := 1) (q0 := 0) hP hK rfl rfl) rfl rfl hl.1 rfl (lv_room (Nat.le_of_ble_eq_true rfl)) dX1_told_40 ⟨Nat.zero_le _, Nat.zero_le _⟩) ?_
      refine zw_eqi (y := nI (zk_px o)) (zf_pl_0 ho) ?_
      refine zw_ci (va_runV (As := [.int (nI (zk_px o))]) (rest := []) ⟨hx, hb, hml, hown, hts⟩ (zd_number l dC dI h0 ha cA f o ks cur z ((zk_px o)) hz ec (zk_px_lt o)) (cwV 1 hts gX1_told_X1_number rfl rfl rfl (by decide +kernel) ⟨Nat.le_of_ble_eq_true rfl, Nat.le_of_ble_eq_true rfl⟩) (zw_preV (ci := 1) (q0 := 0) hP hK rfl rfl) rfl rfl hl.1 rfl (lv_room (Nat.le_of_ble_eq_true rfl)) dX1_told_43 ⟨Nat.zero_le _, Nat.zero_le _⟩) ?_
      refine zw_eqi (y := zf_told (nI (zk_px o)) (nI (zk_py o)) (nI (zk_pz o)) cur v) (zf_told_3 h8 ej) ?_
      exact W.iret hx hb hr (fun t ht hW => ⟨rfl, ht⟩) (fun q h => by cases h) dX1_told_46
    | 4, _, ej =>
      refine lv_aload_n hx hb dX1_told_0 rfl (lv_at hl 0 rfl) ?_
      refine va_get (D := (dC, dI)) (ci := 1) (v := .long cur) (C := RX1) (T := TX1) (N := 4) hx hb hts (by decide +kernel) hown hK hP 0 rfl rfl 3 (by decide) (hts (.fieldLink RX1 15 "PageIndexModel" "cursor" "J") (by decide +kernel)) (fun _ h9 => h9) rfl dX1_told_1 ?_
      refine lv_ldc2 (v := (-1)) hx hb hown (hts (.constantLong RX1 13 (-1)) (by decide +kernel)) dX1_told_4 ?_
      refine W.lcmp hx hb dX1_told_7 ?_
      refine lv_if_eq (tgt := 20) hx hb dX1_told_8 (by decide) (fun c_8 => absurd c_8 (fun q => h8 ((lg_cmp_eq _ _).mp q))) (fun c_8 => ?_)
      refine lv_iload_n hx hb dX1_told_11 rfl (lv_at hl 1 rfl) ?_
      refine lv_if_lt (tgt := 20) hx hb dX1_told_12 (by decide) (fun c_12 => absurd c_12 (h12)) (fun c_12 => ?_)
      refine lv_iload_n hx hb dX1_told_15 rfl (lv_at hl 1 rfl) ?_
      refine lv_iconst (v := 5) hx hb dX1_told_16 (by decide) ?_
      refine lv_icmp_le (tgt := 22) hx hb dX1_told_17 (by decide) (fun c_17 => ?_) (fun c_17 => absurd (h17) c_17)
      refine lv_iload_n hx hb dX1_told_22 rfl (lv_at hl 1 rfl) ?_
      refine lv_iconst (v := 3) hx hb dX1_told_23 (by decide) ?_
      refine lv_icmp_ge (tgt := 35) hx hb dX1_told_24 (by decide) (fun c_24 => ?_) (fun c_24 => absurd (by rw [ej]; decide) c_24)
      refine lv_aload_n hx hb dX1_told_35 rfl (lv_at hl 0 rfl) ?_
      refine lv_aload_n hx hb dX1_told_36 rfl (lv_at hl 0 rfl) ?_
      refine lv_iload_n hx hb dX1_told_37 rfl (lv_at hl 1 rfl) ?_
      refine lv_iconst (v := 3) hx hb dX1_told_38 (by decide) ?_
      refine lv_isub hx hb dX1_told_39 ?_
      refine zw_eqi (y := nI 1) (by rw [ej]; decide) ?_
      refine zw_ci (va_runV (As := [.int (nI 1)]) (rest := [.ref h0]) ⟨hx, hb, hml, hown, hts⟩ (zd_placeOf l dC dI h0 ha cA f o ks cur (nI 1) ho) (cwV 1 hts gX1_told_X1_placeOf rfl rfl rfl (by decide +kernel) ⟨Nat.le_of_ble_eq_true rfl, Nat.le_of_ble_eq_true rfl⟩) (zw_preV (ci := 1) (q0 := 0) hP hK rfl rfl) rfl rfl hl.1 rfl (lv_room (Nat.le_of_ble_eq_true rfl)) dX1_told_40 ⟨Nat.zero_le _, Nat.zero_le _⟩) ?_
      refine zw_eqi (y := nI (zk_py o)) (zf_pl_1 ho) ?_
      refine zw_ci (va_runV (As := [.int (nI (zk_py o))]) (rest := []) ⟨hx, hb, hml, hown, hts⟩ (zd_number l dC dI h0 ha cA f o ks cur z ((zk_py o)) hz ec (zk_py_lt o)) (cwV 1 hts gX1_told_X1_number rfl rfl rfl (by decide +kernel) ⟨Nat.le_of_ble_eq_true rfl, Nat.le_of_ble_eq_true rfl⟩) (zw_preV (ci := 1) (q0 := 0) hP hK rfl rfl) rfl rfl hl.1 rfl (lv_room (Nat.le_of_ble_eq_true rfl)) dX1_told_43 ⟨Nat.zero_le _, Nat.zero_le _⟩) ?_
      refine zw_eqi (y := zf_told (nI (zk_px o)) (nI (zk_py o)) (nI (zk_pz o)) cur v) (zf_told_4 h8 ej) ?_
      exact W.iret hx hb hr (fun t ht hW => ⟨rfl, ht⟩) (fun q h => by cases h) dX1_told_46
    | 5, _, ej =>
      refine lv_aload_n hx hb dX1_told_0 rfl (lv_at hl 0 rfl) ?_
      refine va_get (D := (dC, dI)) (ci := 1) (v := .long cur) (C := RX1) (T := TX1) (N := 4) hx hb hts (by decide +kernel) hown hK hP 0 rfl rfl 3 (by decide) (hts (.fieldLink RX1 15 "PageIndexModel" "cursor" "J") (by decide +kernel)) (fun _ h9 => h9) rfl dX1_told_1 ?_
      refine lv_ldc2 (v := (-1)) hx hb hown (hts (.constantLong RX1 13 (-1)) (by decide +kernel)) dX1_told_4 ?_
      refine W.lcmp hx hb dX1_told_7 ?_
      refine lv_if_eq (tgt := 20) hx hb dX1_told_8 (by decide) (fun c_8 => absurd c_8 (fun q => h8 ((lg_cmp_eq _ _).mp q))) (fun c_8 => ?_)
      refine lv_iload_n hx hb dX1_told_11 rfl (lv_at hl 1 rfl) ?_
      refine lv_if_lt (tgt := 20) hx hb dX1_told_12 (by decide) (fun c_12 => absurd c_12 (h12)) (fun c_12 => ?_)
      refine lv_iload_n hx hb dX1_told_15 rfl (lv_at hl 1 rfl) ?_
      refine lv_iconst (v := 5) hx hb dX1_told_16 (by decide) ?_
      refine lv_icmp_le (tgt := 22) hx hb dX1_told_17 (by decide) (fun c_17 => ?_) (fun c_17 => absurd (h17) c_17)
      refine lv_iload_n hx hb dX1_told_22 rfl (lv_at hl 1 rfl) ?_
      refine lv_iconst (v := 3) hx hb dX1_told_23 (by decide) ?_
      refine lv_icmp_ge (tgt := 35) hx hb dX1_told_24 (by decide) (fun c_24 => ?_) (fun c_24 => absurd (by rw [ej]; decide) c_24)
      refine lv_aload_n hx hb dX1_told_35 rfl (lv_at hl 0 rfl) ?_
      refine lv_aload_n hx hb dX1_told_36 rfl (lv_at hl 0 rfl) ?_
      refine lv_iload_n hx hb dX1_told_37 rfl (lv_at hl 1 rfl) ?_
      refine lv_iconst (v := 3) hx hb dX1_told_38 (by decide) ?_
      refine lv_isub hx hb dX1_told_39 ?_
      refine zw_eqi (y := nI 2) (by rw [ej]; decide) ?_
      refine zw_ci (va_runV (As := [.int (nI 2)]) (rest := [.ref h0]) ⟨hx, hb, hml, hown, hts⟩ (zd_placeOf l dC dI h0 ha cA f o ks cur (nI 2) ho) (cwV 1 hts gX1_told_X1_placeOf rfl rfl rfl (by decide +kernel) ⟨Nat.le_of_ble_eq_true rfl, Nat.le_of_ble_eq_true rfl⟩) (zw_preV (ci := 1) (q0 := 0) hP hK rfl rfl) rfl rfl hl.1 rfl (lv_room (Nat.le_of_ble_eq_true rfl)) dX1_told_40 ⟨Nat.zero_le _, Nat.zero_le _⟩) ?_
      refine zw_eqi (y := nI (zk_pz o)) (zf_pl_2 ho) ?_
      refine zw_ci (va_runV (As := [.int (nI (zk_pz o))]) (rest := []) ⟨hx, hb, hml, hown, hts⟩ (zd_number l dC dI h0 ha cA f o ks cur z ((zk_pz o)) hz ec (zk_pz_lt o)) (cwV 1 hts gX1_told_X1_number rfl rfl rfl (by decide +kernel) ⟨Nat.le_of_ble_eq_true rfl, Nat.le_of_ble_eq_true rfl⟩) (zw_preV (ci := 1) (q0 := 0) hP hK rfl rfl) rfl rfl hl.1 rfl (lv_room (Nat.le_of_ble_eq_true rfl)) dX1_told_43 ⟨Nat.zero_le _, Nat.zero_le _⟩) ?_
      refine zw_eqi (y := zf_told (nI (zk_px o)) (nI (zk_py o)) (nI (zk_pz o)) cur v) (zf_told_5 h8 ej) ?_
      exact W.iret hx hb hr (fun t ht hW => ⟨rfl, ht⟩) (fun q h => by cases h) dX1_told_46
