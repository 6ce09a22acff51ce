set_option maxHeartbeats 4000000 in
set_option maxRecDepth 100000 in
/-- count(v, a, b, d) -/
theorem zd_count (l : Launch) (dC : Nat → ClassId) (dI : Nat → Nat → Nat) (h0 ha : Nat) (cA : ClassId) (f : Nat → Int64) (o : Nat) (ks : List Nat) (cur : Int64) (v : Int32) (a : Int32) (b : Int32) (d : Int32) (hG : zk_R ks f) : Met l yX1_count wsX1_count ({ frames := 2, cells := 0, slots := 0, locals := 48 }) (zw_P [.ref h0, .int v, .int a, .int b, .int d] (dC, dI) vwCl (zy_w h0 ha cA f o ks.length cur) [(cA, .long)]) (zw_Q (some (.int (zs_count ks v a b d)))) 0 0 (fun _ => False) := by
  refine Met.ofW (cc := cX1_count) (maxL := 9) (ret := (some .int)) (by decide) rfl ?_
  intro p e s m args below meth c s₁ B hml hv
  obtain ⟨rfl, hP, hK⟩ := hv
  have hx := B.exec
  have hb := B.bytes
  have hr := B.returns
  have hts := atoms_spec (ws := wsX1_count) B.pre
  have hown : s.vm.findClass RX1 = some m.cls := findClass_of_methodNamed B.named
  have hl := lv_entry ([.ref h0, .int v, .int a, .int b, .int d]) (n := 9) (Nat.le_of_ble_eq_true rfl)
  rw [lg_entry_eq]
  generalize (lg_sl ([.ref h0, .int v, .int a, .int b, .int d]) ++ List.replicate (9 - (lg_sl ([.ref h0, .int v, .int a, .int b, .int d])).length) Slot.unset).toArray = ls at hl ⊢
  have hl : lv_has ls 9 [(0, .ref h0), (1, .int v), (2, .int a), (3, .int b), (4, .int d)] := hl
  have hP : va_P (dC, dI) vwCl (zy_w h0 ha cA f o ks.length cur) s.heap := hP
  have hG0 := hG
  obtain ⟨hs, h60, hn, hf⟩ := hG0
  refine lv_iload_n hx hb dX1_count_0 rfl (lv_at hl 1 rfl) ?_
  refine lv_if_lt (tgt := 9) hx hb dX1_count_1 (by decide) (fun c_1 => ?_) (fun c_1 => ?_)
  · refine lv_iconst (v := (-1)) hx hb dX1_count_9 (by decide) ?_
    refine zw_eqi (y := zs_count ks v a b d) (zs_count_bad (Or.inl c_1)) ?_
    exact W.iret hx hb hr (fun t ht hW => ⟨rfl, ht⟩) (fun q h => by cases h) dX1_count_10
  · refine lv_iload_n hx hb dX1_count_4 rfl (lv_at hl 1 rfl) ?_
    refine lv_iconst (v := 3) hx hb dX1_count_5 (by decide) ?_
    refine lv_icmp_le (tgt := 11) hx hb dX1_count_6 (by decide) (fun c_6 => ?_) (fun c_6 => ?_)
    · obtain ⟨i, hi, ev⟩ := nI_of2 (x := v) (M := 3) (n := 3) (by decide) c_1 c_6
      refine lv_iload_n hx hb dX1_count_11 rfl (lv_at hl 1 rfl) ?_
      refine lv_iload_n hx hb dX1_count_12 rfl (lv_at hl 2 rfl) ?_
      refine lv_iload_n hx hb dX1_count_13 rfl (lv_at hl 3 rfl) ?_
      refine lv_iload hx hb dX1_count_14 (lv_at hl 4 rfl) ?_
      refine zw_ci (va_runS (As := [.int v, .int a, .int b, .int d]) (rest := []) ⟨hx, hb, hml, hown, hts⟩ (zd_areNumbers l v a b d) (va_cwS 4 hts gX1_count_X1_areNumbers rfl rfl rfl (by decide +kernel) ⟨Nat.le_of_ble_eq_true rfl, Nat.le_of_ble_eq_true rfl⟩) (preEq) rfl rfl hl.1 rfl (lv_room (Nat.le_of_ble_eq_true rfl)) dX1_count_16 ⟨Nat.zero_le _, Nat.zero_le _⟩) ?_
      refine zw_ifne (tgt := 24) hx hb dX1_count_19 (by decide) (fun c_19 => ?_) (fun c_19 => ?_)
      · refine lv_iload_n hx hb dX1_count_24 rfl (lv_at hl 1 rfl) ?_
        refine lv_iload_n hx hb dX1_count_25 rfl (lv_at hl 2 rfl) ?_
        refine lv_iload_n hx hb dX1_count_26 rfl (lv_at hl 3 rfl) ?_
        refine lv_iload hx hb dX1_count_27 (lv_at hl 4 rfl) ?_
        refine zw_cl (va_runS (As := [.int v, .int a, .int b, .int d]) (rest := []) ⟨hx, hb, hml, hown, hts⟩ (zd_beginning l v a b d) (va_cwS 4 hts gX1_count_X1_beginning rfl rfl rfl (by decide +kernel) ⟨Nat.le_of_ble_eq_true rfl, Nat.le_of_ble_eq_true rfl⟩) (preEq) rfl rfl hl.1 rfl (lv_room (Nat.le_of_ble_eq_true rfl)) dX1_count_29 ⟨Nat.zero_le _, Nat.zero_le _⟩) ?_
        refine lv_lstore (lv' := [(5, .long (zf_bg v a b d)), (0, .ref h0), (1, .int v), (2, .int a), (3, .int b), (4, .int d)]) hx hb dX1_count_32 hl (by decide) rfl (fun ls hl => ?_)
        refine lv_iconst (v := 0) hx hb dX1_count_34 (by decide) ?_
        refine zw_eqi (y := nI 0) (nI_0.symm) ?_
        refine lv_istore (lv' := [(7, .int (nI 0)), (5, .long (zf_bg v a b d)), (0, .ref h0), (1, .int v), (2, .int a), (3, .int b), (4, .int d)]) hx hb dX1_count_35 hl (by decide) rfl (fun ls hl => ?_)
        refine lv_iconst (v := 0) hx hb dX1_count_37 (by decide) ?_
        refine zw_eqi (y := nI 0) (nI_0.symm) ?_
        refine lv_istore (lv' := [(8, .int (nI 0)), (7, .int (nI 0)), (5, .long (zf_bg v a b d)), (0, .ref h0), (1, .int v), (2, .int a), (3, .int b), (4, .int d)]) hx hb dX1_count_38 hl (by decide) rfl (fun ls hl => ?_)
        have LOOP : ∀ (r j fd : Nat), j + r = ks.length → fd + (ks.drop j).countP (zk_m i a b d) = ks.countP (zk_m i a b d) → ∀ ls : Array Slot, lv_has ls 9 [(8, .int (nI j)), (7, .int (nI fd)), (5, .long (zf_bg v a b d)), (0, .ref h0), (1, .int v)] → W p l e (headSpec wsX1_count ({ frames := 2, cells := 0, slots := 0, locals := 48 })).room s m [.ref h0, .int v, .int a, .int b, .int d].toArray below meth c s.heap [] 0 0 (MQ below (zw_Q (some (.int (zs_count ks v a b d)))) [.ref h0, .int v, .int a, .int b, .int d].toArray s 0 0 (fun _ => False)) (F0 m 40 ls []) := by
          intro r
          induction r with
          | zero =>
            intro j fd h1 h2 ls hl
            rw [List.drop_eq_nil_of_le (by omega), List.countP_nil, Nat.add_zero] at h2
            refine lv_iload hx hb dX1_count_40 (lv_at hl 0 rfl) ?_
            refine lv_aload_n hx hb dX1_count_42 rfl (lv_at hl 3 rfl) ?_
            refine va_get (D := (dC, dI)) (ci := 1) (v := .int (nI ks.length)) (C := RX1) (T := TX1) (N := 4) hx hb hts (by decide +kernel) hown hK hP 0 rfl rfl 1 (by decide) (hts (.fieldLink RX1 40 "PageIndexModel" "size" "I") (by decide +kernel)) (fun _ h9 => h9) rfl dX1_count_43 ?_
            refine lv_icmp_ge (tgt := 82) hx hb dX1_count_46 (by decide) (fun c_46 => ?_) (fun c_46 => absurd (nI_le (by omega) (by omega)) c_46)
            refine lv_iload hx hb dX1_count_82 (lv_at hl 1 rfl) ?_
            refine zw_eqi (y := zs_count ks v a b d) (by rw [h2]; exact zs_count_nI hi ev) ?_
            exact W.iret hx hb hr (fun t ht hW => ⟨rfl, ht⟩) (fun q h => by cases h) dX1_count_84
          | succ r ih =>
            intro j fd h1 h2 ls hl
            have hjl : j < ks.length := by omega
            have hkb := h60 _ (zk_mem_getD hjl)
            have hfm := zk_fst_m (a := a) (b := b) (d := d) hi (ev ▸ c_19) hkb
            rw [← ev] at hfm
            rw [zk_drop_cons hjl, List.countP_cons] at h2
            refine lv_iload hx hb dX1_count_40 (lv_at hl 0 rfl) ?_
            refine lv_aload_n hx hb dX1_count_42 rfl (lv_at hl 3 rfl) ?_
            refine va_get (D := (dC, dI)) (ci := 1) (v := .int (nI ks.length)) (C := RX1) (T := TX1) (N := 4) hx hb hts (by decide +kernel) hown hK hP 0 rfl rfl 1 (by decide) (hts (.fieldLink RX1 40 "PageIndexModel" "size" "I") (by decide +kernel)) (fun _ h9 => h9) rfl dX1_count_43 ?_
            refine lv_icmp_ge (tgt := 82) hx hb dX1_count_46 (by decide) (fun c_46 => absurd c_46 (nI_ge hjl (by omega))) (fun c_46 => ?_)
            refine lv_iload hx hb dX1_count_49 (lv_at hl 1 rfl) ?_
            refine lv_aload_n hx hb dX1_count_51 rfl (lv_at hl 3 rfl) ?_
            refine va_get (D := (dC, dI)) (ci := 1) (v := .ref ha) (C := RX1) (T := TX1) (N := 4) hx hb hts (by decide +kernel) hown hK hP 0 rfl rfl 0 (by decide) (hts (.fieldLink RX1 7 "PageIndexModel" "keys" "[J") (by decide +kernel)) (fun _ h9 => h9) rfl dX1_count_52 ?_
            refine lv_iload hx hb dX1_count_55 (lv_at hl 0 rfl) ?_
            refine va_lald hx hb hK hP 1 0 rfl rfl (pk_in j 20000 (by omega) rfl (by omega)) dX1_count_57 ?_
            refine zw_eql (y := lN (ks.getD j 0)) (by rw [nI_clamp (by omega)]; exact hf _ hjl) ?_
            refine lv_iload_n hx hb dX1_count_58 rfl (lv_at hl 4 rfl) ?_
            refine zw_eqi (y := nI i) (ev) ?_
            refine zw_cl (va_runS (As := [.long (lN (ks.getD j 0)), .int (nI i)]) (rest := [.int (nI fd)]) ⟨hx, hb, hml, hown, hts⟩ (zd_first l (ks.getD j 0) i (hkb) (hi)) (va_cwS 2 hts gX1_count_X1_first rfl rfl rfl (by decide +kernel) ⟨Nat.le_of_ble_eq_true rfl, Nat.le_of_ble_eq_true rfl⟩) (preEq) rfl rfl hl.1 rfl (lv_room (Nat.le_of_ble_eq_true rfl)) dX1_count_59 ⟨Nat.zero_le _, Nat.zero_le _⟩) ?_
            refine lv_lload hx hb dX1_count_62 (lv_at hl 2 rfl) ?_
            refine W.lcmp hx hb dX1_count_64 ?_
            refine lv_if_ne (tgt := 72) hx hb dX1_count_65 (by decide) (fun c_65 => ?_) (fun c_65 => ?_)
            · rw [if_neg (fun z => c_65 ((lg_cmp_eq _ _).mpr (hfm.mpr z)))] at h2
              refine lv_iconst (v := 0) hx hb dX1_count_72 (by decide) ?_
              refine lv_iadd hx hb dX1_count_73 ?_
              refine zw_eqi (y := nI fd) (Int32.add_zero _) ?_
              refine lv_istore (lv' := [(7, .int (nI fd)), (8, .int (nI j)), (5, .long (zf_bg v a b d)), (0, .ref h0), (1, .int v)]) hx hb dX1_count_74 hl (by decide) rfl (fun ls hl => ?_)
              refine lv_iinc (v := nI (j + 1)) (lv' := [(8, .int (nI (j + 1))), (7, .int (nI fd)), (5, .long (zf_bg v a b d)), (0, .ref h0), (1, .int v)]) hx hb dX1_count_76 hl (k := 1) rfl (nI_1 _) (by decide) rfl (fun ls hl => ?_)
              refine lv_goto (tgt := 40) hx hb dX1_count_79 (by decide) ?_
              exact ih (j + 1) fd (by omega) (by omega) ls (lv_sub hl [0, 1, 2, 3, 4] rfl)
            · rw [if_pos (hfm.mp ((lg_cmp_eq _ _).mp c_65))] at h2
              refine lv_iconst (v := 1) hx hb dX1_count_68 (by decide) ?_
              refine lv_goto (tgt := 73) hx hb dX1_count_69 (by decide) ?_
              refine lv_iadd hx hb dX1_count_73 ?_
              refine zw_eqi (y := nI (fd + 1)) (nI_1 _) ?_
              refine lv_istore (lv' := [(7, .int (nI (fd + 1))), (8, .int (nI j)), (5, .long (zf_bg v a b d)), (0, .ref h0), (1, .int v)]) hx hb dX1_count_74 hl (by decide) rfl (fun ls hl => ?_)
              refine lv_iinc (v := nI (j + 1)) (lv' := [(8, .int (nI (j + 1))), (7, .int (nI (fd + 1))), (5, .long (zf_bg v a b d)), (0, .ref h0), (1, .int v)]) hx hb dX1_count_76 hl (k := 1) rfl (nI_1 _) (by decide) rfl (fun ls hl => ?_)
              refine lv_goto (tgt := 40) hx hb dX1_count_79 (by decide) ?_
              exact ih (j + 1) ((fd + 1)) (by omega) (by omega) ls (lv_sub hl [0, 1, 2, 3, 4] rfl)
        exact LOOP ks.length 0 0 (by omega) (by rw [List.drop_zero, Nat.zero_add]) ls (lv_sub hl [0, 1, 2, 3, 4] rfl)
      · refine lv_iconst (v := 0) hx hb dX1_count_22 (by decide) ?_
        refine zw_eqi (y := zs_count ks v a b d) (zs_count_no h60 hi ev c_19) ?_
        exact W.iret hx hb hr (fun t ht hW => ⟨rfl, ht⟩) (fun q h => by cases h) dX1_count_23
    · refine lv_iconst (v := (-1)) hx hb dX1_count_9 (by decide) ?_
      refine zw_eqi (y := zs_count ks v a b d) (zs_count_bad (Or.inr c_6)) ?_
      exact W.iret hx hb hr (fun t ht hW => ⟨rfl, ht⟩) (fun q h => by cases h) dX1_count_10
set_option maxHeartbeats 4000000 in
set_option maxRecDepth 100000 in
/-- different(v, a, b) -/
theorem zd_different (l : Launch) (dC : Nat → ClassId) (dI : Nat → Nat → Nat) (h0 ha : Nat) (cA : ClassId) (f : Nat → Int64) (o : Nat) (ks : List Nat) (cur : Int64) (v : Int32) (a : Int32) (b : Int32) (hG : zk_R ks f) : Met l yX1_different wsX1_different ({ frames := 2, cells := 0, slots := 0, locals := 48 }) (zw_P [.ref h0, .int v, .int a, .int b] (dC, dI) vwCl (zy_w h0 ha cA f o ks.length cur) [(cA, .long)]) (zw_Q (some (.int (zs_dif ks v a b)))) 0 0 (fun _ => False) := by
  refine Met.ofW (cc := cX1_different) (maxL := 12) (ret := (some .int)) (by decide) rfl ?_
  intro p e s m args below meth c s₁ B hml hv
  obtain ⟨rfl, hP, hK⟩ := hv
  have hx := B.exec
  have hb := B.bytes
  have hr := B.returns
  have hts := atoms_spec (ws := wsX1_different) B.pre
  have hown : s.vm.findClass RX1 = some m.cls := findClass_of_methodNamed B.named
  have hl := lv_entry ([.ref h0, .int v, .int a, .int b]) (n := 12) (Nat.le_of_ble_eq_true rfl)
  rw [lg_entry_eq]
  generalize (lg_sl ([.ref h0, .int v, .int a, .int b]) ++ List.replicate (12 - (lg_sl ([.ref h0, .int v, .int a, .int b])).length) Slot.unset).toArray = ls at hl ⊢
  have hl : lv_has ls 12 [(0, .ref h0), (1, .int v), (2, .int a), (3, .int b)] := hl
  have hP : va_P (dC, dI) vwCl (zy_w h0 ha cA f o ks.length cur) s.heap := hP
  have hG0 := hG
  obtain ⟨hs, h60, hn, hf⟩ := hG0
  refine lv_iload_n hx hb dX1_different_0 rfl (lv_at hl 1 rfl) ?_
  refine lv_if_lt (tgt := 9) hx hb dX1_different_1 (by decide) (fun c_1 => ?_) (fun c_1 => ?_)
  · refine lv_iconst (v := (-1)) hx hb dX1_different_9 (by decide) ?_
    refine zw_eqi (y := zs_dif ks v a b) (zs_dif_bad (Or.inl c_1)) ?_
    exact W.iret hx hb hr (fun t ht hW => ⟨rfl, ht⟩) (fun q h => by cases h) dX1_different_10
  · refine lv_iload_n hx hb dX1_different_4 rfl (lv_at hl 1 rfl) ?_
    refine lv_iconst (v := 2) hx hb dX1_different_5 (by decide) ?_
    refine lv_icmp_le (tgt := 11) hx hb dX1_different_6 (by decide) (fun c_6 => ?_) (fun c_6 => ?_)
    · obtain ⟨i, hi, ev⟩ := nI_of2 (x := v) (M := 2) (n := 2) (by decide) c_1 c_6
      refine lv_iload_n hx hb dX1_different_11 rfl (lv_at hl 1 rfl) ?_
      refine lv_iload_n hx hb dX1_different_12 rfl (lv_at hl 2 rfl) ?_
      refine lv_iload_n hx hb dX1_different_13 rfl (lv_at hl 3 rfl) ?_
      refine lv_iconst (v := 0) hx hb dX1_different_14 (by decide) ?_
      refine zw_ci (va_runS (As := [.int v, .int a, .int b, .int 0]) (rest := []) ⟨hx, hb, hml, hown, hts⟩ (zd_areNumbers l v a b 0) (va_cwS 4 hts gX1_different_X1_areNumbers rfl rfl rfl (by decide +kernel) ⟨Nat.le_of_ble_eq_true rfl, Nat.le_of_ble_eq_true rfl⟩) (preEq) rfl rfl hl.1 rfl (lv_room (Nat.le_of_ble_eq_true rfl)) dX1_different_15 ⟨Nat.zero_le _, Nat.zero_le _⟩) ?_
      refine zw_ifne (tgt := 23) hx hb dX1_different_18 (by decide) (fun c_18 => ?_) (fun c_18 => ?_)
      · refine lv_iload_n hx hb dX1_different_23 rfl (lv_at hl 1 rfl) ?_
        refine lv_iload_n hx hb dX1_different_24 rfl (lv_at hl 2 rfl) ?_
        refine lv_iload_n hx hb dX1_different_25 rfl (lv_at hl 3 rfl) ?_
        refine lv_iconst (v := 0) hx hb dX1_different_26 (by decide) ?_
        refine zw_cl (va_runS (As := [.int v, .int a, .int b, .int 0]) (rest := []) ⟨hx, hb, hml, hown, hts⟩ (zd_beginning l v a b 0) (va_cwS 4 hts gX1_different_X1_beginning rfl rfl rfl (by decide +kernel) ⟨Nat.le_of_ble_eq_true rfl, Nat.le_of_ble_eq_true rfl⟩) (preEq) rfl rfl hl.1 rfl (lv_room (Nat.le_of_ble_eq_true rfl)) dX1_different_27 ⟨Nat.zero_le _, Nat.zero_le _⟩) ?_
        refine lv_lstore (lv' := [(4, .long (zf_bg v a b 0)), (0, .ref h0), (1, .int v), (2, .int a), (3, .int b)]) hx hb dX1_different_30 hl (by decide) rfl (fun ls hl => ?_)
        refine lv_iconst (v := 0) hx hb dX1_different_32 (by decide) ?_
        refine zw_eqi (y := nI 0) (nI_0.symm) ?_
        refine lv_istore (lv' := [(6, .int (nI 0)), (4, .long (zf_bg v a b 0)), (0, .ref h0), (1, .int v), (2, .int a), (3, .int b)]) hx hb dX1_different_33 hl (by decide) rfl (fun ls hl => ?_)
        refine lv_ldc2 (v := (-1)) hx hb hown (hts (.constantLong RX1 13 (-1)) (by decide +kernel)) dX1_different_35 ?_
        refine zw_eql (y := zk_o none) (rfl) ?_
        refine lv_lstore (lv' := [(7, .long (zk_o none)), (6, .int (nI 0)), (4, .long (zf_bg v a b 0)), (0, .ref h0), (1, .int v), (2, .int a), (3, .int b)]) hx hb dX1_different_38 hl (by decide) rfl (fun ls hl => ?_)
        refine lv_iconst (v := 0) hx hb dX1_different_40 (by decide) ?_
        refine zw_eqi (y := nI 0) (nI_0.symm) ?_
        refine lv_istore (lv' := [(9, .int (nI 0)), (7, .long (zk_o none)), (6, .int (nI 0)), (4, .long (zf_bg v a b 0)), (0, .ref h0), (1, .int v), (2, .int a), (3, .int b)]) hx hb dX1_different_41 hl (by decide) rfl (fun ls hl => ?_)
        have LOOP : ∀ (r j fd : Nat) (lo : Option Nat), j + r = ks.length → (∀ z, lo = some z → z < 9223372036854775808) → fd + zk_ch lo (((ks.drop j).filter (zk_m i a b 0)).map (zk_fst (i + 1))) = zk_ch none ((ks.filter (zk_m i a b 0)).map (zk_fst (i + 1))) → ∀ ls : Array Slot, lv_has ls 12 [(9, .int (nI j)), (7, .long (zk_o lo)), (6, .int (nI fd)), (4, .long (zf_bg v a b 0)), (0, .ref h0), (1, .int v)] → W p l e (headSpec wsX1_different ({ frames := 2, cells := 0, slots := 0, locals := 48 })).room s m [.ref h0, .int v, .int a, .int b].toArray below meth c s.heap [] 0 0 (MQ below (zw_Q (some (.int (zs_dif ks v a b)))) [.ref h0, .int v, .int a, .int b].toArray s 0 0 (fun _ => False)) (F0 m 43 ls []) := by
          intro r
          induction r with
          | zero =>
            intro j fd lo h1 hlo h2 ls hl
            rw [List.drop_eq_nil_of_le (by omega)] at h2
            have h2 : fd + 0 = _ := h2
            refine lv_iload hx hb dX1_different_43 (lv_at hl 0 rfl) ?_
            refine lv_aload_n hx hb dX1_different_45 rfl (lv_at hl 4 rfl) ?_
            refine va_get (D := (dC, dI)) (ci := 1) (v := .int (nI ks.length)) (C := RX1) (T := TX1) (N := 4) hx hb hts (by decide +kernel) hown hK hP 0 rfl rfl 1 (by decide) (hts (.fieldLink RX1 40 "PageIndexModel" "size" "I") (by decide +kernel)) (fun _ h9 => h9) rfl dX1_different_46 ?_
            refine lv_icmp_ge (tgt := 108) hx hb dX1_different_49 (by decide) (fun c_49 => ?_) (fun c_49 => absurd (nI_le (by omega) (by omega)) c_49)
            refine lv_iload hx hb dX1_different_108 (lv_at hl 2 rfl) ?_
            refine zw_eqi (y := zs_dif ks v a b) (by rw [← zs_dif_nI hs h60 hi ev, ← h2, Nat.add_zero]) ?_
            exact W.iret hx hb hr (fun t ht hW => ⟨rfl, ht⟩) (fun q h => by cases h) dX1_different_110
          | succ r ih =>
            intro j fd lo h1 hlo h2 ls hl
            have hjl : j < ks.length := by omega
            have hkb := h60 _ (zk_mem_getD hjl)
            have hfm := zk_fst_m (a := a) (b := b) (d := 0) (show i ≤ 3 by omega) (ev ▸ c_18) hkb
            rw [← ev] at hfm
            have hfl := zk_fst_le (i + 1) (ks.getD j 0)
            have hoe := zk_o_eq (o := lo) (q := zk_fst (i + 1) (ks.getD j 0)) (by omega) hlo
            rw [zk_drop_cons hjl] at h2
            refine lv_iload hx hb dX1_different_43 (lv_at hl 0 rfl) ?_
            refine lv_aload_n hx hb dX1_different_45 rfl (lv_at hl 4 rfl) ?_
            refine va_get (D := (dC, dI)) (ci := 1) (v := .int (nI ks.length)) (C := RX1) (T := TX1) (N := 4) hx hb hts (by decide +kernel) hown hK hP 0 rfl rfl 1 (by decide) (hts (.fieldLink RX1 40 "PageIndexModel" "size" "I") (by decide +kernel)) (fun _ h9 => h9) rfl dX1_different_46 ?_
            refine lv_icmp_ge (tgt := 108) hx hb dX1_different_49 (by decide) (fun c_49 => absurd c_49 (nI_ge hjl (by omega))) (fun c_49 => ?_)
            refine lv_aload_n hx hb dX1_different_52 rfl (lv_at hl 4 rfl) ?_
            refine va_get (D := (dC, dI)) (ci := 1) (v := .ref ha) (C := RX1) (T := TX1) (N := 4) hx hb hts (by decide +kernel) hown hK hP 0 rfl rfl 0 (by decide) (hts (.fieldLink RX1 7 "PageIndexModel" "keys" "[J") (by decide +kernel)) (fun _ h9 => h9) rfl dX1_different_53 ?_
            refine lv_iload hx hb dX1_different_56 (lv_at hl 0 rfl) ?_
            refine va_lald hx hb hK hP 1 0 rfl rfl (pk_in j 20000 (by omega) rfl (by omega)) dX1_different_58 ?_
            refine zw_eql (y := lN (ks.getD j 0)) (by rw [nI_clamp (by omega)]; exact hf _ hjl) ?_
            refine lv_iload_n hx hb dX1_different_59 rfl (lv_at hl 5 rfl) ?_
            refine lv_iconst (v := 1) hx hb dX1_different_60 (by decide) ?_
            refine lv_iadd hx hb dX1_different_61 ?_
            refine zw_eqi (y := nI (i + 1)) (by rw [ev]; exact nI_1 _) ?_
            refine zw_cl (va_runS (As := [.long (lN (ks.getD j 0)), .int (nI (i + 1))]) (rest := []) ⟨hx, hb, hml, hown, hts⟩ (zd_first l (ks.getD j 0) (i + 1) (hkb) (by omega)) (va_cwS 2 hts gX1_different_X1_first rfl rfl rfl (by decide +kernel) ⟨Nat.le_of_ble_eq_true rfl, Nat.le_of_ble_eq_true rfl⟩) (preEq) rfl rfl hl.1 rfl (lv_room (Nat.le_of_ble_eq_true rfl)) dX1_different_62 ⟨Nat.zero_le _, Nat.zero_le _⟩) ?_
            refine lv_lstore (lv' := [(10, .long (lN (zk_fst (i + 1) (ks.getD j 0)))), (9, .int (nI j)), (7, .long (zk_o lo)), (6, .int (nI fd)), (4, .long (zf_bg v a b 0)), (0, .ref h0), (1, .int v)]) hx hb dX1_different_65 hl (by decide) rfl (fun ls hl => ?_)
            refine lv_aload_n hx hb dX1_different_67 rfl (lv_at hl 5 rfl) ?_
            refine va_get (D := (dC, dI)) (ci := 1) (v := .ref ha) (C := RX1) (T := TX1) (N := 4) hx hb hts (by decide +kernel) hown hK hP 0 rfl rfl 0 (by decide) (hts (.fieldLink RX1 7 "PageIndexModel" "keys" "[J") (by decide +kernel)) (fun _ h9 => h9) rfl dX1_different_68 ?_
            refine lv_iload hx hb dX1_different_71 (lv_at hl 1 rfl) ?_
            refine va_lald hx hb hK hP 1 0 rfl rfl (pk_in j 20000 (by omega) rfl (by omega)) dX1_different_73 ?_
            refine zw_eql (y := lN (ks.getD j 0)) (by rw [nI_clamp (by omega)]; exact hf _ hjl) ?_
            refine lv_iload_n hx hb dX1_different_74 rfl (lv_at hl 6 rfl) ?_
            refine zw_eqi (y := nI i) (ev) ?_
            refine zw_cl (va_runS (As := [.long (lN (ks.getD j 0)), .int (nI i)]) (rest := []) ⟨hx, hb, hml, hown, hts⟩ (zd_first l (ks.getD j 0) i (hkb) (by omega)) (va_cwS 2 hts gX1_different_X1_first rfl rfl rfl (by decide +kernel) ⟨Nat.le_of_ble_eq_true rfl, Nat.le_of_ble_eq_true rfl⟩) (preEq) rfl rfl hl.1 rfl (lv_room (Nat.le_of_ble_eq_true rfl)) dX1_different_75 ⟨Nat.zero_le _, Nat.zero_le _⟩) ?_
            refine lv_lload hx hb dX1_different_78 (lv_at hl 4 rfl) ?_
            refine W.lcmp hx hb dX1_different_80 ?_
            refine lv_if_ne (tgt := 102) hx hb dX1_different_81 (by decide) (fun c_81 => ?_) (fun c_81 => ?_)
            · rw [List.filter_cons_of_neg (fun z => c_81 ((lg_cmp_eq _ _).mpr (hfm.mpr z)))] at h2
              refine lv_iinc (v := nI (j + 1)) (lv' := [(9, .int (nI (j + 1))), (10, .long (lN (zk_fst (i + 1) (ks.getD j 0)))), (7, .long (zk_o lo)), (6, .int (nI fd)), (4, .long (zf_bg v a b 0)), (0, .ref h0), (1, .int v)]) hx hb dX1_different_102 hl (k := 1) rfl (nI_1 _) (by decide) rfl (fun ls hl => ?_)
              refine lv_goto (tgt := 43) hx hb dX1_different_105 (by decide) ?_
              exact ih (j + 1) fd lo (by omega) hlo (by omega) ls (lv_sub hl [0, 2, 3, 4, 5, 6] rfl)
            · rw [List.filter_cons_of_pos (hfm.mp ((lg_cmp_eq _ _).mp c_81)), List.map_cons, zk_ch] at h2
              refine lv_lload hx hb dX1_different_84 (lv_at hl 0 rfl) ?_
              refine lv_lload hx hb dX1_different_86 (lv_at hl 2 rfl) ?_
              refine W.lcmp hx hb dX1_different_88 ?_
              refine lv_if_ne (tgt := 95) hx hb dX1_different_89 (by decide) (fun c_89 => ?_) (fun c_89 => ?_)
              · rw [if_neg (fun z => c_89 ((lg_cmp_eq _ _).mpr (hoe.mpr z)))] at h2
                refine lv_iinc (v := nI (fd + 1)) (lv' := [(6, .int (nI (fd + 1))), (10, .long (lN (zk_fst (i + 1) (ks.getD j 0)))), (9, .int (nI j)), (7, .long (zk_o lo)), (4, .long (zf_bg v a b 0)), (0, .ref h0), (1, .int v)]) hx hb dX1_different_95 hl (k := 3) rfl (nI_1 _) (by decide) rfl (fun ls hl => ?_)
                refine lv_lload hx hb dX1_different_98 (lv_at hl 1 rfl) ?_
                refine zw_eql (y := zk_o (some (zk_fst (i + 1) (ks.getD j 0)))) (rfl) ?_
                refine lv_lstore (lv' := [(7, .long (zk_o (some (zk_fst (i + 1) (ks.getD j 0))))), (6, .int (nI (fd + 1))), (10, .long (lN (zk_fst (i + 1) (ks.getD j 0)))), (9, .int (nI j)), (4, .long (zf_bg v a b 0)), (0, .ref h0), (1, .int v)]) hx hb dX1_different_100 hl (by decide) rfl (fun ls hl => ?_)
                refine lv_iinc (v := nI (j + 1)) (lv' := [(9, .int (nI (j + 1))), (7, .long (zk_o (some (zk_fst (i + 1) (ks.getD j 0))))), (6, .int (nI (fd + 1))), (10, .long (lN (zk_fst (i + 1) (ks.getD j 0)))), (4, .long (zf_bg v a b 0)), (0, .ref h0), (1, .int v)]) hx hb dX1_different_102 hl (k := 3) rfl (nI_1 _) (by decide) rfl (fun ls hl => ?_)
                refine lv_goto (tgt := 43) hx hb dX1_different_105 (by decide) ?_
                exact ih (j + 1) ((fd + 1)) (some (zk_fst (i + 1) (ks.getD j 0))) (by omega) (fun z hz => by cases hz; omega) (by omega) ls (lv_sub hl [0, 1, 2, 4, 5, 6] rfl)
              · have e89 := hoe.mp ((lg_cmp_eq _ _).mp c_89)
                rw [if_pos e89, e89] at h2
                refine lv_goto (tgt := 102) hx hb dX1_different_92 (by decide) ?_
                refine lv_iinc (v := nI (j + 1)) (lv' := [(9, .int (nI (j + 1))), (10, .long (lN (zk_fst (i + 1) (ks.getD j 0)))), (7, .long (zk_o lo)), (6, .int (nI fd)), (4, .long (zf_bg v a b 0)), (0, .ref h0), (1, .int v)]) hx hb dX1_different_102 hl (k := 1) rfl (nI_1 _) (by decide) rfl (fun ls hl => ?_)
                refine lv_goto (tgt := 43) hx hb dX1_different_105 (by decide) ?_
                exact ih (j + 1) fd lo (by omega) hlo (by omega) ls (lv_sub hl [0, 2, 3, 4, 5, 6] rfl)
        exact LOOP ks.length 0 0 none (by omega) (fun z hz => by cases hz) (by rw [List.drop_zero, Nat.zero_add]) ls (lv_sub hl [0, 1, 2, 3, 4, 5] rfl)
      · refine lv_iconst (v := 0) hx hb dX1_different_21 (by decide) ?_
        refine zw_eqi (y := zs_dif ks v a b) (zs_dif_no hs h60 hi ev c_18) ?_
        exact W.iret hx hb hr (fun t ht hW => ⟨rfl, ht⟩) (fun q h => by cases h) dX1_different_22
    · refine lv_iconst (v := (-1)) hx hb dX1_different_9 (by decide) ?_
      refine zw_eqi (y := zs_dif ks v a b) (zs_dif_bad (Or.inr c_6)) ?_
      exact W.iret hx hb hr (fun t ht hW => ⟨rfl, ht⟩) (fun q h => by cases h) dX1_different_10
