set_option maxHeartbeats 4000000 in
set_option maxRecDepth 100000 in
/-- cut(v, a, b, d) -/
theorem zd_cut (l : Launch) (dC : Nat → ClassId) (dI : Nat → Nat → Nat) (h0 ha : Nat) (cA : ClassId) (f : Nat → Int64) (o : Nat) (ks : List Nat) (cur : Int64) (sz : Nat) (v : Int32) (a : Int32) (b : Int32) (d : Int32) (hG : zk_R ks f) : Met l yX1_cut wsX1_cut ({ frames := 2, cells := 0, slots := 0, locals := 48 }) (zw_Pw [.ref h0, .int v, .int a, .int b, .int d] (dC, dI) vwCl (zy_w h0 ha cA f o ks.length cur) [(cA, .long)] sz) (zy_Q dC dI h0 ha cA o (some (.int (cond (zs_bad v) (-1) (nI (zk_en ks v a b d) - nI (zk_st ks v a b d))))) (cond (zs_bad v) ks (zk_del ks (zk_st ks v a b d) (zk_en ks v a b d))) (cur) (va_A (zy_w h0 ha cA f o ks.length cur) sz)) 0 0 (va_A (zy_w h0 ha cA f o ks.length cur) sz) := by
  refine Met.ofW (cc := cX1_cut) (maxL := 9) (ret := (some .int)) (by decide) rfl ?_
  intro p e s m args below meth c s₁ B hml hv
  obtain ⟨rfl, hsz, hP, hK, hD0⟩ := hv
  have hx := B.exec
  have hb := B.bytes
  have hr := B.returns
  have hts := atoms_spec (ws := wsX1_cut) B.pre
  have hown : s.vm.findClass RX1 = some m.cls := findClass_of_methodNamed B.named
  subst hsz
  have hD := hD0.self (sz := s.heap.size)
  generalize hAe : va_A (zy_w h0 ha cA f o ks.length cur) s.heap.size = A at hD ⊢
  have hA : ∀ q : Nat, s.heap.size ≤ q → A q := fun q h => by rw [← hAe]; exact Or.inr h
  have hS : va_S A s.heap s.heap [] := va_S.rf
  have hP : va_P (dC, dI) vwCl (zy_w h0 ha cA f o ks.length cur) s.heap := hP
  have hl := lv_entry ([.ref h0, .int v, .int a, .int b, .int d]) (n := 9) (Nat.le_of_ble_eq_true rfl)
  rw [lg_entry_eq]
  generalize (lg_sl ([.ref h0, .int v, .int a, .int b, .int d]) ++ List.replicate (9 - (lg_sl ([.ref h0, .int v, .int a, .int b, .int d])).length) Slot.unset).toArray = ls at hl ⊢
  have hl : lv_has ls 9 [(0, .ref h0), (1, .int v), (2, .int a), (3, .int b), (4, .int d)] := hl
  cases hz : zs_bad v with
  | true =>
    refine lv_iload_n hx hb dX1_cut_0 rfl (lv_at hl 1 rfl) ?_
    refine lv_if_lt (tgt := 9) hx hb dX1_cut_1 (by decide) (fun c_1 => ?_) (fun c_1 => ?_)
    · refine lv_iconst (v := (-1)) hx hb dX1_cut_9 (by decide) ?_
      exact W.iret hx hb hr (fun t ht hW => ⟨⟨f, rfl, hG, by rw [ht]; exact hP, va_K.moved hW.alike hK, hD⟩, hS.F ht⟩) hS.2.2 dX1_cut_10
    · refine lv_iload_n hx hb dX1_cut_4 rfl (lv_at hl 1 rfl) ?_
      refine lv_iconst (v := 3) hx hb dX1_cut_5 (by decide) ?_
      refine lv_icmp_le (tgt := 11) hx hb dX1_cut_6 (by decide) (fun c_6 => ?_) (fun c_6 => ?_)
      · exact absurd hz (by simp [zs_bad, c_1, c_6])
      · refine lv_iconst (v := (-1)) hx hb dX1_cut_9 (by decide) ?_
        exact W.iret hx hb hr (fun t ht hW => ⟨⟨f, rfl, hG, by rw [ht]; exact hP, va_K.moved hW.alike hK, hD⟩, hS.F ht⟩) hS.2.2 dX1_cut_10
  | false =>
    have c1 : ¬ v < 0 := by intro q; simp [zs_bad, q] at hz
    have c6 : v ≤ 3 := by
      rcases Decidable.em (v ≤ 3) with q | q
      · exact q
      · exact absurd hz (by simp [zs_bad, q])
    obtain ⟨i, hi, ev⟩ := nI_of2 (x := v) (M := 3) (n := 3) (by decide) c1 c6
    have hG0 := hG
    obtain ⟨hs, h60, hn, hf⟩ := hG0
    have hse := zk_se hs h60 (i := i) (v := v) (a := a) (b := b) (d := d) hi ev
    have hcv : nI (zk_en ks v a b d) - nI (zk_st ks v a b d) = nI (ks.countP (zk_m i a b d)) := by rw [pk_sub hse.1, hse.2.2.1]
    cases hfn : zf_fn v a b d with
    | false =>
      have hk0 := zk_cut_no h60 hi ev hfn
      refine lv_iload_n hx hb dX1_cut_0 rfl (lv_at hl 1 rfl) ?_
      refine lv_if_lt (tgt := 9) hx hb dX1_cut_1 (by decide) (fun c_1 => absurd c_1 (c1)) (fun c_1 => ?_)
      refine lv_iload_n hx hb dX1_cut_4 rfl (lv_at hl 1 rfl) ?_
      refine lv_iconst (v := 3) hx hb dX1_cut_5 (by decide) ?_
      refine lv_icmp_le (tgt := 11) hx hb dX1_cut_6 (by decide) (fun c_6 => ?_) (fun c_6 => absurd (c6) c_6)
      refine lv_iload_n hx hb dX1_cut_11 rfl (lv_at hl 1 rfl) ?_
      refine lv_iload_n hx hb dX1_cut_12 rfl (lv_at hl 2 rfl) ?_
      refine lv_iload_n hx hb dX1_cut_13 rfl (lv_at hl 3 rfl) ?_
      refine lv_iload hx hb dX1_cut_14 (lv_at hl 4 rfl) ?_
      refine zw_ci (va_runS (As := [.int v, .int a, .int b, .int d]) (rest := []) ⟨hx, hb, hml, hown, hts⟩ (zd_areNumbers l v a b d) (va_cwS 4 hts gX1_cut_X1_areNumbers rfl rfl rfl (by decide +kernel) ⟨Nat.le_of_ble_eq_true rfl, Nat.le_of_ble_eq_true rfl⟩) (preEq) rfl rfl hl.1 rfl (lv_room (Nat.le_of_ble_eq_true rfl)) dX1_cut_16 ⟨Nat.zero_le _, Nat.zero_le _⟩) ?_
      refine zw_ifne (tgt := 24) hx hb dX1_cut_19 (by decide) (fun c_19 => absurd ((hfn).symm.trans c_19) (by decide)) (fun c_19 => ?_)
      refine lv_iconst (v := 0) hx hb dX1_cut_22 (by decide) ?_
      have hP : va_P (dC, dI) vwCl (zy_w h0 ha cA f o (zk_del ks (zk_st ks v a b d) (zk_en ks v a b d)).length cur) s.heap := by rw [show zk_del ks (zk_st ks v a b d) (zk_en ks v a b d) = ks from hse.2.2.2.1.trans hk0.1]; exact hP
      have hD : va_D A (zy_w h0 ha cA f o (zk_del ks (zk_st ks v a b d) (zk_en ks v a b d)).length cur) := by rw [show zk_del ks (zk_st ks v a b d) (zk_en ks v a b d) = ks from hse.2.2.2.1.trans hk0.1]; exact hD
      refine zw_eqi (y := nI (zk_en ks v a b d) - nI (zk_st ks v a b d)) (by rw [hcv, hk0.2]; rfl) ?_
      exact W.iret hx hb hr (fun t ht hW => ⟨⟨f, rfl, by rw [show zk_del ks (zk_st ks v a b d) (zk_en ks v a b d) = ks from hse.2.2.2.1.trans hk0.1]; exact hG, by rw [ht]; exact hP, va_K.moved hW.alike hK, hD⟩, hS.F ht⟩) hS.2.2 dX1_cut_23
    | true =>
      refine lv_iload_n hx hb dX1_cut_0 rfl (lv_at hl 1 rfl) ?_
      refine lv_if_lt (tgt := 9) hx hb dX1_cut_1 (by decide) (fun c_1 => absurd c_1 (c1)) (fun c_1 => ?_)
      refine lv_iload_n hx hb dX1_cut_4 rfl (lv_at hl 1 rfl) ?_
      refine lv_iconst (v := 3) hx hb dX1_cut_5 (by decide) ?_
      refine lv_icmp_le (tgt := 11) hx hb dX1_cut_6 (by decide) (fun c_6 => ?_) (fun c_6 => absurd (c6) c_6)
      refine lv_iload_n hx hb dX1_cut_11 rfl (lv_at hl 1 rfl) ?_
      refine lv_iload_n hx hb dX1_cut_12 rfl (lv_at hl 2 rfl) ?_
      refine lv_iload_n hx hb dX1_cut_13 rfl (lv_at hl 3 rfl) ?_
      refine lv_iload hx hb dX1_cut_14 (lv_at hl 4 rfl) ?_
      refine zw_ci (va_runS (As := [.int v, .int a, .int b, .int d]) (rest := []) ⟨hx, hb, hml, hown, hts⟩ (zd_areNumbers l v a b d) (va_cwS 4 hts gX1_cut_X1_areNumbers rfl rfl rfl (by decide +kernel) ⟨Nat.le_of_ble_eq_true rfl, Nat.le_of_ble_eq_true rfl⟩) (preEq) rfl rfl hl.1 rfl (lv_room (Nat.le_of_ble_eq_true rfl)) dX1_cut_16 ⟨Nat.zero_le _, Nat.zero_le _⟩) ?_
      refine zw_ifne (tgt := 24) hx hb dX1_cut_19 (by decide) (fun c_19 => ?_) (fun c_19 => absurd ((hfn).symm.trans c_19) (by decide))
      refine lv_iload_n hx hb dX1_cut_24 rfl (lv_at hl 1 rfl) ?_
      refine lv_iload_n hx hb dX1_cut_25 rfl (lv_at hl 2 rfl) ?_
      refine lv_iload_n hx hb dX1_cut_26 rfl (lv_at hl 3 rfl) ?_
      refine lv_iload hx hb dX1_cut_27 (lv_at hl 4 rfl) ?_
      refine zw_cl (va_runS (As := [.int v, .int a, .int b, .int d]) (rest := []) ⟨hx, hb, hml, hown, hts⟩ (zd_beginning l v a b d) (va_cwS 4 hts gX1_cut_X1_beginning rfl rfl rfl (by decide +kernel) ⟨Nat.le_of_ble_eq_true rfl, Nat.le_of_ble_eq_true rfl⟩) (preEq) rfl rfl hl.1 rfl (lv_room (Nat.le_of_ble_eq_true rfl)) dX1_cut_29 ⟨Nat.zero_le _, Nat.zero_le _⟩) ?_
      refine lv_lstore (lv' := [(5, .long (zf_bg v a b d)), (0, .ref h0), (1, .int v), (2, .int a), (3, .int b), (4, .int d)]) hx hb dX1_cut_32 hl (by decide) rfl (fun ls hl => ?_)
      refine lv_iconst (v := 0) hx hb dX1_cut_34 (by decide) ?_
      refine zw_eqi (y := nI 0) (nI_0.symm) ?_
      refine lv_istore (lv' := [(7, .int (nI 0)), (5, .long (zf_bg v a b d)), (0, .ref h0), (1, .int v), (2, .int a), (3, .int b), (4, .int d)]) hx hb dX1_cut_35 hl (by decide) rfl (fun ls hl => ?_)
      refine lv_iconst (v := 0) hx hb dX1_cut_37 (by decide) ?_
      refine zw_eqi (y := nI 0) (nI_0.symm) ?_
      refine lv_istore (lv' := [(8, .int (nI 0)), (7, .int (nI 0)), (5, .long (zf_bg v a b d)), (0, .ref h0), (1, .int v), (2, .int a), (3, .int b), (4, .int d)]) hx hb dX1_cut_38 hl (by decide) rfl (fun ls hl => ?_)
      have LOOP : ∀ (r j kp : Nat) (fk : Nat → Int64), j + r = ks.length → zk_cu ks (zk_m i a b d) f fk j kp → ∀ (H : Heap) (locs : List Loc), va_P (dC, dI) vwCl (zy_w h0 ha cA fk o ks.length cur) H → va_D A (zy_w h0 ha cA fk o ks.length cur) → va_S A s.heap H locs → ∀ ls : Array Slot, lv_has ls 9 [(8, .int (nI j)), (7, .int (nI kp)), (5, .long (zf_bg v a b d)), (0, .ref h0), (1, .int v)] → W p l e (headSpec wsX1_cut ({ frames := 2, cells := 0, slots := 0, locals := 48 })).room s m [.ref h0, .int v, .int a, .int b, .int d].toArray below meth c H locs 0 0 (MQ below (zy_Q dC dI h0 ha cA o (some (.int (cond false (-1) (nI (zk_en ks v a b d) - nI (zk_st ks v a b d))))) (cond false ks (zk_del ks (zk_st ks v a b d) (zk_en ks v a b d))) (cur) A) [.ref h0, .int v, .int a, .int b, .int d].toArray s 0 0 A) (F0 m 40 ls []) := by
        intro r
        induction r with
        | zero =>
          intro j kp fk h1 hu H locs hP hD hS ls hl
          have ej : j = ks.length := by omega
          have hce := zk_cu_end hG (ej ▸ hu)
          have hkpj := zk_cu_le hu
          have hde := hse.2.2.2.1
          refine lv_iload hx hb dX1_cut_40 (lv_at hl 0 rfl) ?_
          refine lv_aload_n hx hb dX1_cut_42 rfl (lv_at hl 3 rfl) ?_
          refine va_get (D := (dC, dI)) (ci := 1) (v := .int (nI ks.length)) (C := RX1) (T := TX1) (N := 4) hx hb hts (by decide +kernel) hown hK hP 0 rfl rfl 1 (by decide) (hts (.fieldLink RX1 40 "PageIndexModel" "size" "I") (by decide +kernel)) (fun _ h9 => h9) rfl dX1_cut_43 ?_
          refine lv_icmp_ge (tgt := 92) hx hb dX1_cut_46 (by decide) (fun c_46 => ?_) (fun c_46 => absurd (nI_le (by omega) (by omega)) c_46)
          refine lv_aload_n hx hb dX1_cut_92 rfl (lv_at hl 3 rfl) ?_
          refine va_get (D := (dC, dI)) (ci := 1) (v := .int (nI ks.length)) (C := RX1) (T := TX1) (N := 4) hx hb hts (by decide +kernel) hown hK hP 0 rfl rfl 1 (by decide) (hts (.fieldLink RX1 40 "PageIndexModel" "size" "I") (by decide +kernel)) (fun _ h9 => h9) rfl dX1_cut_93 ?_
          refine lv_iload hx hb dX1_cut_96 (lv_at hl 1 rfl) ?_
          refine lv_isub hx hb dX1_cut_98 ?_
          refine zw_eqi (y := nI (zk_en ks v a b d) - nI (zk_st ks v a b d)) (by rw [hcv, pk_sub (by omega), hce.2.1]) ?_
          refine lv_istore (lv' := [(8, .int (nI (zk_en ks v a b d) - nI (zk_st ks v a b d))), (7, .int (nI kp)), (5, .long (zf_bg v a b d)), (0, .ref h0), (1, .int v)]) hx hb dX1_cut_99 hl (by decide) rfl (fun ls hl => ?_)
          refine lv_aload_n hx hb dX1_cut_101 rfl (lv_at hl 3 rfl) ?_
          refine lv_iload hx hb dX1_cut_102 (lv_at hl 1 rfl) ?_
          refine zw_eqi (y := nI (zk_del ks (zk_st ks v a b d) (zk_en ks v a b d)).length) (by rw [hde, ← hce.1]) ?_
          refine va_put (D := (dC, dI)) (ci := 1) (v := .int (nI (zk_del ks (zk_st ks v a b d) (zk_en ks v a b d)).length)) (ty := .int) (C := RX1) (T := TX1) (N := 4) hx hb hts (by decide +kernel) tyX1 tyX1_ok nmX1 hown hK hP hD hS 0 rfl rfl 1 (by decide) (hts (.fieldLink RX1 40 "PageIndexModel" "size" "I") (by decide +kernel)) (fun _ h9 => h9) rfl (by decide +kernel) rfl rfl (Nat.le_of_ble_eq_true rfl) dX1_cut_104 (fun H locs hP hD hS => ?_)
          have hP : va_P (dC, dI) vwCl (zy_w h0 ha cA fk o ((zk_del ks (zk_st ks v a b d) (zk_en ks v a b d)).length) cur) H := hP
          have hD : va_D A (zy_w h0 ha cA fk o ((zk_del ks (zk_st ks v a b d) (zk_en ks v a b d)).length) cur) := hD
          refine lv_iload hx hb dX1_cut_107 (lv_at hl 0 rfl) ?_
          exact W.iret hx hb hr (fun t ht hW => ⟨⟨fk, rfl, by rw [hde]; exact hce.2.2, by rw [ht]; exact hP, va_K.moved hW.alike hK, hD⟩, hS.F ht⟩) hS.2.2 dX1_cut_109
        | succ r ih =>
          intro j kp fk h1 hu H locs hP hD hS ls hl
          have hjl : j < ks.length := by omega
          have hkb := h60 _ (zk_mem_getD hjl)
          have hfm := zk_fst_m (a := a) (b := b) (d := d) hi (ev ▸ hfn) hkb
          rw [← ev] at hfm
          have hkpj := zk_cu_le hu
          have hfj : fk j = lN (ks.getD j 0) := (hu.2.2 j (Nat.le_refl _)).trans (hf j hjl)
          refine lv_iload hx hb dX1_cut_40 (lv_at hl 0 rfl) ?_
          refine lv_aload_n hx hb dX1_cut_42 rfl (lv_at hl 3 rfl) ?_
          refine va_get (D := (dC, dI)) (ci := 1) (v := .int (nI ks.length)) (C := RX1) (T := TX1) (N := 4) hx hb hts (by decide +kernel) hown hK hP 0 rfl rfl 1 (by decide) (hts (.fieldLink RX1 40 "PageIndexModel" "size" "I") (by decide +kernel)) (fun _ h9 => h9) rfl dX1_cut_43 ?_
          refine lv_icmp_ge (tgt := 92) hx hb dX1_cut_46 (by decide) (fun c_46 => absurd c_46 (nI_ge hjl (by omega))) (fun c_46 => ?_)
          refine lv_aload_n hx hb dX1_cut_49 rfl (lv_at hl 3 rfl) ?_
          refine va_get (D := (dC, dI)) (ci := 1) (v := .ref ha) (C := RX1) (T := TX1) (N := 4) hx hb hts (by decide +kernel) hown hK hP 0 rfl rfl 0 (by decide) (hts (.fieldLink RX1 7 "PageIndexModel" "keys" "[J") (by decide +kernel)) (fun _ h9 => h9) rfl dX1_cut_50 ?_
          refine lv_iload hx hb dX1_cut_53 (lv_at hl 0 rfl) ?_
          refine va_lald hx hb hK hP 1 0 rfl rfl (pk_in j 20000 (by omega) rfl (by omega)) dX1_cut_55 ?_
          refine zw_eql (y := lN (ks.getD j 0)) (by rw [nI_clamp (by omega)]; exact hfj) ?_
          refine lv_iload_n hx hb dX1_cut_56 rfl (lv_at hl 4 rfl) ?_
          refine zw_eqi (y := nI i) (ev) ?_
          refine zw_cl (va_runS (As := [.long (lN (ks.getD j 0)), .int (nI i)]) (rest := []) ⟨hx, hb, hml, hown, hts⟩ (zd_first l (ks.getD j 0) i (hkb) (hi)) (va_cwS 2 hts gX1_cut_X1_first rfl rfl rfl (by decide +kernel) ⟨Nat.le_of_ble_eq_true rfl, Nat.le_of_ble_eq_true rfl⟩) (preEq) rfl rfl hl.1 rfl (lv_room (Nat.le_of_ble_eq_true rfl)) dX1_cut_57 ⟨Nat.zero_le _, Nat.zero_le _⟩) ?_
          refine lv_lload hx hb dX1_cut_60 (lv_at hl 2 rfl) ?_
          refine W.lcmp hx hb dX1_cut_62 ?_
          refine lv_if_ne (tgt := 69) hx hb dX1_cut_63 (by decide) (fun c_63 => ?_) (fun c_63 => ?_)
          · have hmm : zk_m i a b d (ks.getD j 0) = false := by
              cases hq : zk_m i a b d (ks.getD j 0) with
              | false => rfl
              | true => exact absurd ((lg_cmp_eq _ _).mpr (hfm.mpr hq)) c_63
            refine lv_aload_n hx hb dX1_cut_69 rfl (lv_at hl 3 rfl) ?_
            refine va_get (D := (dC, dI)) (ci := 1) (v := .ref ha) (C := RX1) (T := TX1) (N := 4) hx hb hts (by decide +kernel) hown hK hP 0 rfl rfl 0 (by decide) (hts (.fieldLink RX1 7 "PageIndexModel" "keys" "[J") (by decide +kernel)) (fun _ h9 => h9) rfl dX1_cut_70 ?_
            refine lv_iload hx hb dX1_cut_73 (lv_at hl 1 rfl) ?_
            refine lv_aload_n hx hb dX1_cut_75 rfl (lv_at hl 3 rfl) ?_
            refine va_get (D := (dC, dI)) (ci := 1) (v := .ref ha) (C := RX1) (T := TX1) (N := 4) hx hb hts (by decide +kernel) hown hK hP 0 rfl rfl 0 (by decide) (hts (.fieldLink RX1 7 "PageIndexModel" "keys" "[J") (by decide +kernel)) (fun _ h9 => h9) rfl dX1_cut_76 ?_
            refine lv_iload hx hb dX1_cut_79 (lv_at hl 0 rfl) ?_
            refine va_lald hx hb hK hP 1 0 rfl rfl (pk_in j 20000 (by omega) rfl (by omega)) dX1_cut_81 ?_
            refine zw_eql (y := lN (ks.getD j 0)) (by rw [nI_clamp (by omega)]; exact hfj) ?_
            refine va_last hx hb hK hP hD hS 1 0 rfl rfl (pk_in kp 20000 (by omega) rfl (by omega)) dX1_cut_82 (fun H locs hP hD hS => ?_)
            rw [nI_clamp (n := kp) (by omega)] at hP hD
            have hP : va_P (dC, dI) vwCl (zy_w h0 ha cA (vp_updL fk kp (lN (ks.getD j 0))) o ks.length cur) H := hP
            have hD : va_D A (zy_w h0 ha cA (vp_updL fk kp (lN (ks.getD j 0))) o ks.length cur) := hD
            refine lv_iinc (v := nI (kp + 1)) (lv' := [(7, .int (nI (kp + 1))), (8, .int (nI j)), (5, .long (zf_bg v a b d)), (0, .ref h0), (1, .int v)]) hx hb dX1_cut_83 hl (k := 1) rfl (nI_1 _) (by decide) rfl (fun ls hl => ?_)
            refine lv_iinc (v := nI (j + 1)) (lv' := [(8, .int (nI (j + 1))), (7, .int (nI (kp + 1))), (5, .long (zf_bg v a b d)), (0, .ref h0), (1, .int v)]) hx hb dX1_cut_86 hl (k := 1) rfl (nI_1 _) (by decide) rfl (fun ls hl => ?_)
            refine lv_goto (tgt := 40) hx hb dX1_cut_89 (by decide) ?_
            exact ih (j + 1) ((kp + 1)) (vp_updL fk kp (lN (ks.getD j 0))) (by omega) (zk_cu_keep hu hjl hmm) H locs hP hD hS ls (lv_sub hl [0, 1, 2, 3, 4] rfl)
          · have hmm := hfm.mp ((lg_cmp_eq _ _).mp c_63)
            refine lv_goto (tgt := 86) hx hb dX1_cut_66 (by decide) ?_
            refine lv_iinc (v := nI (j + 1)) (lv' := [(8, .int (nI (j + 1))), (7, .int (nI kp)), (5, .long (zf_bg v a b d)), (0, .ref h0), (1, .int v)]) hx hb dX1_cut_86 hl (k := 0) rfl (nI_1 _) (by decide) rfl (fun ls hl => ?_)
            refine lv_goto (tgt := 40) hx hb dX1_cut_89 (by decide) ?_
            exact ih (j + 1) kp fk (by omega) (zk_cu_skip hu hjl hmm) H locs hP hD hS ls (lv_sub hl [0, 1, 2, 3, 4] rfl)
      exact LOOP ks.length 0 0 f (by omega) (zk_cu_0 ks _ f) s.heap [] hP hD hS ls (lv_sub hl [0, 1, 2, 3, 4] rfl)
