set_option maxHeartbeats 4000000 in
set_option maxRecDepth 100000 in
/-- putIn(k) -/
theorem zc_putIn (l : Launch) (dC : Nat → ClassId) (dI : Nat → Nat → Nat) (h0 ha : Nat) (cA : ClassId) (n : Nat) (f : Nat → Int64) (px py pz : Int32) (ks : List Nat) (cur : Int64) (sz : Nat) (k : Nat) (hkn : k ∉ ks) (hk60 : k < 1152921504606846976) (hlen : ks.length < 512) (hG : zk_G ks n f) : Met l yX0_putIn wsX0_putIn ({ frames := 2, cells := 1, slots := 1024, locals := 90 }) (zw_Pw [.ref h0, .int (nI (zk_c ks k)), .long (lN k)] (dC, dI) vwCl (zx_w h0 ha cA n f px py pz ks.length cur) [(cA, .long)] sz) (zx_Q dC dI h0 px py pz (none) (zk_ins ks k) (cur) (va_A (zx_w h0 ha cA n f px py pz ks.length cur) sz)) 1 1024 (va_A (zx_w h0 ha cA n f px py pz ks.length cur) sz) := by
  refine Met.ofW (cc := cX0_putIn) (maxL := 4) (ret := none) (by decide) rfl ?_
  intro p e s m args below meth c s₁ B hml hv
  obtain ⟨rfl, hsz, hP, hK, hD0⟩ := hv
  have hx := B.exec
  have hb := B.bytes
  have hr := B.returns
  have hts := atoms_spec (ws := wsX0_putIn) B.pre
  have hown : s.vm.findClass RX0 = some m.cls := findClass_of_methodNamed B.named
  subst hsz
  have hD := hD0.self (sz := s.heap.size)
  generalize hAe : va_A (zx_w h0 ha cA n f px py pz ks.length cur) s.heap.size = A at hD ⊢
  have hA : ∀ q : Nat, s.heap.size ≤ q → A q := fun q h => by rw [← hAe]; exact Or.inr h
  have hS : va_S A s.heap s.heap [] := va_S.rf
  have hP : va_P (dC, dI) vwCl (zx_w h0 ha cA n f px py pz ks.length cur) s.heap := hP
  have hl := lv_entry ([.ref h0, .int (nI (zk_c ks k)), .long (lN k)]) (n := 4) (Nat.le_of_ble_eq_true rfl)
  rw [lg_entry_eq]
  generalize (lg_sl ([.ref h0, .int (nI (zk_c ks k)), .long (lN k)]) ++ List.replicate (4 - (lg_sl ([.ref h0, .int (nI (zk_c ks k)), .long (lN k)])).length) Slot.unset).toArray = ls at hl ⊢
  have hl : lv_has ls 4 [(0, .ref h0), (1, .int (nI (zk_c ks k))), (2, .long (lN k))] := hl
  have hn3 := hG.2.2
  have hCl := zk_c_le ks k
  refine lv_aload_n hx hb dX0_putIn_0 rfl (lv_at hl 0 rfl) ?_
  refine va_get (D := (dC, dI)) (ci := 0) (v := .int (nI ks.length)) (C := RX0) (T := TX0) (N := 6) hx hb hts (by decide +kernel) hown hK hP 0 rfl rfl 4 (by decide) (hts (.fieldLink RX0 33 "PageIndex" "held" "I") (by decide +kernel)) (fun _ h9 => h9) rfl dX0_putIn_1 ?_
  refine lv_aload_n hx hb dX0_putIn_4 rfl (lv_at hl 0 rfl) ?_
  refine va_get (D := (dC, dI)) (ci := 0) (v := .ref ha) (C := RX0) (T := TX0) (N := 6) hx hb hts (by decide +kernel) hown hK hP 0 rfl rfl 3 (by decide) (hts (.fieldLink RX0 29 "PageIndex" "keys" "[J") (by decide +kernel)) (fun _ h9 => h9) rfl dX0_putIn_5 ?_
  refine va_alen (v := nI n) hx hb hK hP 1 0 rfl rfl rfl dX0_putIn_8 ?_
  refine lv_icmp_ne (tgt := 35) hx hb dX0_putIn_9 (by decide) (fun c_9 => ?_) (fun c_9 => ?_)
  · have hlt : ks.length < n := by
      rcases Nat.lt_or_ge ks.length n with q | q
      · exact q
      · exact absurd (by rw [show ks.length = n by omega]) c_9
    refine lv_aload_n hx hb dX0_putIn_35 rfl (lv_at hl 0 rfl) ?_
    refine va_get (D := (dC, dI)) (ci := 0) (v := .ref ha) (C := RX0) (T := TX0) (N := 6) hx hb hts (by decide +kernel) hown hK hP 0 rfl rfl 3 (by decide) (hts (.fieldLink RX0 29 "PageIndex" "keys" "[J") (by decide +kernel)) (fun _ h9 => h9) rfl dX0_putIn_36 ?_
    refine lv_iload_n hx hb dX0_putIn_39 rfl (lv_at hl 1 rfl) ?_
    refine lv_aload_n hx hb dX0_putIn_40 rfl (lv_at hl 0 rfl) ?_
    refine va_get (D := (dC, dI)) (ci := 0) (v := .ref ha) (C := RX0) (T := TX0) (N := 6) hx hb hts (by decide +kernel) hown hK hP 0 rfl rfl 3 (by decide) (hts (.fieldLink RX0 29 "PageIndex" "keys" "[J") (by decide +kernel)) (fun _ h9 => h9) rfl dX0_putIn_41 ?_
    refine lv_iload_n hx hb dX0_putIn_44 rfl (lv_at hl 1 rfl) ?_
    refine lv_iconst (v := 1) hx hb dX0_putIn_45 (by decide) ?_
    refine lv_iadd hx hb dX0_putIn_46 ?_
    refine zw_eqi (y := nI (zk_c ks k + 1)) (nI_1 _) ?_
    refine lv_aload_n hx hb dX0_putIn_47 rfl (lv_at hl 0 rfl) ?_
    refine va_get (D := (dC, dI)) (ci := 0) (v := .int (nI ks.length)) (C := RX0) (T := TX0) (N := 6) hx hb hts (by decide +kernel) hown hK hP 0 rfl rfl 4 (by decide) (hts (.fieldLink RX0 33 "PageIndex" "held" "I") (by decide +kernel)) (fun _ h9 => h9) rfl dX0_putIn_48 ?_
    refine lv_iload_n hx hb dX0_putIn_51 rfl (lv_at hl 1 rfl) ?_
    refine lv_isub hx hb dX0_putIn_52 ?_
    refine zw_eqi (y := nI (ks.length - zk_c ks k)) (pk_sub hCl) ?_
    refine va_copyl (ty := .long) hx hb (hml.trans hl.1.symm) hown (hts (.methodLink RX0 120 arraycopyName) (by decide +kernel)) (hts (.native arraycopyName) (by decide +kernel)) (hts (.static arraycopyName) (by decide +kernel)) (hts (.initialized "java/lang/System") (by decide +kernel)) hK hP hD hS 1 1 0 0 rfl rfl rfl rfl rfl (nI_pos (by omega)) (nI_pos (by omega)) (nI_pos (by omega)) (by rw [nI_clamp (by omega), nI_clamp (by omega)]; omega) (by rw [nI_clamp (by omega), nI_clamp (by omega)]; omega) (fun _ _ => rfl) (Nat.le_of_ble_eq_true rfl) (Nat.le_of_ble_eq_true rfl) dX0_putIn_53 (fun H locs hP hD hS => ?_)
    rw [nI_clamp (n := zk_c ks k) (by omega), nI_clamp (n := zk_c ks k + 1) (by omega), nI_clamp (n := ks.length - zk_c ks k) (by omega)] at hP hD
    have hP : va_P (dC, dI) vwCl (zx_w h0 ha cA n (va_cpy f f (zk_c ks k) (zk_c ks k + 1) (ks.length - zk_c ks k)) px py pz ks.length cur) H := hP
    have hD : va_D A (zx_w h0 ha cA n (va_cpy f f (zk_c ks k) (zk_c ks k + 1) (ks.length - zk_c ks k)) px py pz ks.length cur) := hD
    refine lv_aload_n hx hb dX0_putIn_56 rfl (lv_at hl 0 rfl) ?_
    refine va_get (D := (dC, dI)) (ci := 0) (v := .ref ha) (C := RX0) (T := TX0) (N := 6) hx hb hts (by decide +kernel) hown hK hP 0 rfl rfl 3 (by decide) (hts (.fieldLink RX0 29 "PageIndex" "keys" "[J") (by decide +kernel)) (fun _ h9 => h9) rfl dX0_putIn_57 ?_
    refine lv_iload_n hx hb dX0_putIn_60 rfl (lv_at hl 1 rfl) ?_
    refine lv_lload_n hx hb dX0_putIn_61 rfl (lv_at hl 2 rfl) ?_
    refine va_last hx hb hK hP hD hS 1 0 rfl rfl (pk_in (zk_c ks k) n (by omega) rfl (by omega)) dX0_putIn_62 (fun H locs hP hD hS => ?_)
    rw [nI_clamp (n := zk_c ks k) (by omega)] at hP hD
    have hP : va_P (dC, dI) vwCl (zx_w h0 ha cA n (vp_updL (va_cpy f f (zk_c ks k) (zk_c ks k + 1) (ks.length - zk_c ks k)) (zk_c ks k) (lN k)) px py pz ks.length cur) H := hP
    have hD : va_D A (zx_w h0 ha cA n (vp_updL (va_cpy f f (zk_c ks k) (zk_c ks k + 1) (ks.length - zk_c ks k)) (zk_c ks k) (lN k)) px py pz ks.length cur) := hD
    refine lv_aload_n hx hb dX0_putIn_63 rfl (lv_at hl 0 rfl) ?_
    refine lv_dup hx hb dX0_putIn_64 rfl ?_
    refine va_get (D := (dC, dI)) (ci := 0) (v := .int (nI ks.length)) (C := RX0) (T := TX0) (N := 6) hx hb hts (by decide +kernel) hown hK hP 0 rfl rfl 4 (by decide) (hts (.fieldLink RX0 33 "PageIndex" "held" "I") (by decide +kernel)) (fun _ h9 => h9) rfl dX0_putIn_65 ?_
    refine lv_iconst (v := 1) hx hb dX0_putIn_68 (by decide) ?_
    refine lv_iadd hx hb dX0_putIn_69 ?_
    refine zw_eqi (y := nI (zk_ins ks k).length) (by rw [zk_ins_len]; exact nI_1 _) ?_
    refine va_put (D := (dC, dI)) (ci := 0) (v := .int (nI (zk_ins ks k).length)) (ty := .int) (C := RX0) (T := TX0) (N := 6) hx hb hts (by decide +kernel) tyX0 tyX0_ok nmX0 hown hK hP hD hS 0 rfl rfl 4 (by decide) (hts (.fieldLink RX0 33 "PageIndex" "held" "I") (by decide +kernel)) (fun _ h9 => h9) rfl (by decide +kernel) rfl rfl (Nat.le_of_ble_eq_true rfl) dX0_putIn_70 (fun H locs hP hD hS => ?_)
    have hP : va_P (dC, dI) vwCl (zx_w h0 ha cA n (vp_updL (va_cpy f f (zk_c ks k) (zk_c ks k + 1) (ks.length - zk_c ks k)) (zk_c ks k) (lN k)) px py pz ((zk_ins ks k).length) cur) H := hP
    have hD : va_D A (zx_w h0 ha cA n (vp_updL (va_cpy f f (zk_c ks k) (zk_c ks k + 1) (ks.length - zk_c ks k)) (zk_c ks k) (lN k)) px py pz ((zk_ins ks k).length) cur) := hD
    refine W.widen (k := 1) (n := 1024) (Nat.le_of_ble_eq_true rfl) (Nat.le_of_ble_eq_true rfl) ?_
    exact W.vret hx hb hr (fun t ht hW => ⟨⟨(ha, cA, n, vp_updL (va_cpy f f (zk_c ks k) (zk_c ks k + 1) (ks.length - zk_c ks k)) (zk_c ks k) (lN k)), rfl, zk_G_ins (n2 := n) hG hkn hk60 (by omega) (by omega) (fun _ _ => rfl), by rw [ht]; exact hP, va_K.moved hW.alike hK, hD⟩, hS.F ht⟩) hS.2.2 dX0_putIn_73
  · have hen : ks.length = n := (nI_eq (by omega) (by omega)).mp c_9
    refine lv_aload_n hx hb dX0_putIn_12 rfl (lv_at hl 0 rfl) ?_
    refine lv_aload_n hx hb dX0_putIn_13 rfl (lv_at hl 0 rfl) ?_
    refine va_get (D := (dC, dI)) (ci := 0) (v := .ref ha) (C := RX0) (T := TX0) (N := 6) hx hb hts (by decide +kernel) hown hK hP 0 rfl rfl 3 (by decide) (hts (.fieldLink RX0 29 "PageIndex" "keys" "[J") (by decide +kernel)) (fun _ h9 => h9) rfl dX0_putIn_14 ?_
    refine lv_iconst (v := 2) hx hb dX0_putIn_17 (by decide) ?_
    refine lv_aload_n hx hb dX0_putIn_18 rfl (lv_at hl 0 rfl) ?_
    refine va_get (D := (dC, dI)) (ci := 0) (v := .int (nI ks.length)) (C := RX0) (T := TX0) (N := 6) hx hb hts (by decide +kernel) hown hK hP 0 rfl rfl 4 (by decide) (hts (.fieldLink RX0 33 "PageIndex" "held" "I") (by decide +kernel)) (fun _ h9 => h9) rfl dX0_putIn_19 ?_
    refine lv_imul hx hb dX0_putIn_22 ?_
    refine zw_eqi (y := nI (2 * ks.length)) (pk_mul 2 _) ?_
    refine lv_sipush (v := 20000) hx hb dX0_putIn_23 (by decide) ?_
    refine va_mmin hx hb (hml.trans hl.1.symm) hown (hts (.methodLink RX0 111 Lib.Math.min.name) (by decide +kernel)) (hts (.static Lib.Math.min.name) (by decide +kernel)) (hts (.initialized "java/lang/Math") (by decide +kernel)) (hts _ (List.mem_of_getElem? (i := 6) rfl)) (Nat.le_of_ble_eq_true rfl) (Nat.le_of_ble_eq_true rfl) (Nat.le_of_ble_eq_true rfl) (Nat.le_of_ble_eq_true rfl) dX0_putIn_26 ?_
    refine zw_eqi (y := nI (2 * ks.length)) (if_neg (nI_nlt (a := 20000) (b := 2 * ks.length) (by omega) (by omega))) ?_
    have hPc := hP.sub (ws' := zj_w ha cA n f) [1] rfl
    have hDc := hD.sub (ws' := zj_w ha cA n f) [1] (by decide) rfl
    refine zw_callw (ws := zx_w h0 ha cA n f px py pz ks.length cur) (wc := zj_w ha cA n f) (wr := [(h0, .inr (0, [.int px, .int py, .int pz, .ref ha, .int (nI ks.length), .long cur]))]) (va_runS (As := [.ref ha, .int (nI (2 * ks.length))]) (rest := [.ref h0]) ⟨hx, hb, hml, hown, hts⟩ (zj_copyOf l dC dI ha cA n f (2 * ks.length) s.heap.size (by omega) (by omega)) (va_cwS 2 hts gX0_putIn_J7_copyOf_c38d5 rfl rfl rfl (by decide +kernel) ⟨Nat.le_of_ble_eq_true rfl, Nat.le_of_ble_eq_true rfl⟩) (zw_preW hPc hK hDc) rfl rfl hl.1 rfl (lv_room (Nat.le_of_ble_eq_true rfl)) dX0_putIn_29 ⟨Nat.le_of_ble_eq_true rfl, Nat.le_of_ble_eq_true rfl⟩) hP hD hS hA [1] [0] rfl rfl (by decide) (by decide) (fun u H locs hu hP hD hK hS => ?_)
    have hP : va_P (dC, dI) vwCl [(h0, .inr (0, [.int px, .int py, .int pz, .ref ha, .int (nI ks.length), .long cur])), (ha, .inl (cA, n, .inr (.inl f))), (u.1, .inl (u.2, 2 * ks.length, .inr (.inl (va_cpy f (fun _ => 0) 0 0 n))))] H := hP
    have hD : va_D A [(h0, .inr (0, [.int px, .int py, .int pz, .ref ha, .int (nI ks.length), .long cur])), (ha, .inl (cA, n, .inr (.inl f))), (u.1, .inl (u.2, 2 * ks.length, .inr (.inl (va_cpy f (fun _ => 0) 0 0 n))))] := hD
    refine W.eq (g2 := F0 m 32 ls [.ref u.1, .ref h0]) rfl ?_
    refine va_put (D := (dC, dI)) (ci := 0) (v := .ref u.1) (ty := .array .long) (C := RX0) (T := TX0) (N := 6) hx hb hts (by decide +kernel) tyX0 tyX0_ok nmX0 hown hK hP hD hS 0 rfl rfl 3 (by decide) (hts (.fieldLink RX0 29 "PageIndex" "keys" "[J") (by decide +kernel)) (fun _ h9 => h9) rfl (by decide +kernel) rfl rfl (Nat.le_of_ble_eq_true rfl) dX0_putIn_32 (fun H locs hP hD hS => ?_)
    have hP : va_P (dC, dI) vwCl (zx_w h0 u.1 u.2 (2 * ks.length) (va_cpy f (fun _ => 0) 0 0 n) px py pz ks.length cur) H := hP.sub (ws' := zx_w h0 u.1 u.2 (2 * ks.length) (va_cpy f (fun _ => 0) 0 0 n) px py pz ks.length cur) [0, 2] rfl
    have hD : va_D A (zx_w h0 u.1 u.2 (2 * ks.length) (va_cpy f (fun _ => 0) 0 0 n) px py pz ks.length cur) := hD.sub (ws' := zx_w h0 u.1 u.2 (2 * ks.length) (va_cpy f (fun _ => 0) 0 0 n) px py pz ks.length cur) [0, 2] (by decide) rfl
    have hK : va_K (dC, dI) vwCl [(u.2, .long)] s := hK.sub [1] rfl
    refine lv_aload_n hx hb dX0_putIn_35 rfl (lv_at hl 0 rfl) ?_
    refine va_get (D := (dC, dI)) (ci := 0) (v := .ref u.1) (C := RX0) (T := TX0) (N := 6) hx hb hts (by decide +kernel) hown hK hP 0 rfl rfl 3 (by decide) (hts (.fieldLink RX0 29 "PageIndex" "keys" "[J") (by decide +kernel)) (fun _ h9 => h9) rfl dX0_putIn_36 ?_
    refine lv_iload_n hx hb dX0_putIn_39 rfl (lv_at hl 1 rfl) ?_
    refine lv_aload_n hx hb dX0_putIn_40 rfl (lv_at hl 0 rfl) ?_
    refine va_get (D := (dC, dI)) (ci := 0) (v := .ref u.1) (C := RX0) (T := TX0) (N := 6) hx hb hts (by decide +kernel) hown hK hP 0 rfl rfl 3 (by decide) (hts (.fieldLink RX0 29 "PageIndex" "keys" "[J") (by decide +kernel)) (fun _ h9 => h9) rfl dX0_putIn_41 ?_
    refine lv_iload_n hx hb dX0_putIn_44 rfl (lv_at hl 1 rfl) ?_
    refine lv_iconst (v := 1) hx hb dX0_putIn_45 (by decide) ?_
    refine lv_iadd hx hb dX0_putIn_46 ?_
    refine zw_eqi (y := nI (zk_c ks k + 1)) (nI_1 _) ?_
    refine lv_aload_n hx hb dX0_putIn_47 rfl (lv_at hl 0 rfl) ?_
    refine va_get (D := (dC, dI)) (ci := 0) (v := .int (nI ks.length)) (C := RX0) (T := TX0) (N := 6) hx hb hts (by decide +kernel) hown hK hP 0 rfl rfl 4 (by decide) (hts (.fieldLink RX0 33 "PageIndex" "held" "I") (by decide +kernel)) (fun _ h9 => h9) rfl dX0_putIn_48 ?_
    refine lv_iload_n hx hb dX0_putIn_51 rfl (lv_at hl 1 rfl) ?_
    refine lv_isub hx hb dX0_putIn_52 ?_
    refine zw_eqi (y := nI (ks.length - zk_c ks k)) (pk_sub hCl) ?_
    refine va_copyl (ty := .long) hx hb (hml.trans hl.1.symm) hown (hts (.methodLink RX0 120 arraycopyName) (by decide +kernel)) (hts (.native arraycopyName) (by decide +kernel)) (hts (.static arraycopyName) (by decide +kernel)) (hts (.initialized "java/lang/System") (by decide +kernel)) hK hP hD hS 1 1 0 0 rfl rfl rfl rfl rfl (nI_pos (by omega)) (nI_pos (by omega)) (nI_pos (by omega)) (by rw [nI_clamp (by omega), nI_clamp (by omega)]; omega) (by rw [nI_clamp (by omega), nI_clamp (by omega)]; omega) (fun _ _ => rfl) (Nat.le_of_ble_eq_true rfl) (Nat.le_of_ble_eq_true rfl) dX0_putIn_53 (fun H locs hP hD hS => ?_)
    rw [nI_clamp (n := zk_c ks k) (by omega), nI_clamp (n := zk_c ks k + 1) (by omega), nI_clamp (n := ks.length - zk_c ks k) (by omega)] at hP hD
    have hP : va_P (dC, dI) vwCl (zx_w h0 u.1 u.2 (2 * ks.length) (va_cpy (va_cpy f (fun _ => 0) 0 0 n) (va_cpy f (fun _ => 0) 0 0 n) (zk_c ks k) (zk_c ks k + 1) (ks.length - zk_c ks k)) px py pz ks.length cur) H := hP
    have hD : va_D A (zx_w h0 u.1 u.2 (2 * ks.length) (va_cpy (va_cpy f (fun _ => 0) 0 0 n) (va_cpy f (fun _ => 0) 0 0 n) (zk_c ks k) (zk_c ks k + 1) (ks.length - zk_c ks k)) px py pz ks.length cur) := hD
    refine lv_aload_n hx hb dX0_putIn_56 rfl (lv_at hl 0 rfl) ?_
    refine va_get (D := (dC, dI)) (ci := 0) (v := .ref u.1) (C := RX0) (T := TX0) (N := 6) hx hb hts (by decide +kernel) hown hK hP 0 rfl rfl 3 (by decide) (hts (.fieldLink RX0 29 "PageIndex" "keys" "[J") (by decide +kernel)) (fun _ h9 => h9) rfl dX0_putIn_57 ?_
    refine lv_iload_n hx hb dX0_putIn_60 rfl (lv_at hl 1 rfl) ?_
    refine lv_lload_n hx hb dX0_putIn_61 rfl (lv_at hl 2 rfl) ?_
    refine va_last hx hb hK hP hD hS 1 0 rfl rfl (pk_in (zk_c ks k) (2 * ks.length) (by omega) rfl (by omega)) dX0_putIn_62 (fun H locs hP hD hS => ?_)
    rw [nI_clamp (n := zk_c ks k) (by omega)] at hP hD
    have hP : va_P (dC, dI) vwCl (zx_w h0 u.1 u.2 (2 * ks.length) (vp_updL (va_cpy (va_cpy f (fun _ => 0) 0 0 n) (va_cpy f (fun _ => 0) 0 0 n) (zk_c ks k) (zk_c ks k + 1) (ks.length - zk_c ks k)) (zk_c ks k) (lN k)) px py pz ks.length cur) H := hP
    have hD : va_D A (zx_w h0 u.1 u.2 (2 * ks.length) (vp_updL (va_cpy (va_cpy f (fun _ => 0) 0 0 n) (va_cpy f (fun _ => 0) 0 0 n) (zk_c ks k) (zk_c ks k + 1) (ks.length - zk_c ks k)) (zk_c ks k) (lN k)) px py pz ks.length cur) := hD
    refine lv_aload_n hx hb dX0_putIn_63 rfl (lv_at hl 0 rfl) ?_
    refine lv_dup hx hb dX0_putIn_64 rfl ?_
    refine va_get (D := (dC, dI)) (ci := 0) (v := .int (nI ks.length)) (C := RX0) (T := TX0) (N := 6) hx hb hts (by decide +kernel) hown hK hP 0 rfl rfl 4 (by decide) (hts (.fieldLink RX0 33 "PageIndex" "held" "I") (by decide +kernel)) (fun _ h9 => h9) rfl dX0_putIn_65 ?_
    refine lv_iconst (v := 1) hx hb dX0_putIn_68 (by decide) ?_
    refine lv_iadd hx hb dX0_putIn_69 ?_
    refine zw_eqi (y := nI (zk_ins ks k).length) (by rw [zk_ins_len]; exact nI_1 _) ?_
    refine va_put (D := (dC, dI)) (ci := 0) (v := .int (nI (zk_ins ks k).length)) (ty := .int) (C := RX0) (T := TX0) (N := 6) hx hb hts (by decide +kernel) tyX0 tyX0_ok nmX0 hown hK hP hD hS 0 rfl rfl 4 (by decide) (hts (.fieldLink RX0 33 "PageIndex" "held" "I") (by decide +kernel)) (fun _ h9 => h9) rfl (by decide +kernel) rfl rfl (Nat.le_of_ble_eq_true rfl) dX0_putIn_70 (fun H locs hP hD hS => ?_)
    have hP : va_P (dC, dI) vwCl (zx_w h0 u.1 u.2 (2 * ks.length) (vp_updL (va_cpy (va_cpy f (fun _ => 0) 0 0 n) (va_cpy f (fun _ => 0) 0 0 n) (zk_c ks k) (zk_c ks k + 1) (ks.length - zk_c ks k)) (zk_c ks k) (lN k)) px py pz ((zk_ins ks k).length) cur) H := hP
    have hD : va_D A (zx_w h0 u.1 u.2 (2 * ks.length) (vp_updL (va_cpy (va_cpy f (fun _ => 0) 0 0 n) (va_cpy f (fun _ => 0) 0 0 n) (zk_c ks k) (zk_c ks k + 1) (ks.length - zk_c ks k)) (zk_c ks k) (lN k)) px py pz ((zk_ins ks k).length) cur) := hD
    refine W.widen (k := 1) (n := 1024) (Nat.le_of_ble_eq_true rfl) (Nat.le_of_ble_eq_true rfl) ?_
    exact W.vret hx hb hr (fun t ht hW => ⟨⟨(u.1, u.2, 2 * ks.length, vp_updL (va_cpy (va_cpy f (fun _ => 0) 0 0 n) (va_cpy f (fun _ => 0) 0 0 n) (zk_c ks k) (zk_c ks k + 1) (ks.length - zk_c ks k)) (zk_c ks k) (lN k)), rfl, zk_G_ins (n2 := (2 * ks.length)) hG hkn hk60 (by omega) (by omega) (fun j hj => by rw [pk_cpy_in (by omega) (by omega)]; congr 1; omega), by rw [ht]; exact hP, va_K.moved hW.alike hK, hD⟩, hS.F ht⟩) hS.2.2 dX0_putIn_73
set_option maxHeartbeats 4000000 in
set_option maxRecDepth 100000 in
/-- insert(x, y, z) -/
theorem zc_insert (l : Launch) (dC : Nat → ClassId) (dI : Nat → Nat → Nat) (h0 ha : Nat) (cA : ClassId) (n : Nat) (f : Nat → Int64) (px py pz : Int32) (ks : List Nat) (cur : Int64) (sz : Nat) (x : Int32) (y : Int32) (z : Int32) (k : Nat) (hk : zf_nn x y z = true → zf_kt px py pz x y z = lN k ∧ k < 1152921504606846976) (hlen : ks.length < 512) (hG : zk_G ks n f) : Met l yX0_insert wsX0_insert ({ frames := 3, cells := 1, slots := 1024, locals := 113 }) (zw_Pw [.ref h0, .int x, .int y, .int z] (dC, dI) vwCl (zx_w h0 ha cA n f px py pz ks.length cur) [(cA, .long)] sz) (zx_Q dC dI h0 px py pz (some (.int (cond (zf_nn x y z) (cond (decide (k ∈ ks)) 0 1) (-1)))) (cond (zf_nn x y z) (cond (decide (k ∈ ks)) ks (zk_ins ks k)) ks) (cur) (va_A (zx_w h0 ha cA n f px py pz ks.length cur) sz)) 1 1024 (va_A (zx_w h0 ha cA n f px py pz ks.length cur) sz) := by
  refine Met.ofW (cc := cX0_insert) (maxL := 7) (ret := (some .int)) (by decide) rfl ?_
  intro p e s m args below meth c s₁ B hml hv
  obtain ⟨rfl, hsz, hP, hK, hD0⟩ := hv
  have hx := B.exec
  have hb := B.bytes
  have hr := B.returns
  have hts := atoms_spec (ws := wsX0_insert) B.pre
  have hown : s.vm.findClass RX0 = some m.cls := findClass_of_methodNamed B.named
  subst hsz
  have hD := hD0.self (sz := s.heap.size)
  generalize hAe : va_A (zx_w h0 ha cA n f px py pz ks.length cur) s.heap.size = A at hD ⊢
  have hA : ∀ q : Nat, s.heap.size ≤ q → A q := fun q h => by rw [← hAe]; exact Or.inr h
  have hS : va_S A s.heap s.heap [] := va_S.rf
  have hP : va_P (dC, dI) vwCl (zx_w h0 ha cA n f px py pz ks.length cur) s.heap := hP
  have hl := lv_entry ([.ref h0, .int x, .int y, .int z]) (n := 7) (Nat.le_of_ble_eq_true rfl)
  rw [lg_entry_eq]
  generalize (lg_sl ([.ref h0, .int x, .int y, .int z]) ++ List.replicate (7 - (lg_sl ([.ref h0, .int x, .int y, .int z])).length) Slot.unset).toArray = ls at hl ⊢
  have hl : lv_has ls 7 [(0, .ref h0), (1, .int x), (2, .int y), (3, .int z)] := hl
  cases hz : zf_nn x y z with
  | false =>
    refine lv_iload_n hx hb dX0_insert_0 rfl (lv_at hl 1 rfl) ?_
    refine lv_iload_n hx hb dX0_insert_1 rfl (lv_at hl 2 rfl) ?_
    refine lv_iload_n hx hb dX0_insert_2 rfl (lv_at hl 3 rfl) ?_
    refine zw_ci (va_runS (As := [.int x, .int y, .int z]) (rest := []) ⟨hx, hb, hml, hown, hts⟩ (zc_areNumbers l x y z) (va_cwS 3 hts gX0_insert_X0_areNumbers rfl rfl rfl (by decide +kernel) ⟨Nat.le_of_ble_eq_true rfl, Nat.le_of_ble_eq_true rfl⟩) (preEq) rfl rfl hl.1 rfl (lv_room (Nat.le_of_ble_eq_true rfl)) dX0_insert_3 ⟨Nat.zero_le _, Nat.zero_le _⟩) ?_
    refine zw_ifne (tgt := 11) hx hb dX0_insert_6 (by decide) (fun c_6 => absurd ((hz).symm.trans c_6) (by decide)) (fun c_6 => ?_)
    refine lv_iconst (v := (-1)) hx hb dX0_insert_9 (by decide) ?_
    refine W.widen (k := 1) (n := 1024) (Nat.le_of_ble_eq_true rfl) (Nat.le_of_ble_eq_true rfl) ?_
    exact W.iret hx hb hr (fun t ht hW => ⟨⟨(ha, cA, n, f), rfl, hG, by rw [ht]; exact hP, va_K.moved hW.alike hK, hD⟩, hS.F ht⟩) hS.2.2 dX0_insert_10
  | true =>
    cases hm : decide (k ∈ ks) with
    | false =>
      have hn3 := hG.2.2
      have hkn := of_decide_eq_false hm
      refine lv_iload_n hx hb dX0_insert_0 rfl (lv_at hl 1 rfl) ?_
      refine lv_iload_n hx hb dX0_insert_1 rfl (lv_at hl 2 rfl) ?_
      refine lv_iload_n hx hb dX0_insert_2 rfl (lv_at hl 3 rfl) ?_
      refine zw_ci (va_runS (As := [.int x, .int y, .int z]) (rest := []) ⟨hx, hb, hml, hown, hts⟩ (zc_areNumbers l x y z) (va_cwS 3 hts gX0_insert_X0_areNumbers rfl rfl rfl (by decide +kernel) ⟨Nat.le_of_ble_eq_true rfl, Nat.le_of_ble_eq_true rfl⟩) (preEq) rfl rfl hl.1 rfl (lv_room (Nat.le_of_ble_eq_true rfl)) dX0_insert_3 ⟨Nat.zero_le _, Nat.zero_le _⟩) ?_
      refine zw_ifne (tgt := 11) hx hb dX0_insert_6 (by decide) (fun c_6 => ?_) (fun c_6 => absurd ((hz).symm.trans c_6) (by decide))
      refine lv_aload_n hx hb dX0_insert_11 rfl (lv_at hl 0 rfl) ?_
      refine lv_iload_n hx hb dX0_insert_12 rfl (lv_at hl 1 rfl) ?_
      refine lv_iload_n hx hb dX0_insert_13 rfl (lv_at hl 2 rfl) ?_
      refine lv_iload_n hx hb dX0_insert_14 rfl (lv_at hl 3 rfl) ?_
      refine zw_cl (va_runV (As := [.int x, .int y, .int z]) (rest := []) ⟨hx, hb, hml, hown, hts⟩ (zc_keyOfTriple l dC dI h0 ha cA n f px py pz ks cur x y z) (cwV 3 hts gX0_insert_X0_keyOfTriple rfl rfl rfl (by decide +kernel) ⟨Nat.le_of_ble_eq_true rfl, Nat.le_of_ble_eq_true rfl⟩) (zw_preV (ci := 0) (q0 := 0) hP hK rfl rfl) rfl rfl hl.1 rfl (lv_room (Nat.le_of_ble_eq_true rfl)) dX0_insert_15 ⟨Nat.zero_le _, Nat.zero_le _⟩) ?_
      refine zw_eql (y := lN k) ((hk hz).1) ?_
      refine lv_lstore (lv' := [(4, .long (lN k)), (0, .ref h0), (1, .int x), (2, .int y), (3, .int z)]) hx hb dX0_insert_18 hl (by decide) rfl (fun ls hl => ?_)
      refine lv_aload_n hx hb dX0_insert_20 rfl (lv_at hl 1 rfl) ?_
      refine lv_lload hx hb dX0_insert_21 (lv_at hl 0 rfl) ?_
      refine zw_ci (va_runV (As := [.long (lN k)]) (rest := []) ⟨hx, hb, hml, hown, hts⟩ (zc_keysBefore l dC dI h0 ha cA n f px py pz ks cur k (Nat.le_of_lt (hk hz).2) hG) (cwV 1 hts gX0_insert_X0_keysBefore rfl rfl rfl (by decide +kernel) ⟨Nat.le_of_ble_eq_true rfl, Nat.le_of_ble_eq_true rfl⟩) (zw_preV (ci := 0) (q0 := 0) hP hK rfl rfl) rfl rfl hl.1 rfl (lv_room (Nat.le_of_ble_eq_true rfl)) dX0_insert_23 ⟨Nat.zero_le _, Nat.zero_le _⟩) ?_
      refine lv_istore (lv' := [(6, .int (nI (zk_c ks k))), (4, .long (lN k)), (0, .ref h0), (1, .int x), (2, .int y), (3, .int z)]) hx hb dX0_insert_26 hl (by decide) rfl (fun ls hl => ?_)
      refine lv_aload_n hx hb dX0_insert_28 rfl (lv_at hl 2 rfl) ?_
      refine lv_iload hx hb dX0_insert_29 (lv_at hl 0 rfl) ?_
      refine lv_lload hx hb dX0_insert_31 (lv_at hl 1 rfl) ?_
      refine zw_ci (va_runV (As := [.int (nI (zk_c ks k)), .long (lN k)]) (rest := []) ⟨hx, hb, hml, hown, hts⟩ (zc_isKeyAt l dC dI h0 ha cA n f px py pz ks cur (zk_c ks k) k (zk_c_le ks k) (Nat.le_of_lt (hk hz).2) hG) (cwV 2 hts gX0_insert_X0_isKeyAt rfl rfl rfl (by decide +kernel) ⟨Nat.le_of_ble_eq_true rfl, Nat.le_of_ble_eq_true rfl⟩) (zw_preV (ci := 0) (q0 := 0) hP hK rfl rfl) rfl rfl hl.1 rfl (lv_room (Nat.le_of_ble_eq_true rfl)) dX0_insert_33 ⟨Nat.zero_le _, Nat.zero_le _⟩) ?_
      refine zw_eqi (y := zb_I (decide (k ∈ ks))) (by rw [zk_mem_b hG.1]) ?_
      refine zw_ifeq (tgt := 41) hx hb dX0_insert_36 (by decide) (fun c_36 => ?_) (fun c_36 => absurd ((hm).symm.trans c_36) (by decide))
      refine lv_aload_n hx hb dX0_insert_41 rfl (lv_at hl 2 rfl) ?_
      refine va_get (D := (dC, dI)) (ci := 0) (v := .int (nI ks.length)) (C := RX0) (T := TX0) (N := 6) hx hb hts (by decide +kernel) hown hK hP 0 rfl rfl 4 (by decide) (hts (.fieldLink RX0 33 "PageIndex" "held" "I") (by decide +kernel)) (fun _ h9 => h9) rfl dX0_insert_42 ?_
      refine lv_sipush (v := 20000) hx hb dX0_insert_45 (by decide) ?_
      refine lv_icmp_lt (tgt := 54) hx hb dX0_insert_48 (by decide) (fun c_48 => ?_) (fun c_48 => absurd (nI_lt (b := 20000) (by omega) (by omega)) c_48)
      refine lv_aload_n hx hb dX0_insert_54 rfl (lv_at hl 2 rfl) ?_
      refine lv_iload hx hb dX0_insert_55 (lv_at hl 0 rfl) ?_
      refine lv_lload hx hb dX0_insert_57 (lv_at hl 1 rfl) ?_
      refine zw_callw (ws := zx_w h0 ha cA n f px py pz ks.length cur) (wc := zx_w h0 ha cA n f px py pz ks.length cur) (wr := []) (va_runV (As := [.int (nI (zk_c ks k)), .long (lN k)]) (rest := []) ⟨hx, hb, hml, hown, hts⟩ (zc_putIn l dC dI h0 ha cA n f px py pz ks cur s.heap.size k hkn (hk hz).2 hlen hG) (cwV 2 hts gX0_insert_X0_putIn rfl rfl rfl (by decide +kernel) ⟨Nat.le_of_ble_eq_true rfl, Nat.le_of_ble_eq_true rfl⟩) (zw_preWV (ci := 0) (q0 := 0) hP hK hD rfl rfl) rfl rfl hl.1 rfl (lv_room (Nat.le_of_ble_eq_true rfl)) dX0_insert_59 ⟨Nat.le_of_ble_eq_true rfl, Nat.le_of_ble_eq_true rfl⟩) hP hD hS hA [0, 1] [] rfl rfl (by decide) (by decide) (fun u H locs hu hP hD hK hS => ?_)
      have hP : va_P (dC, dI) vwCl (zx_w h0 u.1 u.2.1 u.2.2.1 u.2.2.2 px py pz ((zk_ins ks k).length) cur) H := hP
      have hD : va_D A (zx_w h0 u.1 u.2.1 u.2.2.1 u.2.2.2 px py pz ((zk_ins ks k).length) cur) := hD
      refine W.eq (g2 := F0 m 62 ls []) rfl ?_
      refine lv_iconst (v := 1) hx hb dX0_insert_62 (by decide) ?_
      refine W.widen (k := 1) (n := 1024) (Nat.le_of_ble_eq_true rfl) (Nat.le_of_ble_eq_true rfl) ?_
      exact W.iret hx hb hr (fun t ht hW => ⟨⟨u, rfl, hu, by rw [ht]; exact hP, va_K.moved hW.alike hK, hD⟩, hS.F ht⟩) hS.2.2 dX0_insert_63
    | true =>
      have hn3 := hG.2.2
      refine lv_iload_n hx hb dX0_insert_0 rfl (lv_at hl 1 rfl) ?_
      refine lv_iload_n hx hb dX0_insert_1 rfl (lv_at hl 2 rfl) ?_
      refine lv_iload_n hx hb dX0_insert_2 rfl (lv_at hl 3 rfl) ?_
      refine zw_ci (va_runS (As := [.int x, .int y, .int z]) (rest := []) ⟨hx, hb, hml, hown, hts⟩ (zc_areNumbers l x y z) (va_cwS 3 hts gX0_insert_X0_areNumbers rfl rfl rfl (by decide +kernel) ⟨Nat.le_of_ble_eq_true rfl, Nat.le_of_ble_eq_true rfl⟩) (preEq) rfl rfl hl.1 rfl (lv_room (Nat.le_of_ble_eq_true rfl)) dX0_insert_3 ⟨Nat.zero_le _, Nat.zero_le _⟩) ?_
      refine zw_ifne (tgt := 11) hx hb dX0_insert_6 (by decide) (fun c_6 => ?_) (fun c_6 => absurd ((hz).symm.trans c_6) (by decide))
      refine lv_aload_n hx hb dX0_insert_11 rfl (lv_at hl 0 rfl) ?_
      refine lv_iload_n hx hb dX0_insert_12 rfl (lv_at hl 1 rfl) ?_
      refine lv_iload_n hx hb dX0_insert_13 rfl (lv_at hl 2 rfl) ?_
      refine lv_iload_n hx hb dX0_insert_14 rfl (lv_at hl 3 rfl) ?_
      refine zw_cl (va_runV (As := [.int x, .int y, .int z]) (rest := []) ⟨hx, hb, hml, hown, hts⟩ (zc_keyOfTriple l dC dI h0 ha cA n f px py pz ks cur x y z) (cwV 3 hts gX0_insert_X0_keyOfTriple rfl rfl rfl (by decide +kernel) ⟨Nat.le_of_ble_eq_true rfl, Nat.le_of_ble_eq_true rfl⟩) (zw_preV (ci := 0) (q0 := 0) hP hK rfl rfl) rfl rfl hl.1 rfl (lv_room (Nat.le_of_ble_eq_true rfl)) dX0_insert_15 ⟨Nat.zero_le _, Nat.zero_le _⟩) ?_
      refine zw_eql (y := lN k) ((hk hz).1) ?_
      refine lv_lstore (lv' := [(4, .long (lN k)), (0, .ref h0), (1, .int x), (2, .int y), (3, .int z)]) hx hb dX0_insert_18 hl (by decide) rfl (fun ls hl => ?_)
      refine lv_aload_n hx hb dX0_insert_20 rfl (lv_at hl 1 rfl) ?_
      refine lv_lload hx hb dX0_insert_21 (lv_at hl 0 rfl) ?_
      refine zw_ci (va_runV (As := [.long (lN k)]) (rest := []) ⟨hx, hb, hml, hown, hts⟩ (zc_keysBefore l dC dI h0 ha cA n f px py pz ks cur k (Nat.le_of_lt (hk hz).2) hG) (cwV 1 hts gX0_insert_X0_keysBefore rfl rfl rfl (by decide +kernel) ⟨Nat.le_of_ble_eq_true rfl, Nat.le_of_ble_eq_true rfl⟩) (zw_preV (ci := 0) (q0 := 0) hP hK rfl rfl) rfl rfl hl.1 rfl (lv_room (Nat.le_of_ble_eq_true rfl)) dX0_insert_23 ⟨Nat.zero_le _, Nat.zero_le _⟩) ?_
      refine lv_istore (lv' := [(6, .int (nI (zk_c ks k))), (4, .long (lN k)), (0, .ref h0), (1, .int x), (2, .int y), (3, .int z)]) hx hb dX0_insert_26 hl (by decide) rfl (fun ls hl => ?_)
      refine lv_aload_n hx hb dX0_insert_28 rfl (lv_at hl 2 rfl) ?_
      refine lv_iload hx hb dX0_insert_29 (lv_at hl 0 rfl) ?_
      refine lv_lload hx hb dX0_insert_31 (lv_at hl 1 rfl) ?_
      refine zw_ci (va_runV (As := [.int (nI (zk_c ks k)), .long (lN k)]) (rest := []) ⟨hx, hb, hml, hown, hts⟩ (zc_isKeyAt l dC dI h0 ha cA n f px py pz ks cur (zk_c ks k) k (zk_c_le ks k) (Nat.le_of_lt (hk hz).2) hG) (cwV 2 hts gX0_insert_X0_isKeyAt rfl rfl rfl (by decide +kernel) ⟨Nat.le_of_ble_eq_true rfl, Nat.le_of_ble_eq_true rfl⟩) (zw_preV (ci := 0) (q0 := 0) hP hK rfl rfl) rfl rfl hl.1 rfl (lv_room (Nat.le_of_ble_eq_true rfl)) dX0_insert_33 ⟨Nat.zero_le _, Nat.zero_le _⟩) ?_
      refine zw_eqi (y := zb_I (decide (k ∈ ks))) (by rw [zk_mem_b hG.1]) ?_
      refine zw_ifeq (tgt := 41) hx hb dX0_insert_36 (by decide) (fun c_36 => absurd ((hm).symm.trans c_36) (by decide)) (fun c_36 => ?_)
      refine lv_iconst (v := 0) hx hb dX0_insert_39 (by decide) ?_
      refine W.widen (k := 1) (n := 1024) (Nat.le_of_ble_eq_true rfl) (Nat.le_of_ble_eq_true rfl) ?_
      exact W.iret hx hb hr (fun t ht hW => ⟨⟨(ha, cA, n, f), rfl, hG, by rw [ht]; exact hP, va_K.moved hW.alike hK, hD⟩, hS.F ht⟩) hS.2.2 dX0_insert_40
