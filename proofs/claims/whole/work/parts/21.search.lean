set_option maxHeartbeats 4000000 in
set_option maxRecDepth 100000 in
/-- keysBefore(k): how many keys lie before k -/
theorem zc_keysBefore (l : Launch) (dC : Nat → ClassId) (dI : Nat → Nat → Nat) (h0 ha : Nat) (cA : ClassId) (n : Nat) (f : Nat → Int64) (px py pz : Int32) (ks : List Nat) (cur : Int64) (k : Nat) (h60k : k ≤ 1152921504606846976) (hG : zk_G ks n f) : Met l yX0_keysBefore wsX0_keysBefore ({ frames := 0, cells := 0, slots := 0, locals := 0 }) (zw_P [.ref h0, .long (lN k)] (dC, dI) vwCl (zx_w h0 ha cA n f px py pz ks.length cur) [(cA, .long)]) (zw_Q (some (.int (nI (zk_c ks k))))) 0 0 (fun _ => False) := by
  refine Met.ofW (cc := cX0_keysBefore) (maxL := 6) (ret := (some .int)) (by decide) rfl ?_
  intro p e s m args below meth c s₁ B hml hv
  obtain ⟨rfl, hP, hK⟩ := hv
  have hx := B.exec
  have hb := B.bytes
  have hr := B.returns
  have hts := atoms_spec (ws := wsX0_keysBefore) B.pre
  have hown : s.vm.findClass RX0 = some m.cls := findClass_of_methodNamed B.named
  have hl := lv_entry ([.ref h0, .long (lN k)]) (n := 6) (Nat.le_of_ble_eq_true rfl)
  rw [lg_entry_eq]
  generalize (lg_sl ([.ref h0, .long (lN k)]) ++ List.replicate (6 - (lg_sl ([.ref h0, .long (lN k)])).length) Slot.unset).toArray = ls at hl ⊢
  have hl : lv_has ls 6 [(0, .ref h0), (1, .long (lN k))] := hl
  have hP : va_P (dC, dI) vwCl (zx_w h0 ha cA n f px py pz ks.length cur) s.heap := hP
  obtain ⟨hs, h60, hn, hn2, hf⟩ := hG
  have hCl := zk_c_le ks k
  have LOOP : ∀ (i b : Nat), i ≤ 15 → b ≤ zk_c ks k → zk_c ks k < b + 2 ^ i → ∀ ls : Array Slot, lv_has ls 6 [(4, .int (nI (2 ^ i / 2))), (3, .int (nI b)), (0, .ref h0), (1, .long (lN k))] → W p l e (headSpec wsX0_keysBefore ({ frames := 0, cells := 0, slots := 0, locals := 0 })).room s m [.ref h0, .long (lN k)].toArray below meth c s.heap [] 0 0 (MQ below (zw_Q (some (.int (nI (zk_c ks k))))) [.ref h0, .long (lN k)].toArray s 0 0 (fun _ => False)) (F0 m 7 ls []) := by
    intro i
    induction i with
    | zero =>
      intro b hi h1 h2 ls hl
      have eb : b = zk_c ks k := by omega
      subst eb
      refine lv_iload hx hb dX0_keysBefore_7 (lv_at hl 0 rfl) ?_
      refine lv_if_le (tgt := 53) hx hb dX0_keysBefore_9 (by decide) (fun c_9 => ?_) (fun c_9 => absurd (by decide) c_9)
      refine lv_iload_n hx hb dX0_keysBefore_53 rfl (lv_at hl 1 rfl) ?_
      exact W.iret hx hb hr (fun t ht hW => ⟨rfl, ht⟩) (fun q h => by cases h) dX0_keysBefore_54
    | succ i ih =>
      intro b hi h1 h2 ls hl
      have hp1 : 0 < 2 ^ i := Nat.two_pow_pos i
      have hp2 : 2 ^ (i + 1) = 2 * 2 ^ i := by rw [Nat.pow_succ]; omega
      have hp3 : 2 ^ i ≤ 2 ^ 14 := Nat.pow_le_pow_right (by decide) (by omega)
      have hp4 : (2 : Nat) ^ 14 = 16384 := by decide
      rw [hp2] at h2
      refine lv_iload hx hb dX0_keysBefore_7 (lv_at hl 0 rfl) ?_
      refine lv_if_le (tgt := 53) hx hb dX0_keysBefore_9 (by decide) (fun c_9 => absurd c_9 (nI_nle (by omega) (by omega))) (fun c_9 => ?_)
      refine lv_iload_n hx hb dX0_keysBefore_12 rfl (lv_at hl 1 rfl) ?_
      refine lv_iload hx hb dX0_keysBefore_13 (lv_at hl 0 rfl) ?_
      refine lv_iadd hx hb dX0_keysBefore_15 ?_
      refine zw_eqi (y := nI (b + 2 ^ i)) (by rw [show 2 ^ (i + 1) / 2 = 2 ^ i by omega]; exact nI_add _ _) ?_
      refine lv_istore (lv' := [(5, .int (nI (b + 2 ^ i))), (4, .int (nI (2 ^ (i + 1) / 2))), (3, .int (nI b)), (0, .ref h0), (1, .long (lN k))]) hx hb dX0_keysBefore_16 hl (by decide) rfl (fun ls hl => ?_)
      refine lv_iload hx hb dX0_keysBefore_18 (lv_at hl 0 rfl) ?_
      refine lv_aload_n hx hb dX0_keysBefore_20 rfl (lv_at hl 3 rfl) ?_
      refine va_get (D := (dC, dI)) (ci := 0) (v := .int (nI ks.length)) (C := RX0) (T := TX0) (N := 6) hx hb hts (by decide +kernel) hown hK hP 0 rfl rfl 4 (by decide) (hts (.fieldLink RX0 33 "PageIndex" "held" "I") (by decide +kernel)) (fun _ h9 => h9) rfl dX0_keysBefore_21 ?_
      refine lv_icmp_gt (tgt := 44) hx hb dX0_keysBefore_24 (by decide) (fun c_24 => ?_) (fun c_24 => ?_)
      · have h24 : ks.length < b + 2 ^ i := (nI_ltI (by omega) (by omega)).mp c_24
        refine lv_iload hx hb dX0_keysBefore_44 (lv_at hl 1 rfl) ?_
        refine lv_iconst (v := 2) hx hb dX0_keysBefore_46 (by decide) ?_
        refine lv_idiv hx hb dX0_keysBefore_47 (by decide) ?_
        refine zw_eqi (y := nI (2 ^ i / 2)) (by rw [show 2 ^ (i + 1) / 2 = 2 ^ i by omega]; exact pk_div (d := 2) (by omega) (by decide) (by decide)) ?_
        refine lv_istore (lv' := [(4, .int (nI (2 ^ i / 2))), (5, .int (nI (b + 2 ^ i))), (3, .int (nI b)), (0, .ref h0), (1, .long (lN k))]) hx hb dX0_keysBefore_48 hl (by decide) rfl (fun ls hl => ?_)
        refine lv_goto (tgt := 7) hx hb dX0_keysBefore_50 (by decide) ?_
        exact ih b (by omega) (by omega) (by omega) ls (lv_sub hl [0, 2, 3, 4] rfl)
      · have h24 : b + 2 ^ i ≤ ks.length := Nat.le_of_not_lt (fun z => c_24 (nI_lt z (by omega)))
        refine lv_aload_n hx hb dX0_keysBefore_27 rfl (lv_at hl 3 rfl) ?_
        refine va_get (D := (dC, dI)) (ci := 0) (v := .ref ha) (C := RX0) (T := TX0) (N := 6) hx hb hts (by decide +kernel) hown hK hP 0 rfl rfl 3 (by decide) (hts (.fieldLink RX0 29 "PageIndex" "keys" "[J") (by decide +kernel)) (fun _ h9 => h9) rfl dX0_keysBefore_28 ?_
        refine lv_iload hx hb dX0_keysBefore_31 (lv_at hl 0 rfl) ?_
        refine lv_iconst (v := 1) hx hb dX0_keysBefore_33 (by decide) ?_
        refine lv_isub hx hb dX0_keysBefore_34 ?_
        refine zw_eqi (y := nI (b + 2 ^ i - 1)) (pk_sub (a := b + 2 ^ i) (b := 1) (by omega)) ?_
        refine va_lald hx hb hK hP 1 0 rfl rfl (pk_in (b + 2 ^ i - 1) n (by omega) rfl (by omega)) dX0_keysBefore_35 ?_
        refine zw_eql (y := lN (ks.getD (b + 2 ^ i - 1) 0)) (by rw [nI_clamp (by omega)]; exact hf _ (by omega)) ?_
        refine lv_lload_n hx hb dX0_keysBefore_36 rfl (lv_at hl 4 rfl) ?_
        refine W.lcmp hx hb dX0_keysBefore_37 ?_
        have hkey := zk_lt ks k hs (b + 2 ^ i - 1) (by omega)
        have hkb := h60 _ (zk_mem_getD (ks := ks) (j := b + 2 ^ i - 1) (by omega))
        refine lv_if_ge (tgt := 44) hx hb dX0_keysBefore_38 (by decide) (fun c_38 => ?_) (fun c_38 => ?_)
        · have h38 : k ≤ ks.getD (b + 2 ^ i - 1) 0 := (pk_lLE (by omega) (by omega)).mp ((lg_cmp_ge _ _).mp c_38)
          refine lv_iload hx hb dX0_keysBefore_44 (lv_at hl 1 rfl) ?_
          refine lv_iconst (v := 2) hx hb dX0_keysBefore_46 (by decide) ?_
          refine lv_idiv hx hb dX0_keysBefore_47 (by decide) ?_
          refine zw_eqi (y := nI (2 ^ i / 2)) (by rw [show 2 ^ (i + 1) / 2 = 2 ^ i by omega]; exact pk_div (d := 2) (by omega) (by decide) (by decide)) ?_
          refine lv_istore (lv' := [(4, .int (nI (2 ^ i / 2))), (5, .int (nI (b + 2 ^ i))), (3, .int (nI b)), (0, .ref h0), (1, .long (lN k))]) hx hb dX0_keysBefore_48 hl (by decide) rfl (fun ls hl => ?_)
          refine lv_goto (tgt := 7) hx hb dX0_keysBefore_50 (by decide) ?_
          exact ih b (by omega) (by omega) (by omega) ls (lv_sub hl [0, 2, 3, 4] rfl)
        · have h38 : ks.getD (b + 2 ^ i - 1) 0 < k := Nat.lt_of_not_le (fun z => c_38 ((lg_cmp_ge _ _).mpr ((pk_lLE (by omega) (by omega)).mpr z)))
          refine lv_iload hx hb dX0_keysBefore_41 (lv_at hl 0 rfl) ?_
          refine lv_istore_n (lv' := [(3, .int (nI (b + 2 ^ i))), (5, .int (nI (b + 2 ^ i))), (4, .int (nI (2 ^ (i + 1) / 2))), (0, .ref h0), (1, .long (lN k))]) hx hb dX0_keysBefore_43 rfl hl (by decide) rfl (fun ls hl => ?_)
          refine lv_iload hx hb dX0_keysBefore_44 (lv_at hl 2 rfl) ?_
          refine lv_iconst (v := 2) hx hb dX0_keysBefore_46 (by decide) ?_
          refine lv_idiv hx hb dX0_keysBefore_47 (by decide) ?_
          refine zw_eqi (y := nI (2 ^ i / 2)) (by rw [show 2 ^ (i + 1) / 2 = 2 ^ i by omega]; exact pk_div (d := 2) (by omega) (by decide) (by decide)) ?_
          refine lv_istore (lv' := [(4, .int (nI (2 ^ i / 2))), (3, .int (nI (b + 2 ^ i))), (5, .int (nI (b + 2 ^ i))), (0, .ref h0), (1, .long (lN k))]) hx hb dX0_keysBefore_48 hl (by decide) rfl (fun ls hl => ?_)
          refine lv_goto (tgt := 7) hx hb dX0_keysBefore_50 (by decide) ?_
          exact ih ((b + 2 ^ i)) (by omega) (by omega) (by omega) ls (lv_sub hl [0, 1, 3, 4] rfl)
  have hp : (2 : Nat) ^ 15 = 32768 := by decide
  refine lv_iconst (v := 0) hx hb dX0_keysBefore_0 (by decide) ?_
  refine zw_eqi (y := nI 0) (nI_0.symm) ?_
  refine lv_istore_n (lv' := [(3, .int (nI 0)), (0, .ref h0), (1, .long (lN k))]) hx hb dX0_keysBefore_1 rfl hl (by decide) rfl (fun ls hl => ?_)
  refine lv_sipush (v := 16384) hx hb dX0_keysBefore_2 (by decide) ?_
  refine zw_eqi (y := nI (2 ^ 15 / 2)) (by decide) ?_
  refine lv_istore (lv' := [(4, .int (nI (2 ^ 15 / 2))), (3, .int (nI 0)), (0, .ref h0), (1, .long (lN k))]) hx hb dX0_keysBefore_5 hl (by decide) rfl (fun ls hl => ?_)
  exact LOOP 15 0 (by omega) (by omega) (by omega) ls hl
set_option maxHeartbeats 4000000 in
set_option maxRecDepth 100000 in
/-- isKeyAt(C, k) -/
theorem zc_isKeyAt (l : Launch) (dC : Nat → ClassId) (dI : Nat → Nat → Nat) (h0 ha : Nat) (cA : ClassId) (n : Nat) (f : Nat → Int64) (px py pz : Int32) (ks : List Nat) (cur : Int64) (C k : Nat) (hC : C ≤ ks.length) (hk60 : k ≤ 1152921504606846976) (hG : zk_G ks n f) : Met l yX0_isKeyAt wsX0_isKeyAt ({ frames := 0, cells := 0, slots := 0, locals := 0 }) (zw_P [.ref h0, .int (nI C), .long (lN k)] (dC, dI) vwCl (zx_w h0 ha cA n f px py pz ks.length cur) [(cA, .long)]) (zw_Q (some (.int (zb_I (decide (C < ks.length) && decide (ks.getD C 0 = k)))))) 0 0 (fun _ => False) := by
  refine Met.ofW (cc := cX0_isKeyAt) (maxL := 4) (ret := (some .boolean)) (by decide) rfl ?_
  intro p e s m args below meth c s₁ B hml hv
  obtain ⟨rfl, hP, hK⟩ := hv
  have hx := B.exec
  have hb := B.bytes
  have hr := B.returns
  have hts := atoms_spec (ws := wsX0_isKeyAt) B.pre
  have hown : s.vm.findClass RX0 = some m.cls := findClass_of_methodNamed B.named
  have hl := lv_entry ([.ref h0, .int (nI C), .long (lN k)]) (n := 4) (Nat.le_of_ble_eq_true rfl)
  rw [lg_entry_eq]
  generalize (lg_sl ([.ref h0, .int (nI C), .long (lN k)]) ++ List.replicate (4 - (lg_sl ([.ref h0, .int (nI C), .long (lN k)])).length) Slot.unset).toArray = ls at hl ⊢
  have hl : lv_has ls 4 [(0, .ref h0), (1, .int (nI C)), (2, .long (lN k))] := hl
  have hP : va_P (dC, dI) vwCl (zx_w h0 ha cA n f px py pz ks.length cur) s.heap := hP
  obtain ⟨hs, h60, hn, hn2, hf⟩ := hG
  refine lv_iload_n hx hb dX0_isKeyAt_0 rfl (lv_at hl 1 rfl) ?_
  refine lv_if_lt (tgt := 27) hx hb dX0_isKeyAt_1 (by decide) (fun c_1 => absurd c_1 (nI_pos (by omega))) (fun c_1 => ?_)
  refine lv_iload_n hx hb dX0_isKeyAt_4 rfl (lv_at hl 1 rfl) ?_
  refine lv_aload_n hx hb dX0_isKeyAt_5 rfl (lv_at hl 0 rfl) ?_
  refine va_get (D := (dC, dI)) (ci := 0) (v := .int (nI ks.length)) (C := RX0) (T := TX0) (N := 6) hx hb hts (by decide +kernel) hown hK hP 0 rfl rfl 4 (by decide) (hts (.fieldLink RX0 33 "PageIndex" "held" "I") (by decide +kernel)) (fun _ h9 => h9) rfl dX0_isKeyAt_6 ?_
  refine lv_icmp_ge (tgt := 27) hx hb dX0_isKeyAt_9 (by decide) (fun c_9 => ?_) (fun c_9 => ?_)
  · have h9 : ¬ C < ks.length := by have q := (nI_leI (by omega) (by omega)).mp c_9; omega
    refine lv_iconst (v := 0) hx hb dX0_isKeyAt_27 (by decide) ?_
    refine zw_eqi (y := zb_I (decide (C < ks.length) && decide (ks.getD C 0 = k))) (by simp only [h9, decide_true, decide_false, Bool.true_and, Bool.false_and, eq_self]; rfl) ?_
    exact W.zret hx hb hr (zb_nar _) (fun t ht hW => ⟨rfl, ht⟩) (fun q h => by cases h) dX0_isKeyAt_28
  · have h9 : C < ks.length := Nat.lt_of_not_le (fun z => c_9 (nI_le z (by omega)))
    have hkb := h60 _ (zk_mem_getD (ks := ks) (j := C) h9)
    refine lv_aload_n hx hb dX0_isKeyAt_12 rfl (lv_at hl 0 rfl) ?_
    refine va_get (D := (dC, dI)) (ci := 0) (v := .ref ha) (C := RX0) (T := TX0) (N := 6) hx hb hts (by decide +kernel) hown hK hP 0 rfl rfl 3 (by decide) (hts (.fieldLink RX0 29 "PageIndex" "keys" "[J") (by decide +kernel)) (fun _ h9 => h9) rfl dX0_isKeyAt_13 ?_
    refine lv_iload_n hx hb dX0_isKeyAt_16 rfl (lv_at hl 1 rfl) ?_
    refine va_lald hx hb hK hP 1 0 rfl rfl (pk_in C n (by omega) rfl (by omega)) dX0_isKeyAt_17 ?_
    refine zw_eql (y := lN (ks.getD C 0)) (by rw [nI_clamp (by omega)]; exact hf _ h9) ?_
    refine lv_lload_n hx hb dX0_isKeyAt_18 rfl (lv_at hl 2 rfl) ?_
    refine W.lcmp hx hb dX0_isKeyAt_19 ?_
    refine lv_if_ne (tgt := 27) hx hb dX0_isKeyAt_20 (by decide) (fun c_20 => ?_) (fun c_20 => ?_)
    · have h20 : ¬ ks.getD C 0 = k := fun z => c_20 ((lg_cmp_eq _ _).mpr (by rw [z]))
      refine lv_iconst (v := 0) hx hb dX0_isKeyAt_27 (by decide) ?_
      refine zw_eqi (y := zb_I (decide (C < ks.length) && decide (ks.getD C 0 = k))) (by simp only [h9, h20, decide_true, decide_false, Bool.true_and, Bool.false_and, eq_self]; rfl) ?_
      exact W.zret hx hb hr (zb_nar _) (fun t ht hW => ⟨rfl, ht⟩) (fun q h => by cases h) dX0_isKeyAt_28
    · have h20 : ks.getD C 0 = k := (pk_lEQ (by omega) (by omega)).mp ((lg_cmp_eq _ _).mp c_20)
      refine lv_iconst (v := 1) hx hb dX0_isKeyAt_23 (by decide) ?_
      refine lv_goto (tgt := 28) hx hb dX0_isKeyAt_24 (by decide) ?_
      refine zw_eqi (y := zb_I (decide (C < ks.length) && decide (ks.getD C 0 = k))) (by simp only [h9, h20, decide_true, decide_false, Bool.true_and, Bool.false_and, eq_self]; rfl) ?_
      exact W.zret hx hb hr (zb_nar _) (fun t ht hW => ⟨rfl, ht⟩) (fun q h => by cases h) dX0_isKeyAt_28
set_option maxHeartbeats 4000000 in
set_option maxRecDepth 100000 in
/-- isHeld(k) -/
theorem zc_isHeld (l : Launch) (dC : Nat → ClassId) (dI : Nat → Nat → Nat) (h0 ha : Nat) (cA : ClassId) (n : Nat) (f : Nat → Int64) (px py pz : Int32) (ks : List Nat) (cur : Int64) (k : Nat) (hk60 : k ≤ 1152921504606846976) (hG : zk_G ks n f) : Met l yX0_isHeld wsX0_isHeld ({ frames := 1, cells := 0, slots := 0, locals := 25 }) (zw_P [.ref h0, .long (lN k)] (dC, dI) vwCl (zx_w h0 ha cA n f px py pz ks.length cur) [(cA, .long)]) (zw_Q (some (.int (zb_I (decide (k ∈ ks)))))) 0 0 (fun _ => False) := by
  refine Met.ofW (cc := cX0_isHeld) (maxL := 3) (ret := (some .boolean)) (by decide) rfl ?_
  intro p e s m args below meth c s₁ B hml hv
  obtain ⟨rfl, hP, hK⟩ := hv
  have hx := B.exec
  have hb := B.bytes
  have hr := B.returns
  have hts := atoms_spec (ws := wsX0_isHeld) B.pre
  have hown : s.vm.findClass RX0 = some m.cls := findClass_of_methodNamed B.named
  have hl := lv_entry ([.ref h0, .long (lN k)]) (n := 3) (Nat.le_of_ble_eq_true rfl)
  rw [lg_entry_eq]
  generalize (lg_sl ([.ref h0, .long (lN k)]) ++ List.replicate (3 - (lg_sl ([.ref h0, .long (lN k)])).length) Slot.unset).toArray = ls at hl ⊢
  have hl : lv_has ls 3 [(0, .ref h0), (1, .long (lN k))] := hl
  have hP : va_P (dC, dI) vwCl (zx_w h0 ha cA n f px py pz ks.length cur) s.heap := hP
  refine lv_aload_n hx hb dX0_isHeld_0 rfl (lv_at hl 0 rfl) ?_
  refine lv_aload_n hx hb dX0_isHeld_1 rfl (lv_at hl 0 rfl) ?_
  refine lv_lload_n hx hb dX0_isHeld_2 rfl (lv_at hl 1 rfl) ?_
  refine zw_ci (va_runV (As := [.long (lN k)]) (rest := [.ref h0]) ⟨hx, hb, hml, hown, hts⟩ (zc_keysBefore l dC dI h0 ha cA n f px py pz ks cur k (hk60) hG) (cwV 1 hts gX0_isHeld_X0_keysBefore rfl rfl rfl (by decide +kernel) ⟨Nat.le_of_ble_eq_true rfl, Nat.le_of_ble_eq_true rfl⟩) (zw_preV (ci := 0) (q0 := 0) hP hK rfl rfl) rfl rfl hl.1 rfl (lv_room (Nat.le_of_ble_eq_true rfl)) dX0_isHeld_3 ⟨Nat.zero_le _, Nat.zero_le _⟩) ?_
  refine lv_lload_n hx hb dX0_isHeld_6 rfl (lv_at hl 1 rfl) ?_
  refine zw_ci (va_runV (As := [.int (nI (zk_c ks k)), .long (lN k)]) (rest := []) ⟨hx, hb, hml, hown, hts⟩ (zc_isKeyAt l dC dI h0 ha cA n f px py pz ks cur (zk_c ks k) k (zk_c_le ks k) hk60 hG) (cwV 2 hts gX0_isHeld_X0_isKeyAt rfl rfl rfl (by decide +kernel) ⟨Nat.le_of_ble_eq_true rfl, Nat.le_of_ble_eq_true rfl⟩) (zw_preV (ci := 0) (q0 := 0) hP hK rfl rfl) rfl rfl hl.1 rfl (lv_room (Nat.le_of_ble_eq_true rfl)) dX0_isHeld_7 ⟨Nat.zero_le _, Nat.zero_le _⟩) ?_
  refine zw_eqi (y := zb_I (decide (k ∈ ks))) (by rw [zk_mem_b hG.1]) ?_
  exact W.zret hx hb hr (zb_nar _) (fun t ht hW => ⟨rfl, ht⟩) (fun q h => by cases h) dX0_isHeld_10
set_option maxHeartbeats 4000000 in
set_option maxRecDepth 100000 in
/-- beginnings(a, b, sh) -/
theorem zc_beginnings (l : Launch) (dC : Nat → ClassId) (dI : Nat → Nat → Nat) (h0 ha : Nat) (cA : ClassId) (n : Nat) (f : Nat → Int64) (px py pz : Int32) (ks : List Nat) (cur : Int64) (a b : Nat) (sh : Int32) (hab : a ≤ b) (hbn : b ≤ n) (hn2 : n ≤ 1024) : Met l yX0_beginnings wsX0_beginnings ({ frames := 0, cells := 0, slots := 0, locals := 0 }) (zw_P [.ref h0, .int (nI a), .int (nI b), .int sh] (dC, dI) vwCl (zx_w h0 ha cA n f px py pz ks.length cur) [(cA, .long)]) (zw_Q (some (.int (nI (zk_lp f sh (b - a) a (-1)))))) 0 0 (fun _ => False) := by
  refine Met.ofW (cc := cX0_beginnings) (maxL := 10) (ret := (some .int)) (by decide) rfl ?_
  intro p e s m args below meth c s₁ B hml hv
  obtain ⟨rfl, hP, hK⟩ := hv
  have hx := B.exec
  have hb := B.bytes
  have hr := B.returns
  have hts := atoms_spec (ws := wsX0_beginnings) B.pre
  have hown : s.vm.findClass RX0 = some m.cls := findClass_of_methodNamed B.named
  have hl := lv_entry ([.ref h0, .int (nI a), .int (nI b), .int sh]) (n := 10) (Nat.le_of_ble_eq_true rfl)
  rw [lg_entry_eq]
  generalize (lg_sl ([.ref h0, .int (nI a), .int (nI b), .int sh]) ++ List.replicate (10 - (lg_sl ([.ref h0, .int (nI a), .int (nI b), .int sh])).length) Slot.unset).toArray = ls at hl ⊢
  have hl : lv_has ls 10 [(0, .ref h0), (1, .int (nI a)), (2, .int (nI b)), (3, .int sh)] := hl
  have hP : va_P (dC, dI) vwCl (zx_w h0 ha cA n f px py pz ks.length cur) s.heap := hP
  have LOOP : ∀ (r i fd : Nat) (last : Int64), i + r = b → fd + zk_lp f sh r i last = zk_lp f sh (b - a) a (-1) → ∀ ls : Array Slot, lv_has ls 10 [(7, .int (nI i)), (5, .long last), (4, .int (nI fd)), (0, .ref h0), (2, .int (nI b)), (3, .int sh)] → W p l e (headSpec wsX0_beginnings ({ frames := 0, cells := 0, slots := 0, locals := 0 })).room s m [.ref h0, .int (nI a), .int (nI b), .int sh].toArray below meth c s.heap [] 0 0 (MQ below (zw_Q (some (.int (nI (zk_lp f sh (b - a) a (-1)))))) [.ref h0, .int (nI a), .int (nI b), .int sh].toArray s 0 0 (fun _ => False)) (F0 m 11 ls []) := by
    intro r
    induction r with
    | zero =>
      intro i fd last h1 h2 ls hl
      rw [zk_lp] at h2
      refine lv_iload hx hb dX0_beginnings_11 (lv_at hl 0 rfl) ?_
      refine lv_iload_n hx hb dX0_beginnings_13 rfl (lv_at hl 4 rfl) ?_
      refine lv_icmp_ge (tgt := 49) hx hb dX0_beginnings_14 (by decide) (fun c_14 => ?_) (fun c_14 => absurd (nI_le (by omega) (by omega)) c_14)
      refine lv_iload hx hb dX0_beginnings_49 (lv_at hl 2 rfl) ?_
      refine zw_eqi (y := nI (zk_lp f sh (b - a) a (-1))) (by rw [← h2, Nat.add_zero]) ?_
      exact W.iret hx hb hr (fun t ht hW => ⟨rfl, ht⟩) (fun q h => by cases h) dX0_beginnings_51
    | succ r ih =>
      intro i fd last h1 h2 ls hl
      rw [zk_lp] at h2
      refine lv_iload hx hb dX0_beginnings_11 (lv_at hl 0 rfl) ?_
      refine lv_iload_n hx hb dX0_beginnings_13 rfl (lv_at hl 4 rfl) ?_
      refine lv_icmp_ge (tgt := 49) hx hb dX0_beginnings_14 (by decide) (fun c_14 => absurd c_14 (nI_ge (by omega) (by omega))) (fun c_14 => ?_)
      refine lv_aload_n hx hb dX0_beginnings_17 rfl (lv_at hl 3 rfl) ?_
      refine va_get (D := (dC, dI)) (ci := 0) (v := .ref ha) (C := RX0) (T := TX0) (N := 6) hx hb hts (by decide +kernel) hown hK hP 0 rfl rfl 3 (by decide) (hts (.fieldLink RX0 29 "PageIndex" "keys" "[J") (by decide +kernel)) (fun _ h9 => h9) rfl dX0_beginnings_18 ?_
      refine lv_iload hx hb dX0_beginnings_21 (lv_at hl 0 rfl) ?_
      refine va_lald hx hb hK hP 1 0 rfl rfl (pk_in i n (by omega) rfl (by omega)) dX0_beginnings_23 ?_
      refine zw_eql (y := f i) (by rw [nI_clamp (by omega)]) ?_
      refine lv_iload_n hx hb dX0_beginnings_24 rfl (lv_at hl 5 rfl) ?_
      refine lv_lshr (v := (f i) >>> (Int32.toInt64 sh &&& 63)) hx hb dX0_beginnings_25 rfl ?_
      refine lv_lstore (lv' := [(8, .long ((f i) >>> (Int32.toInt64 sh &&& 63))), (7, .int (nI i)), (5, .long last), (4, .int (nI fd)), (0, .ref h0), (2, .int (nI b)), (3, .int sh)]) hx hb dX0_beginnings_26 hl (by decide) rfl (fun ls hl => ?_)
      refine lv_lload hx hb dX0_beginnings_28 (lv_at hl 0 rfl) ?_
      refine lv_lload hx hb dX0_beginnings_30 (lv_at hl 2 rfl) ?_
      refine W.lcmp hx hb dX0_beginnings_32 ?_
      refine lv_if_eq (tgt := 43) hx hb dX0_beginnings_33 (by decide) (fun c_33 => ?_) (fun c_33 => ?_)
      · have e33 := (lg_cmp_eq _ _).mp c_33
        rw [if_pos e33, e33] at h2
        refine lv_iinc (v := nI (i + 1)) (lv' := [(7, .int (nI (i + 1))), (8, .long ((f i) >>> (Int32.toInt64 sh &&& 63))), (5, .long last), (4, .int (nI fd)), (0, .ref h0), (2, .int (nI b)), (3, .int sh)]) hx hb dX0_beginnings_43 hl (k := 1) rfl (nI_1 _) (by decide) rfl (fun ls hl => ?_)
        refine lv_goto (tgt := 11) hx hb dX0_beginnings_46 (by decide) ?_
        exact ih (i + 1) fd last (by omega) (by omega) ls (lv_sub hl [0, 2, 3, 4, 5, 6] rfl)
      · rw [if_neg (fun z => c_33 ((lg_cmp_eq _ _).mpr z))] at h2
        refine lv_iinc (v := nI (fd + 1)) (lv' := [(4, .int (nI (fd + 1))), (8, .long ((f i) >>> (Int32.toInt64 sh &&& 63))), (7, .int (nI i)), (5, .long last), (0, .ref h0), (2, .int (nI b)), (3, .int sh)]) hx hb dX0_beginnings_36 hl (k := 3) rfl (nI_1 _) (by decide) rfl (fun ls hl => ?_)
        refine lv_lload hx hb dX0_beginnings_39 (lv_at hl 1 rfl) ?_
        refine lv_lstore (lv' := [(5, .long ((f i) >>> (Int32.toInt64 sh &&& 63))), (4, .int (nI (fd + 1))), (8, .long ((f i) >>> (Int32.toInt64 sh &&& 63))), (7, .int (nI i)), (0, .ref h0), (2, .int (nI b)), (3, .int sh)]) hx hb dX0_beginnings_41 hl (by decide) rfl (fun ls hl => ?_)
        refine lv_iinc (v := nI (i + 1)) (lv' := [(7, .int (nI (i + 1))), (5, .long ((f i) >>> (Int32.toInt64 sh &&& 63))), (4, .int (nI (fd + 1))), (8, .long ((f i) >>> (Int32.toInt64 sh &&& 63))), (0, .ref h0), (2, .int (nI b)), (3, .int sh)]) hx hb dX0_beginnings_43 hl (k := 3) rfl (nI_1 _) (by decide) rfl (fun ls hl => ?_)
        refine lv_goto (tgt := 11) hx hb dX0_beginnings_46 (by decide) ?_
        exact ih (i + 1) ((fd + 1)) ((f i) >>> (Int32.toInt64 sh &&& 63)) (by omega) (by omega) ls (lv_sub hl [0, 1, 2, 4, 5, 6] rfl)
  refine lv_iconst (v := 0) hx hb dX0_beginnings_0 (by decide) ?_
  refine zw_eqi (y := nI 0) (nI_0.symm) ?_
  refine lv_istore (lv' := [(4, .int (nI 0)), (0, .ref h0), (1, .int (nI a)), (2, .int (nI b)), (3, .int sh)]) hx hb dX0_beginnings_1 hl (by decide) rfl (fun ls hl => ?_)
  refine lv_ldc2 (v := (-1)) hx hb hown (hts (.constantLong RX0 36 (-1)) (by decide +kernel)) dX0_beginnings_3 ?_
  refine lv_lstore (lv' := [(5, .long (-1)), (4, .int (nI 0)), (0, .ref h0), (1, .int (nI a)), (2, .int (nI b)), (3, .int sh)]) hx hb dX0_beginnings_6 hl (by decide) rfl (fun ls hl => ?_)
  refine lv_iload_n hx hb dX0_beginnings_8 rfl (lv_at hl 3 rfl) ?_
  refine lv_istore (lv' := [(7, .int (nI a)), (5, .long (-1)), (4, .int (nI 0)), (0, .ref h0), (1, .int (nI a)), (2, .int (nI b)), (3, .int sh)]) hx hb dX0_beginnings_9 hl (by decide) rfl (fun ls hl => ?_)
  exact LOOP (b - a) a 0 (-1) (by omega) (by omega) ls (lv_sub hl [0, 1, 2, 3, 5, 6] rfl)
