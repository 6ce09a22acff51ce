/-! Own rows: a new object of the class, a new object of the reference -/
def zk_tab (j : Nat) : Int32 := nI (([0, 1, 2, 0, 2, 1, 1, 0, 2, 2, 0, 1, 1, 2, 0, 2, 1, 0] : List Nat).getD j 0)
theorem zk_tab_x {o : Nat} (ho : o < 6) : zk_tab (3 * o) = nI (zk_px o) := by
  match o, ho with
  | 0, _ => decide
  | 1, _ => decide
  | 2, _ => decide
  | 3, _ => decide
  | 4, _ => decide
  | 5, _ => decide
theorem zk_tab_y {o : Nat} (ho : o < 6) : zk_tab (3 * o + 1) = nI (zk_py o) := by
  match o, ho with
  | 0, _ => decide
  | 1, _ => decide
  | 2, _ => decide
  | 3, _ => decide
  | 4, _ => decide
  | 5, _ => decide
theorem zk_tab_z {o : Nat} (ho : o < 6) : zk_tab (3 * o + 2) = nI (zk_pz o) := by
  match o, ho with
  | 0, _ => decide
  | 1, _ => decide
  | 2, _ => decide
  | 3, _ => decide
  | 4, _ => decide
  | 5, _ => decide
abbrev zi_w (h0 : Nat) (a b d : Int32) (k : Value) (N : Int32) (cur : Int64) : Nat × va_E := (h0, .inr (0, [.int a, .int b, .int d, k, .int N, .long cur]))
def zi_P (av : List Value) (D : va_G) (cl : List vw_C) (ws : va_W) (sz t : Nat) : Array Value → State → Prop := va_Pc av (fun U => U.heap.size = sz ∧ va_P D cl ws U.heap ∧ va_K D cl [] U ∧ va_D (fun _ => True) ws ∧ va_Z "PageIndex" "PLACES" "[I" (.ref t) (va_A ws sz) U U.heap ∧ va_T .int t 18 (fun j => .int (zk_tab j)) (va_A ws sz) U U.heap)
theorem zi_bl {av : List Value} {D : va_G} {cl : List vw_C} {ws : va_W} {sz t : Nat} : FrameBlind (zi_P av D cl ws sz t) := fun a U g mk q => ⟨q.1, q.2.1, q.2.2.1, va_K.moved (u := U) (U := U.calling g mk a) (Vm.Alike.refl U.vm) q.2.2.2.1, q.2.2.2.2.1, va_Z.moved (u := U) (U := U.calling g mk a) (Vm.Alike.refl U.vm) q.2.2.2.2.2.1, va_T.moved (u := U) (U := U.calling g mk a) (Vm.Alike.refl U.vm) q.2.2.2.2.2.2⟩
set_option maxHeartbeats 4000000 in
set_option maxRecDepth 100000 in
/-- PageIndex(v) -/
theorem zc_init (l : Launch) (dC : Nat → ClassId) (dI : Nat → Nat → Nat) (h0 sz t : Nat) (v : Int32) (o : Nat) (ho : o < 6) (eo : zf_fm v = nI o) : Met l yX0_init wsX0_init ({ frames := 1, cells := 1, slots := 64, locals := 40 }) (zi_P [.ref h0, .int v] (dC, dI) vwCl [zi_w h0 0 0 0 .null 0 0] sz t) (zx_Q dC dI h0 (nI (zk_px o)) (nI (zk_py o)) (nI (zk_pz o)) none [] (-1) (va_A [zi_w h0 0 0 0 .null 0 0] sz)) 1 64 (va_A [zi_w h0 0 0 0 .null 0 0] sz) := by
  refine Met.ofW (cc := cX0_init) (maxL := 3) (ret := none) (by decide) rfl ?_
  intro p e s m args below meth c s₁ B hml hv
  obtain ⟨rfl, hsz, hP, hK, hD0, hZ, hT⟩ := hv
  have hx := B.exec
  have hb := B.bytes
  have hr := B.returns
  have hts := atoms_spec (ws := wsX0_init) B.pre
  have hown : s.vm.findClass RX0 = some m.cls := findClass_of_methodNamed B.named
  have hin : meth.name = "<init>" := (name_of_methodNamed B.named B.method).1
  subst hsz
  have hD := hD0.self (sz := s.heap.size)
  generalize hAe : va_A [zi_w h0 0 0 0 .null 0 0] s.heap.size = A at hD hZ hT ⊢
  have hA : ∀ q : Nat, s.heap.size ≤ q → A q := fun q h => by rw [← hAe]; exact Or.inr h
  have hS : va_S A s.heap s.heap [] := va_S.rf
  have hP : va_P (dC, dI) vwCl [zi_w h0 0 0 0 .null 0 0] s.heap := hP
  have hl := lv_entry ([.ref h0, .int v]) (n := 3) (Nat.le_of_ble_eq_true rfl)
  rw [lg_entry_eq]
  generalize (lg_sl ([.ref h0, .int v]) ++ List.replicate (3 - (lg_sl ([.ref h0, .int v])).length) Slot.unset).toArray = ls at hl ⊢
  have hl : lv_has ls 3 [(0, .ref h0), (1, .int v)] := hl
  refine lv_aload_n hx hb dX0_init_0 rfl (lv_at hl 0 rfl) ?_
  refine W.objInit hx hb hown (hts (.methodLink RX0 3 objectInit) (by decide +kernel)) (hts (.instanceMethod objectInit) (by decide +kernel)) (hts _ (List.mem_of_getElem? (i := 3) rfl)) rfl (by rw [hml]; exact hl.1) rfl dX0_init_1 (Nat.le_of_ble_eq_true rfl) (Nat.le_of_ble_eq_true rfl) ?_
  refine W.eq (g2 := F0 m 4 ls []) rfl ?_
  refine lv_iconst (v := 3) hx hb dX0_init_4 (by decide) ?_
  refine lv_iload_n hx hb dX0_init_5 rfl (lv_at hl 1 rfl) ?_
  refine lv_bipush (v := 6) hx hb dX0_init_6 (by decide) ?_
  refine zw_ci (va_runS (As := [.int v, .int 6]) (rest := [.int 3]) ⟨hx, hb, hml, hown, hts⟩ (zj_floorMod l v) (va_cwS 2 hts gX0_init_J9_floorMod_7cf53 rfl rfl rfl (by decide +kernel) ⟨Nat.le_of_ble_eq_true rfl, Nat.le_of_ble_eq_true rfl⟩) (preEq) rfl rfl hl.1 rfl (lv_room (Nat.le_of_ble_eq_true rfl)) dX0_init_8 ⟨Nat.zero_le _, Nat.zero_le _⟩) ?_
  refine zw_eqi (y := nI o) eo ?_
  refine lv_imul hx hb dX0_init_11 ?_
  refine zw_eqi (y := nI (3 * o)) (pk_mul 3 o) ?_
  refine lv_istore_n (lv' := [(2, .int (nI (3 * o))), (0, .ref h0), (1, .int v)]) hx hb dX0_init_12 rfl hl (by decide) rfl (fun ls hl => ?_)
  refine lv_aload_n hx hb dX0_init_13 rfl (lv_at hl 1 rfl) ?_
  refine va_gets hx hb hZ hS hown (hts (.fieldLink RX0 15 "PageIndex" "PLACES" "[I") (by decide +kernel)) (fun _ h9 => h9) dX0_init_14 ?_
  refine lv_iload_n hx hb dX0_init_17 rfl (lv_at hl 0 rfl) ?_
  refine va_ti (v := .int (nI (zk_px o))) hx hb hT hS (pk_in (3 * o) 18 (by omega) rfl (by omega)) (by rw [nI_clamp (by omega), zk_tab_x ho]) dX0_init_18 ?_
  refine va_putF (D := (dC, dI)) (ci := 0) (v := .int (nI (zk_px o))) (ty := .int) (C := RX0) (T := TX0) (N := 6) hx hb hts (by decide +kernel) tyX0 tyX0_ok nmX0 hown hK hP hD hS 0 rfl rfl 0 (by decide) (hts (.fieldLink RX0 19 "PageIndex" "placeOfX" "I") (by decide +kernel)) (fun _ h9 => h9) rfl hin rfl (by decide +kernel) rfl rfl (Nat.le_of_ble_eq_true rfl) dX0_init_19 (fun H locs hP hD hS => ?_)
  have hP : va_P (dC, dI) vwCl [zi_w h0 (nI (zk_px o)) 0 0 .null 0 0] H := hP
  have hD : va_D A [zi_w h0 (nI (zk_px o)) 0 0 .null 0 0] := hD
  refine lv_aload_n hx hb dX0_init_22 rfl (lv_at hl 1 rfl) ?_
  refine va_gets hx hb hZ hS hown (hts (.fieldLink RX0 15 "PageIndex" "PLACES" "[I") (by decide +kernel)) (fun _ h9 => h9) dX0_init_23 ?_
  refine lv_iload_n hx hb dX0_init_26 rfl (lv_at hl 0 rfl) ?_
  refine lv_iconst (v := 1) hx hb dX0_init_27 (by decide) ?_
  refine lv_iadd hx hb dX0_init_28 ?_
  refine zw_eqi (y := nI (3 * o + 1)) (nI_1 _) ?_
  refine va_ti (v := .int (nI (zk_py o))) hx hb hT hS (pk_in (3 * o + 1) 18 (by omega) rfl (by omega)) (by rw [nI_clamp (by omega), zk_tab_y ho]) dX0_init_29 ?_
  refine va_putF (D := (dC, dI)) (ci := 0) (v := .int (nI (zk_py o))) (ty := .int) (C := RX0) (T := TX0) (N := 6) hx hb hts (by decide +kernel) tyX0 tyX0_ok nmX0 hown hK hP hD hS 0 rfl rfl 1 (by decide) (hts (.fieldLink RX0 23 "PageIndex" "placeOfY" "I") (by decide +kernel)) (fun _ h9 => h9) rfl hin rfl (by decide +kernel) rfl rfl (Nat.le_of_ble_eq_true rfl) dX0_init_30 (fun H locs hP hD hS => ?_)
  have hP : va_P (dC, dI) vwCl [zi_w h0 (nI (zk_px o)) (nI (zk_py o)) 0 .null 0 0] H := hP
  have hD : va_D A [zi_w h0 (nI (zk_px o)) (nI (zk_py o)) 0 .null 0 0] := hD
  refine lv_aload_n hx hb dX0_init_33 rfl (lv_at hl 1 rfl) ?_
  refine va_gets hx hb hZ hS hown (hts (.fieldLink RX0 15 "PageIndex" "PLACES" "[I") (by decide +kernel)) (fun _ h9 => h9) dX0_init_34 ?_
  refine lv_iload_n hx hb dX0_init_37 rfl (lv_at hl 0 rfl) ?_
  refine lv_iconst (v := 2) hx hb dX0_init_38 (by decide) ?_
  refine lv_iadd hx hb dX0_init_39 ?_
  refine zw_eqi (y := nI (3 * o + 2)) (nI_add _ 2) ?_
  refine va_ti (v := .int (nI (zk_pz o))) hx hb hT hS (pk_in (3 * o + 2) 18 (by omega) rfl (by omega)) (by rw [nI_clamp (by omega), zk_tab_z ho]) dX0_init_40 ?_
  refine va_putF (D := (dC, dI)) (ci := 0) (v := .int (nI (zk_pz o))) (ty := .int) (C := RX0) (T := TX0) (N := 6) hx hb hts (by decide +kernel) tyX0 tyX0_ok nmX0 hown hK hP hD hS 0 rfl rfl 2 (by decide) (hts (.fieldLink RX0 26 "PageIndex" "placeOfZ" "I") (by decide +kernel)) (fun _ h9 => h9) rfl hin rfl (by decide +kernel) rfl rfl (Nat.le_of_ble_eq_true rfl) dX0_init_41 (fun H locs hP hD hS => ?_)
  have hP : va_P (dC, dI) vwCl [zi_w h0 (nI (zk_px o)) (nI (zk_py o)) (nI (zk_pz o)) .null 0 0] H := hP
  have hD : va_D A [zi_w h0 (nI (zk_px o)) (nI (zk_py o)) (nI (zk_pz o)) .null 0 0] := hD
  refine lv_aload_n hx hb dX0_init_44 rfl (lv_at hl 1 rfl) ?_
  refine lv_bipush (v := 64) hx hb dX0_init_45 (by decide) ?_
  refine va_newa (atype := .long) (n := 64) (a0 := (64, .inr (.inl (fun _ => 0)))) (N' := 64) (ty := .long) hx hb (hts (.arrayClass .long) (by decide +kernel)) rfl hK hP hD hS hA (fun _ => rfl) (by decide) (by decide) (by decide) (Nat.le_of_ble_eq_true rfl) (Nat.le_of_ble_eq_true rfl) dX0_init_47 (fun q cB H hK hP hD hS => ?_)
  have hP : va_P (dC, dI) vwCl [zi_w h0 (nI (zk_px o)) (nI (zk_py o)) (nI (zk_pz o)) .null 0 0, (q, .inl (cB, 64, .inr (.inl (fun _ => 0))))] H := hP
  have hD : va_D A [zi_w h0 (nI (zk_px o)) (nI (zk_py o)) (nI (zk_pz o)) .null 0 0, (q, .inl (cB, 64, .inr (.inl (fun _ => 0))))] := hD
  have hK : va_K (dC, dI) vwCl [(cB, .long)] s := hK
  refine va_put (D := (dC, dI)) (ci := 0) (v := .ref q) (ty := .array .long) (C := RX0) (T := TX0) (N := 6) hx hb hts (by decide +kernel) tyX0 tyX0_ok nmX0 hown hK hP hD hS 0 rfl rfl 3 (by decide) (hts (.fieldLink RX0 29 "PageIndex" "keys" "[J") (by decide +kernel)) (fun _ h9 => h9) rfl (by decide +kernel) rfl rfl (Nat.le_of_ble_eq_true rfl) dX0_init_49 (fun H locs hP hD hS => ?_)
  have hP : va_P (dC, dI) vwCl [zi_w h0 (nI (zk_px o)) (nI (zk_py o)) (nI (zk_pz o)) (.ref q) 0 0, (q, .inl (cB, 64, .inr (.inl (fun _ => 0))))] H := hP
  have hD : va_D A [zi_w h0 (nI (zk_px o)) (nI (zk_py o)) (nI (zk_pz o)) (.ref q) 0 0, (q, .inl (cB, 64, .inr (.inl (fun _ => 0))))] := hD
  refine lv_aload_n hx hb dX0_init_52 rfl (lv_at hl 1 rfl) ?_
  refine lv_iconst (v := 0) hx hb dX0_init_53 (by decide) ?_
  refine va_put (D := (dC, dI)) (ci := 0) (v := .int 0) (ty := .int) (C := RX0) (T := TX0) (N := 6) hx hb hts (by decide +kernel) tyX0 tyX0_ok nmX0 hown hK hP hD hS 0 rfl rfl 4 (by decide) (hts (.fieldLink RX0 33 "PageIndex" "held" "I") (by decide +kernel)) (fun _ h9 => h9) rfl (by decide +kernel) rfl rfl (Nat.le_of_ble_eq_true rfl) dX0_init_54 (fun H locs hP hD hS => ?_)
  refine lv_aload_n hx hb dX0_init_57 rfl (lv_at hl 1 rfl) ?_
  refine lv_ldc2 (v := (-1)) hx hb hown (hts (.constantLong RX0 36 (-1)) (by decide +kernel)) dX0_init_58 ?_
  have hP : va_P (dC, dI) vwCl [zi_w h0 (nI (zk_px o)) (nI (zk_py o)) (nI (zk_pz o)) (.ref q) 0 0, (q, .inl (cB, 64, .inr (.inl (fun _ => 0))))] H := hP
  have hD : va_D A [zi_w h0 (nI (zk_px o)) (nI (zk_py o)) (nI (zk_pz o)) (.ref q) 0 0, (q, .inl (cB, 64, .inr (.inl (fun _ => 0))))] := hD
  refine va_put (D := (dC, dI)) (ci := 0) (v := .long (-1)) (ty := .long) (C := RX0) (T := TX0) (N := 6) hx hb hts (by decide +kernel) tyX0 tyX0_ok nmX0 hown hK hP hD hS 0 rfl rfl 5 (by decide) (hts (.fieldLink RX0 38 "PageIndex" "cursor" "J") (by decide +kernel)) (fun _ h9 => h9) rfl (by decide +kernel) rfl rfl (Nat.le_of_ble_eq_true rfl) dX0_init_61 (fun H locs hP hD hS => ?_)
  have hP : va_P (dC, dI) vwCl (zx_w h0 q cB 64 (fun _ => 0) (nI (zk_px o)) (nI (zk_py o)) (nI (zk_pz o)) 0 (-1)) H := hP
  have hD : va_D A (zx_w h0 q cB 64 (fun _ => 0) (nI (zk_px o)) (nI (zk_py o)) (nI (zk_pz o)) 0 (-1)) := hD
  exact W.vret hx hb hr (fun t ht hW => ⟨⟨(q, cB, 64, fun _ => 0), rfl, ⟨List.Pairwise.nil, fun k hk => (by cases hk), Nat.zero_le _, ⟨Nat.le_refl _, show 64 ≤ 1024 by decide⟩, fun j hj => (by cases hj)⟩, by rw [ht]; exact hP, va_K.moved hW.alike hK, hD⟩, hS.F ht⟩) hS.2.2 dX0_init_64
abbrev zi_m (h0 : Nat) (k : Value) (N o : Int32) (cur : Int64) : Nat × va_E := (h0, .inr (1, [k, .int N, .int o, .long cur]))
set_option maxHeartbeats 4000000 in
set_option maxRecDepth 100000 in
/-- PageIndexModel(v) -/
theorem zd_init (l : Launch) (dC : Nat → ClassId) (dI : Nat → Nat → Nat) (h0 sz : Nat) (v : Int32) (o : Nat) (eo : zf_fm v = nI o) : Met l yX1_init wsX1_init ({ frames := 1, cells := 1, slots := 20000, locals := 40 }) (zw_Pw [.ref h0, .int v] (dC, dI) vwCl [zi_m h0 .null 0 0 0] [] sz) (zw_Qw (S := Nat × ClassId) (fun _ => none) (fun _ => True) (dC, dI) vwCl (fun u => zy_w h0 u.1 u.2 (fun _ => 0) o 0 (-1)) (fun u => [(u.2, .long)]) (va_A [zi_m h0 .null 0 0 0] sz)) 1 20000 (va_A [zi_m h0 .null 0 0 0] sz) := by
  refine Met.ofW (cc := cX1_init) (maxL := 2) (ret := none) (by decide) rfl ?_
  intro p e s m args below meth c s₁ B hml hv
  obtain ⟨rfl, hsz, hP, hK, hD0⟩ := hv
  have hx := B.exec
  have hb := B.bytes
  have hr := B.returns
  have hts := atoms_spec (ws := wsX1_init) B.pre
  have hown : s.vm.findClass RX1 = some m.cls := findClass_of_methodNamed B.named
  have hin : meth.name = "<init>" := (name_of_methodNamed B.named B.method).1
  subst hsz
  have hD := hD0.self (sz := s.heap.size)
  generalize hAe : va_A [zi_m h0 .null 0 0 0] s.heap.size = A at hD ⊢
  have hA : ∀ q : Nat, s.heap.size ≤ q → A q := fun q h => by rw [← hAe]; exact Or.inr h
  have hS : va_S A s.heap s.heap [] := va_S.rf
  have hP : va_P (dC, dI) vwCl [zi_m h0 .null 0 0 0] s.heap := hP
  have hl := lv_entry ([.ref h0, .int v]) (n := 2) (Nat.le_of_ble_eq_true rfl)
  rw [lg_entry_eq]
  generalize (lg_sl ([.ref h0, .int v]) ++ List.replicate (2 - (lg_sl ([.ref h0, .int v])).length) Slot.unset).toArray = ls at hl ⊢
  have hl : lv_has ls 2 [(0, .ref h0), (1, .int v)] := hl
  refine lv_aload_n hx hb dX1_init_0 rfl (lv_at hl 0 rfl) ?_
  refine W.objInit hx hb hown (hts (.methodLink RX1 1 objectInit) (by decide +kernel)) (hts (.instanceMethod objectInit) (by decide +kernel)) (hts _ (List.mem_of_getElem? (i := 3) rfl)) rfl (by rw [hml]; exact hl.1) rfl dX1_init_1 (Nat.le_of_ble_eq_true rfl) (Nat.le_of_ble_eq_true rfl) ?_
  refine W.eq (g2 := F0 m 4 ls []) rfl ?_
  refine lv_aload_n hx hb dX1_init_4 rfl (lv_at hl 0 rfl) ?_
  refine lv_sipush (v := 20000) hx hb dX1_init_5 (by decide) ?_
  refine va_newa (atype := .long) (n := 20000) (a0 := (20000, .inr (.inl (fun _ => 0)))) (N' := 20000) (ty := .long) hx hb (hts (.arrayClass .long) (by decide +kernel)) rfl hK hP hD hS hA (fun _ => rfl) (by decide) (by decide) (by decide) (Nat.le_of_ble_eq_true rfl) (Nat.le_of_ble_eq_true rfl) dX1_init_8 (fun q cB H hK hP hD hS => ?_)
  have hP : va_P (dC, dI) vwCl [zi_m h0 .null 0 0 0, (q, .inl (cB, 20000, .inr (.inl (fun _ => 0))))] H := hP
  have hD : va_D A [zi_m h0 .null 0 0 0, (q, .inl (cB, 20000, .inr (.inl (fun _ => 0))))] := hD
  have hK : va_K (dC, dI) vwCl [(cB, .long)] s := hK
  refine va_putF (D := (dC, dI)) (ci := 1) (v := .ref q) (ty := .array .long) (C := RX1) (T := TX1) (N := 4) hx hb hts (by decide +kernel) tyX1 tyX1_ok nmX1 hown hK hP hD hS 0 rfl rfl 0 (by decide) (hts (.fieldLink RX1 7 "PageIndexModel" "keys" "[J") (by decide +kernel)) (fun _ h9 => h9) rfl hin rfl (by decide +kernel) rfl rfl (Nat.le_of_ble_eq_true rfl) dX1_init_10 (fun H locs hP hD hS => ?_)
  have hP : va_P (dC, dI) vwCl [zi_m h0 (.ref q) 0 0 0, (q, .inl (cB, 20000, .inr (.inl (fun _ => 0))))] H := hP
  have hD : va_D A [zi_m h0 (.ref q) 0 0 0, (q, .inl (cB, 20000, .inr (.inl (fun _ => 0))))] := hD
  refine lv_aload_n hx hb dX1_init_13 rfl (lv_at hl 0 rfl) ?_
  refine lv_ldc2 (v := (-1)) hx hb hown (hts (.constantLong RX1 13 (-1)) (by decide +kernel)) dX1_init_14 ?_
  refine va_put (D := (dC, dI)) (ci := 1) (v := .long (-1)) (ty := .long) (C := RX1) (T := TX1) (N := 4) hx hb hts (by decide +kernel) tyX1 tyX1_ok nmX1 hown hK hP hD hS 0 rfl rfl 3 (by decide) (hts (.fieldLink RX1 15 "PageIndexModel" "cursor" "J") (by decide +kernel)) (fun _ h9 => h9) rfl (by decide +kernel) rfl rfl (Nat.le_of_ble_eq_true rfl) dX1_init_17 (fun H locs hP hD hS => ?_)
  have hP : va_P (dC, dI) vwCl [zi_m h0 (.ref q) 0 0 (-1), (q, .inl (cB, 20000, .inr (.inl (fun _ => 0))))] H := hP
  have hD : va_D A [zi_m h0 (.ref q) 0 0 (-1), (q, .inl (cB, 20000, .inr (.inl (fun _ => 0))))] := hD
  refine lv_aload_n hx hb dX1_init_20 rfl (lv_at hl 0 rfl) ?_
  refine lv_iload_n hx hb dX1_init_21 rfl (lv_at hl 1 rfl) ?_
  refine lv_bipush (v := 6) hx hb dX1_init_22 (by decide) ?_
  refine zw_ci (va_runS (As := [.int v, .int 6]) (rest := [.ref h0]) ⟨hx, hb, hml, hown, hts⟩ (zj_floorMod l v) (va_cwS 2 hts gX1_init_J9_floorMod_7cf53 rfl rfl rfl (by decide +kernel) ⟨Nat.le_of_ble_eq_true rfl, Nat.le_of_ble_eq_true rfl⟩) (preEq) rfl rfl hl.1 rfl (lv_room (Nat.le_of_ble_eq_true rfl)) dX1_init_24 ⟨Nat.le_of_ble_eq_true rfl, Nat.le_of_ble_eq_true rfl⟩) ?_
  refine zw_eqi (y := nI o) eo ?_
  refine va_putF (D := (dC, dI)) (ci := 1) (v := .int (nI o)) (ty := .int) (C := RX1) (T := TX1) (N := 4) hx hb hts (by decide +kernel) tyX1 tyX1_ok nmX1 hown hK hP hD hS 0 rfl rfl 2 (by decide) (hts (.fieldLink RX1 25 "PageIndexModel" "order" "I") (by decide +kernel)) (fun _ h9 => h9) rfl hin rfl (by decide +kernel) rfl rfl (Nat.le_of_ble_eq_true rfl) dX1_init_27 (fun H locs hP hD hS => ?_)
  have hP : va_P (dC, dI) vwCl (zy_w h0 q cB (fun _ => 0) o 0 (-1)) H := hP
  have hD : va_D A (zy_w h0 q cB (fun _ => 0) o 0 (-1)) := hD
  exact W.vret hx hb hr (fun t ht hW => ⟨⟨(q, cB), rfl, trivial, by rw [ht]; exact hP, va_K.moved hW.alike hK, hD⟩, hS.F ht⟩) hS.2.2 dX1_init_30
