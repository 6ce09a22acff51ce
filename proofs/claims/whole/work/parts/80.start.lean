/-! Own rows: the law's entry -/
def zl_c0 (L : Nat) (xs : Nat → Int32) : Int32 := if L = 0 then 0 else xs 0
def zl_P (b L : Nat) (xs : Nat → Int32) : Array Value → State → Prop := va_Pc [.ref b, .int 0] (fun U => va_X b L xs U U.heap)
theorem zl_bl {b L : Nat} {xs : Nat → Int32} : FrameBlind (zl_P b L xs) := fun a U g mk q => ⟨q.1, va_X.moved (u := U) (U := U.calling g mk a) (Vm.Alike.refl U.vm) q.2⟩
set_option maxHeartbeats 4000000 in
set_option maxRecDepth 100000 in
/-- cell(script, 0) -/
theorem zl_cell (l : Launch) (b L : Nat) (xs : Nat → Int32) (hL : L ≤ 2561) : Met l yL_cell wsL_cell ({ frames := 0, cells := 0, slots := 0, locals := 0 }) (zl_P b L xs) (zw_Q (some (.int (zl_c0 L xs)))) 0 0 (fun _ => False) := by
  refine Met.ofW (cc := cL_cell) (maxL := 2) (ret := (some .int)) (by decide) rfl ?_
  intro p e s m args below meth c s₁ B hml hv
  obtain ⟨rfl, hX⟩ := hv
  have hx := B.exec
  have hb := B.bytes
  have hr := B.returns
  have hbl : b < s.heap.size := by
    obtain ⟨scr, h, -⟩ := hX
    exact (Array.getElem?_eq_some_iff.mp h).1
  have hS : va_S (fun _ => False) s.heap s.heap [] := va_S.rf
  have hl := lv_entry ([.ref b, .int 0]) (n := 2) (Nat.le_of_ble_eq_true rfl)
  rw [lg_entry_eq]
  generalize (lg_sl ([.ref b, .int 0]) ++ List.replicate (2 - (lg_sl ([.ref b, .int 0])).length) Slot.unset).toArray = ls at hl ⊢
  have hl : lv_has ls 2 [(0, .ref b), (1, .int 0)] := hl
  refine lv_iload_n hx hb dL_cell_0 rfl (lv_at hl 1 rfl) ?_
  refine lv_aload_n hx hb dL_cell_1 rfl (lv_at hl 0 rfl) ?_
  refine va_slen hx hb hX hbl (fun h => h) hS dL_cell_2 ?_
  refine lv_icmp_ge (tgt := 12) hx hb dL_cell_3 (by decide) (fun c_3 => ?_) (fun c_3 => ?_)
  · have h0 : L ≤ 0 := (nI_leI (a := L) (b := 0) (by omega) (by omega)).mp c_3
    refine lv_iconst (v := 0) hx hb dL_cell_12 (by decide) ?_
    refine zw_eqi (y := zl_c0 L xs) (by rw [zl_c0, if_pos (by omega)]) ?_
    exact W.iret hx hb hr (fun t ht hW => ⟨rfl, ht⟩) (fun q h => by cases h) dL_cell_13
  · have h0 : 0 < L := Nat.lt_of_not_le (fun q => c_3 (nI_le (b := 0) q (by omega)))
    refine lv_aload_n hx hb dL_cell_6 rfl (lv_at hl 0 rfl) ?_
    refine lv_iload_n hx hb dL_cell_7 rfl (lv_at hl 1 rfl) ?_
    refine va_sld hx hb hX hbl (fun h => h) hS (pk_in 0 L h0 nI_0.symm (by omega)) dL_cell_8 ?_
    refine zw_eqi (y := zl_c0 L xs) (by rw [zl_c0, if_neg (by omega), sb_cl0]) ?_
    refine lv_goto (tgt := 13) hx hb dL_cell_9 (by decide) ?_
    exact W.iret hx hb hr (fun t ht hW => ⟨rfl, ht⟩) (fun q h => by cases h) dL_cell_13
set_option maxHeartbeats 4000000 in
set_option maxRecDepth 100000 in
/-- what the Statement says of the class' own table -/
theorem zl_tab {s : State} {b : Nat} (hgv : (Jvm.Cond.and given_1 narrow_1).before #[Value.ref b] s = true) (hts : ∀ w ∈ lw_tbl, w.before #[Value.ref b] s = true) : ∃ t : Nat, va_Z "PageIndex" "PLACES" "[I" (.ref t) (fun q : Nat => s.heap.size ≤ q) s s.heap ∧ va_T .int t 18 (fun j => .int (zk_tab j)) (fun q : Nat => s.heap.size ≤ q) s s.heap := by
  have hs := flat_of_before _ hgv
  have harr : (Cond.arrayOf (.static "PageIndex" "PLACES" "[I") .int).before #[Value.ref b] s = true := hs _ (by decide +kernel)
  have hlen : (Cond.eq (.length (.static "PageIndex" "PLACES" "[I")) (.int 18)).before #[Value.ref b] s = true := hs _ (by decide +kernel)
  have e_0 : (Cond.eq (.elem (.static "PageIndex" "PLACES" "[I") (.int 0)) (.int 0)).before #[Value.ref b] s = true := hs _ (by decide +kernel)
  have e_1 : (Cond.eq (.elem (.static "PageIndex" "PLACES" "[I") (.int 1)) (.int 1)).before #[Value.ref b] s = true := hs _ (by decide +kernel)
  have e_2 : (Cond.eq (.elem (.static "PageIndex" "PLACES" "[I") (.int 2)) (.int 2)).before #[Value.ref b] s = true := hs _ (by decide +kernel)
  have e_3 : (Cond.eq (.elem (.static "PageIndex" "PLACES" "[I") (.int 3)) (.int 0)).before #[Value.ref b] s = true := hs _ (by decide +kernel)
  have e_4 : (Cond.eq (.elem (.static "PageIndex" "PLACES" "[I") (.int 4)) (.int 2)).before #[Value.ref b] s = true := hs _ (by decide +kernel)
  have e_5 : (Cond.eq (.elem (.static "PageIndex" "PLACES" "[I") (.int 5)) (.int 1)).before #[Value.ref b] s = true := hs _ (by decide +kernel)
  have e_6 : (Cond.eq (.elem (.static "PageIndex" "PLACES" "[I") (.int 6)) (.int 1)).before #[Value.ref b] s = true := hs _ (by decide +kernel)
  have e_7 : (Cond.eq (.elem (.static "PageIndex" "PLACES" "[I") (.int 7)) (.int 0)).before #[Value.ref b] s = true := hs _ (by decide +kernel)
  have e_8 : (Cond.eq (.elem (.static "PageIndex" "PLACES" "[I") (.int 8)) (.int 2)).before #[Value.ref b] s = true := hs _ (by decide +kernel)
  have e_9 : (Cond.eq (.elem (.static "PageIndex" "PLACES" "[I") (.int 9)) (.int 2)).before #[Value.ref b] s = true := hs _ (by decide +kernel)
  have e_10 : (Cond.eq (.elem (.static "PageIndex" "PLACES" "[I") (.int 10)) (.int 0)).before #[Value.ref b] s = true := hs _ (by decide +kernel)
  have e_11 : (Cond.eq (.elem (.static "PageIndex" "PLACES" "[I") (.int 11)) (.int 1)).before #[Value.ref b] s = true := hs _ (by decide +kernel)
  have e_12 : (Cond.eq (.elem (.static "PageIndex" "PLACES" "[I") (.int 12)) (.int 1)).before #[Value.ref b] s = true := hs _ (by decide +kernel)
  have e_13 : (Cond.eq (.elem (.static "PageIndex" "PLACES" "[I") (.int 13)) (.int 2)).before #[Value.ref b] s = true := hs _ (by decide +kernel)
  have e_14 : (Cond.eq (.elem (.static "PageIndex" "PLACES" "[I") (.int 14)) (.int 0)).before #[Value.ref b] s = true := hs _ (by decide +kernel)
  have e_15 : (Cond.eq (.elem (.static "PageIndex" "PLACES" "[I") (.int 15)) (.int 2)).before #[Value.ref b] s = true := hs _ (by decide +kernel)
  have e_16 : (Cond.eq (.elem (.static "PageIndex" "PLACES" "[I") (.int 16)) (.int 1)).before #[Value.ref b] s = true := hs _ (by decide +kernel)
  have e_17 : (Cond.eq (.elem (.static "PageIndex" "PLACES" "[I") (.int 17)) (.int 0)).before #[Value.ref b] s = true := hs _ (by decide +kernel)
  obtain ⟨t, ht, hT⟩ := va_Tof (tm := .static "PageIndex" "PLACES" "[I") (ty := .int) (N := 18) (f := fun j => .int (zk_tab j)) (A := fun q : Nat => s.heap.size ≤ q) (by decide) harr (va_eqt hlen) (fun j hj => by
    match j, hj with
    | 0, _ => exact va_eqt e_0
    | 1, _ => exact va_eqt e_1
    | 2, _ => exact va_eqt e_2
    | 3, _ => exact va_eqt e_3
    | 4, _ => exact va_eqt e_4
    | 5, _ => exact va_eqt e_5
    | 6, _ => exact va_eqt e_6
    | 7, _ => exact va_eqt e_7
    | 8, _ => exact va_eqt e_8
    | 9, _ => exact va_eqt e_9
    | 10, _ => exact va_eqt e_10
    | 11, _ => exact va_eqt e_11
    | 12, _ => exact va_eqt e_12
    | 13, _ => exact va_eqt e_13
    | 14, _ => exact va_eqt e_14
    | 15, _ => exact va_eqt e_15
    | 16, _ => exact va_eqt e_16
    | 17, _ => exact va_eqt e_17
    | j + 18, hj => exact absurd hj (by omega)) (fun a h => Nat.not_le.mpr h)
  exact ⟨t, va_Zref (hts (.laysStatic "PageIndex" "PLACES" "[I") (by decide +kernel)) (hts (.initialized "PageIndex") (by decide +kernel)) ht (fun a h => Nat.not_le.mpr h), hT⟩
set_option maxHeartbeats 4000000 in
set_option maxRecDepth 100000 in
/-- THE LAW, from its entry -/
theorem whole_start {p : Program} {e : Env} {s : State} {m : MethodId} {below : List Frame} {meth : Method} {c : Code} (l : Launch) {b L : Nat} {xs : Nat → Int32} (hL : L ≤ 2561) (C0 : lw_At p s m meth c b L xs) : W p l e room_1 s m #[Value.ref b] below meth c s.heap [] 0 0 (lw_Z below #[Value.ref b] s) (entryFrame m ([Value.ref b] : List Value).toArray 4) := by
  obtain ⟨hx, hb, hr, hml, hown, hts, hX, hbl, hlocks, hgv⟩ := id C0
  obtain ⟨tb, hZ, hT⟩ := zl_tab hgv hts
  have hA : ∀ q : Nat, s.heap.size ≤ q → (fun q : Nat => s.heap.size ≤ q) q := fun _ h => h
  have hbA : ¬ (fun q : Nat => s.heap.size ≤ q) b := Nat.not_le.mpr hbl
  have hown : s.vm.findClass RL = some m.cls := hown
  have htsL : ∀ w ∈ wsL_law, w.before #[Value.ref b] s = true := fun w h => hts w (wsL_law_in w h)
  obtain ⟨c0, iS0, hKn0⟩ := u_known (C := RX0) (T := TX0) (N := 6) (n := 6) hts inX0 (hts (.instantiable RX0 6) (by decide +kernel))
  obtain ⟨c1, iS1, hKn1⟩ := u_known (C := RX1) (T := TX1) (N := 4) (n := 4) hts inX1 (hts (.instantiable RX1 4) (by decide +kernel))
  obtain ⟨dC, dI, hKc⟩ : ∃ (dC : Nat → ClassId) (dI : Nat → Nat → Nat), ∀ (k : Nat) (q : vw_C), vwCl[k]? = some q → u_Kn s q.1 q.2.1 q.2.2 (dC k) (dI k) := by
    refine ⟨fun k => if k = 0 then c0 else c1, fun k => if k = 0 then iS0 else iS1, ?_⟩
    intro k q hq
    match k, hq with
    | 0, hq => cases hq; exact hKn0
    | 1, hq => cases hq; exact hKn1
    | k + 2, hq => simp [vwCl] at hq
  have hS : va_S (fun q : Nat => s.heap.size ≤ q) s.heap s.heap [] := va_S.rf
  have hK : va_K (dC, dI) vwCl [] s := ⟨hKc, fun k q h => by simp at h⟩
  have hP : va_P (dC, dI) vwCl [] s.heap := fun k q h => by simp at h
  have hD : va_D (fun q : Nat => s.heap.size ≤ q) [] := ⟨fun i j p q h => by simp at h, fun k q h => by simp at h⟩
  have hl := lv_entry ([.ref b]) (n := 4) (Nat.le_of_ble_eq_true rfl)
  rw [lg_entry_eq]
  generalize (lg_sl ([.ref b]) ++ List.replicate (4 - (lg_sl ([.ref b])).length) Slot.unset).toArray = ls at hl ⊢
  have hl : lv_has ls 4 [(0, .ref b)] := hl
  obtain ⟨o, ho, eo⟩ := zf_fm_nat (zl_c0 L xs)
  refine va_new (ci := 0) (fs := [.int 0, .int 0, .int 0, .null, .int 0, .long 0]) (C := RX0) (T := TX0) (N := 6) hx hb hts inX0 tyX0 tyX0_ok hown (hts (.classLink RL 7 RX0) (by decide +kernel)) (hts (.instantiable RX0 6) (by decide +kernel)) (hts (.initialized RX0) (by decide +kernel)) hK hP hD hS hA rfl (fun j hj => by rcases (show j = 0 ∨ j = 1 ∨ j = 2 ∨ j = 3 ∨ j = 4 ∨ j = 5 by omega) with rfl | rfl | rfl | rfl | rfl | rfl <;> rfl) (Nat.le_of_ble_eq_true rfl) (Nat.le_of_ble_eq_true rfl) dL_law_0 (fun q0 H hP hD hS => ?_)
  have hP : va_P (dC, dI) vwCl [zi_w q0 0 0 0 .null 0 0] H := hP
  have hD : va_D (fun q : Nat => s.heap.size ≤ q) [zi_w q0 0 0 0 .null 0 0] := hD
  refine lv_dup hx hb dL_law_3 rfl ?_
  refine lv_aload_n hx hb dL_law_4 rfl (lv_at hl 0 rfl) ?_
  refine lv_iconst (v := 0) hx hb dL_law_5 (by decide) ?_
  have hXH := hX.kept (hS.2.1 b hbl hbA)
  refine zw_ci (va_runS (As := [.ref b, .int 0]) (rest := [.ref q0, .ref q0]) ⟨hx, hb, hml, hown, htsL⟩ (zl_cell l b L xs hL) (va_cwS 2 htsL gL_law_L_cell rfl rfl rfl (by decide +kernel) ⟨Nat.le_of_ble_eq_true rfl, Nat.le_of_ble_eq_true rfl⟩) ⟨zl_bl, fun U hU hW => ⟨rfl, va_X.moved hW.alike (by rw [hU]; exact hXH)⟩⟩ rfl rfl hl.1 rfl (lv_room (Nat.le_of_ble_eq_true rfl)) dL_law_6 ⟨Nat.le_of_ble_eq_true rfl, Nat.le_of_ble_eq_true rfl⟩) ?_
  have hF := va_free (wc := [zi_w q0 0 0 0 .null 0 0]) hD hS hA [0] rfl
  have hZ2 := (hZ.kept (H1 := H) (fun a h1 h2 => hS.2.1 a h1 h2)).narrow hF
  have hT2 := (hT.kept (H1 := H) (fun a h1 h2 => hS.2.1 a h1 h2)).narrow hF
  refine zw_callw (ws := [zi_w q0 0 0 0 .null 0 0]) (wc := [zi_w q0 0 0 0 .null 0 0]) (wr := []) (va_runI (As := [.int (zl_c0 L xs)]) (rest := [.ref q0]) ⟨hx, hb, hml, hown, htsL⟩ (zc_init l dC dI q0 H.size tb (zl_c0 L xs) o ho eo) (cwI 1 htsL gL_law_X0_init rfl rfl rfl (hts (.initialized RX0) (by decide +kernel)) (hts (.methodLink RL 15 yX0_init) (by decide +kernel)) (hts (.instanceMethod yX0_init) (by decide +kernel)) rfl (by decide +kernel) ⟨Nat.le_of_ble_eq_true rfl, Nat.le_of_ble_eq_true rfl⟩) ⟨zi_bl, fun U hU hW => ⟨rfl, by rw [hU], by rw [hU]; exact hP, va_K.moved hW.alike hK, hD.weaken (fun _ _ _ _ => trivial), va_Z.moved hW.alike (by rw [hU]; exact hZ2), va_T.moved hW.alike (by rw [hU]; exact hT2)⟩⟩ rfl rfl hl.1 rfl (lv_room (Nat.le_of_ble_eq_true rfl)) dL_law_9 ⟨Nat.le_of_ble_eq_true rfl, Nat.le_of_ble_eq_true rfl⟩) hP hD hS hA [0] [] rfl rfl (by decide) (by decide) (fun u H locs hu hP hD hK2 hS => ?_)
  have hP : va_P (dC, dI) vwCl (zx_wu q0 (nI (zk_px o)) (nI (zk_py o)) (nI (zk_pz o)) [] (-1) u) H := hP
  have hD : va_D (fun q : Nat => s.heap.size ≤ q) (zx_wu q0 (nI (zk_px o)) (nI (zk_py o)) (nI (zk_pz o)) [] (-1) u) := hD
  refine W.eq (g2 := F0 m 12 ls [.ref q0]) rfl ?_
  refine lv_astore_n (lv' := [(1, .ref q0), (0, .ref b)]) hx hb dL_law_12 rfl hl (by decide) rfl (fun ls hl => ?_)
  refine va_new (ci := 1) (fs := [.null, .int 0, .int 0, .long 0]) (C := RX1) (T := TX1) (N := 4) hx hb hts inX1 tyX1 tyX1_ok hown (hts (.classLink RL 18 RX1) (by decide +kernel)) (hts (.instantiable RX1 4) (by decide +kernel)) (hts (.initialized RX1) (by decide +kernel)) hK2 hP hD hS hA rfl (fun j hj => by rcases (show j = 0 ∨ j = 1 ∨ j = 2 ∨ j = 3 by omega) with rfl | rfl | rfl | rfl <;> rfl) (Nat.le_of_ble_eq_true rfl) (Nat.le_of_ble_eq_true rfl) dL_law_13 (fun r0 H hP hD hS => ?_)
  have hP : va_P (dC, dI) vwCl (zx_wu q0 (nI (zk_px o)) (nI (zk_py o)) (nI (zk_pz o)) [] (-1) u ++ [zi_m r0 .null 0 0 0]) H := hP
  have hD : va_D (fun q : Nat => s.heap.size ≤ q) (zx_wu q0 (nI (zk_px o)) (nI (zk_py o)) (nI (zk_pz o)) [] (-1) u ++ [zi_m r0 .null 0 0 0]) := hD
  refine lv_dup hx hb dL_law_16 rfl ?_
  refine lv_aload_n hx hb dL_law_17 rfl (lv_at hl 1 rfl) ?_
  refine lv_iconst (v := 0) hx hb dL_law_18 (by decide) ?_
  have hXH := hX.kept (hS.2.1 b hbl hbA)
  refine zw_ci (va_runS (As := [.ref b, .int 0]) (rest := [.ref r0, .ref r0]) ⟨hx, hb, hml, hown, htsL⟩ (zl_cell l b L xs hL) (va_cwS 2 htsL gL_law_L_cell rfl rfl rfl (by decide +kernel) ⟨Nat.le_of_ble_eq_true rfl, Nat.le_of_ble_eq_true rfl⟩) ⟨zl_bl, fun U hU hW => ⟨rfl, va_X.moved hW.alike (by rw [hU]; exact hXH)⟩⟩ rfl rfl hl.1 rfl (lv_room (Nat.le_of_ble_eq_true rfl)) dL_law_19 ⟨Nat.le_of_ble_eq_true rfl, Nat.le_of_ble_eq_true rfl⟩) ?_
  have hPm := hP.sub (ws' := [zi_m r0 .null 0 0 0]) [2] rfl
  have hDm := hD.sub (ws' := [zi_m r0 .null 0 0 0]) [2] (by decide) rfl
  have hKm := hK2.sub (tys' := []) [] rfl
  refine zw_callw (ws := zx_wu q0 (nI (zk_px o)) (nI (zk_py o)) (nI (zk_pz o)) [] (-1) u ++ [zi_m r0 .null 0 0 0]) (wc := [zi_m r0 .null 0 0 0]) (wr := zx_wu q0 (nI (zk_px o)) (nI (zk_py o)) (nI (zk_pz o)) [] (-1) u) (va_runI (As := [.int (zl_c0 L xs)]) (rest := [.ref r0]) ⟨hx, hb, hml, hown, htsL⟩ (zd_init l dC dI r0 H.size (zl_c0 L xs) o eo) (cwI 1 htsL gL_law_X1_init rfl rfl rfl (hts (.initialized RX1) (by decide +kernel)) (hts (.methodLink RL 20 yX1_init) (by decide +kernel)) (hts (.instanceMethod yX1_init) (by decide +kernel)) rfl (by decide +kernel) ⟨Nat.le_of_ble_eq_true rfl, Nat.le_of_ble_eq_true rfl⟩) (zw_preW hPm hKm hDm) rfl rfl hl.1 rfl (lv_room (Nat.le_of_ble_eq_true rfl)) dL_law_22 ⟨Nat.le_of_ble_eq_true rfl, Nat.le_of_ble_eq_true rfl⟩) hP hD hS hA [2] [0, 1] rfl rfl (by decide) (by decide) (fun w H locs hw hP hD hK3 hS => ?_)
  have hP : va_P (dC, dI) vwCl (zl_w q0 u r0 w.1 w.2 (fun _ => 0) o [] (zk_o none)) H := hP
  have hD : va_D (fun q : Nat => s.heap.size ≤ q) (zl_w q0 u r0 w.1 w.2 (fun _ => 0) o [] (zk_o none)) := hD
  refine W.eq (g2 := F0 m 25 ls [.ref r0]) rfl ?_
  refine lv_astore_n (lv' := [(2, .ref r0), (1, .ref q0), (0, .ref b)]) hx hb dL_law_25 rfl hl (by decide) rfl (fun ls hl => ?_)
  refine lv_iconst (v := 1) hx hb dL_law_26 (by decide) ?_
  refine zw_eqi (y := nI (1 + 5 * 0)) (by decide) ?_
  refine lv_istore_n (lv' := [(3, .int (nI (1 + 5 * 0))), (2, .ref r0), (1, .ref q0), (0, .ref b)]) hx hb dL_law_27 rfl hl (by decide) rfl (fun ls hl => ?_)
  refine W.widen (k := 4 + 0) (n := 20074 + 1024 * 0) (Nat.le_of_ble_eq_true rfl) (Nat.le_of_ble_eq_true rfl) ?_
  exact zl_loop hL C0 ho 600 0 (by omega) (by omega) [] none u (fun _ => 0) H locs hu ⟨List.Pairwise.nil, fun k hk => (by cases hk), Nat.zero_le _, fun j hj => (by cases hj)⟩ (fun z hz => by cases hz) (Nat.le_refl _) (hK2.app hK3) hP hD hS ls hl
