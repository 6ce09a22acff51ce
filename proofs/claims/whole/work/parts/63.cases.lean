set_option maxHeartbeats 4000000 in
set_option maxRecDepth 100000 in
/-- the law at a call of insert -/
theorem zl_insert {p : Program} {l : Launch} {e : Env} {s : State} {m : MethodId} {below : List Frame} {meth : Method} {c : Code} {dC : Nat → ClassId} {dI : Nat → Nat → Nat} {b L : Nat} {xs : Nat → Int32} (C0 : lw_At p s m meth c b L xs) {q0 r0 ma : Nat} {cB : ClassId} {o : Nat} (ho : o < 6) {t : Nat} (ht : t < 512) (hiL : 1 + 5 * t + 5 ≤ L) (hL : L ≤ 2561) {ks : List Nat} {oc : Option Nat} {u : zx_S} {g : Nat → Int64} {H : Heap} {locs : List Loc} (hG : zk_G ks u.2.2.1 u.2.2.2) (hR : zk_R ks g) (hoc : ∀ z, oc = some z → z < 1152921504606846976) (hlen : ks.length ≤ t) (hK : va_K (dC, dI) vwCl [(u.2.1, .long), (cB, .long)] s) (hP : va_P (dC, dI) vwCl (zl_w q0 u r0 ma cB g o ks (zk_o oc)) H) (hD : va_D (fun q : Nat => s.heap.size ≤ q) (zl_w q0 u r0 ma cB g o ks (zk_o oc))) (hS : va_S (fun q : Nat => s.heap.size ≤ q) s.heap H locs) {ls : Array Slot} (hl : lv_has ls 4 [(3, .int (nI (1 + 5 * t))), (2, .ref r0), (1, .ref q0), (0, .ref b)]) (K : zl_K p l e s m below meth c dC dI b q0 r0 ma cB o t ls) : W p l e room_1 s m #[Value.ref b] below meth c H locs (4 + t) (20074 + 1024 * t) (lw_Z below #[Value.ref b] s) (F0 m 112 ls []) := by
  obtain ⟨hx, hb, hr, hml, hown, hts, hX, hbl, hlocks, hgv⟩ := C0
  have hA : ∀ q : Nat, s.heap.size ≤ q → (fun q : Nat => s.heap.size ≤ q) q := fun _ h => h
  have hbA : ¬ (fun q : Nat => s.heap.size ≤ q) b := Nat.not_le.mpr hbl
  have hown : s.vm.findClass RL = some m.cls := hown
  have htsL : ∀ w ∈ wsL_law, w.before #[Value.ref b] s = true := fun w h => hts w (wsL_law_in w h)
  have hPx := hP.sub (ws' := zx_wu q0 (nI (zk_px o)) (nI (zk_py o)) (nI (zk_pz o)) ks (zk_o oc) u) [0, 1] rfl
  have hKx := hK.sub (tys' := [(u.2.1, .long)]) [0] rfl
  have hPy := hP.sub (ws' := zy_w r0 ma cB g o ks.length (zk_o oc)) [2, 3] rfl
  have hKy := hK.sub (tys' := [(cB, .long)]) [1] rfl
  have hr1 : 4 + t + 0 ≤ room_1.cells ∧ 20074 + 1024 * t + 0 ≤ room_1.slots := ⟨by show 4 + t + 0 ≤ 600000; omega, by show 20074 + 1024 * t + 0 ≤ 7302250; omega⟩
  have hr2 : 4 + t + 1 ≤ room_1.cells ∧ 20074 + 1024 * t + 1024 ≤ room_1.slots := ⟨by show 4 + t + 1 ≤ 600000; omega, by show 20074 + 1024 * t + 1024 ≤ 7302250; omega⟩
  have hr3 : 4 + t + 1 + 0 ≤ room_1.cells ∧ 20074 + 1024 * t + 1024 + 0 ≤ room_1.slots := hr2
  obtain ⟨x1, ex1⟩ : ∃ y : Int32, y = xs (1 + 5 * t + 1) := ⟨_, rfl⟩
  obtain ⟨x2, ex2⟩ : ∃ y : Int32, y = xs (1 + 5 * t + 2) := ⟨_, rfl⟩
  obtain ⟨x3, ex3⟩ : ∃ y : Int32, y = xs (1 + 5 * t + 3) := ⟨_, rfl⟩
  obtain ⟨k, hk0, hk1⟩ := zl_key ho x1 x2 x3
  refine lv_aload_n hx hb dL_law_112 rfl (lv_at hl 2 rfl) ?_
  refine lv_aload_n hx hb dL_law_113 rfl (lv_at hl 3 rfl) ?_
  refine lv_iload_n hx hb dL_law_114 rfl (lv_at hl 0 rfl) ?_
  refine lv_iconst (v := 1) hx hb dL_law_115 (by decide) ?_
  refine lv_iadd hx hb dL_law_116 ?_
  refine zw_eqi (y := nI (1 + 5 * t + 1)) (nI_add _ 1) ?_
  refine va_sld hx hb hX hbl hbA hS (pk_in (1 + 5 * t + 1) L (by omega) rfl (by omega)) dL_law_117 ?_
  refine zw_eqi (y := x1) (by rw [nI_clamp (by omega), ex1]) ?_
  refine lv_aload_n hx hb dL_law_118 rfl (lv_at hl 3 rfl) ?_
  refine lv_iload_n hx hb dL_law_119 rfl (lv_at hl 0 rfl) ?_
  refine lv_iconst (v := 2) hx hb dL_law_120 (by decide) ?_
  refine lv_iadd hx hb dL_law_121 ?_
  refine zw_eqi (y := nI (1 + 5 * t + 2)) (nI_add _ 2) ?_
  refine va_sld hx hb hX hbl hbA hS (pk_in (1 + 5 * t + 2) L (by omega) rfl (by omega)) dL_law_122 ?_
  refine zw_eqi (y := x2) (by rw [nI_clamp (by omega), ex2]) ?_
  refine lv_aload_n hx hb dL_law_123 rfl (lv_at hl 3 rfl) ?_
  refine lv_iload_n hx hb dL_law_124 rfl (lv_at hl 0 rfl) ?_
  refine lv_iconst (v := 3) hx hb dL_law_125 (by decide) ?_
  refine lv_iadd hx hb dL_law_126 ?_
  refine zw_eqi (y := nI (1 + 5 * t + 3)) (nI_add _ 3) ?_
  refine va_sld hx hb hX hbl hbA hS (pk_in (1 + 5 * t + 3) L (by omega) rfl (by omega)) dL_law_127 ?_
  refine zw_eqi (y := x3) (by rw [nI_clamp (by omega), ex3]) ?_
  refine zw_callw (ws := zl_w q0 u r0 ma cB g o ks (zk_o oc)) (wc := zx_wu q0 (nI (zk_px o)) (nI (zk_py o)) (nI (zk_pz o)) ks (zk_o oc) u) (wr := zy_w r0 ma cB g o ks.length (zk_o oc)) (va_runV (As := [.int x1, .int x2, .int x3]) (rest := []) ⟨hx, hb, hml, hown, htsL⟩ (zc_insert l dC dI q0 u.1 u.2.1 u.2.2.1 u.2.2.2 (nI (zk_px o)) (nI (zk_py o)) (nI (zk_pz o)) ks (zk_o oc) H.size x1 x2 x3 k hk0 (by omega) hG) (cwV 3 htsL gL_law_X0_insert rfl rfl rfl (by decide +kernel) ⟨Nat.le_of_ble_eq_true rfl, Nat.le_of_ble_eq_true rfl⟩) (zw_preWV (ci := 0) (q0 := 0) hPx hKx (hD.sub (ws' := zx_wu q0 (nI (zk_px o)) (nI (zk_py o)) (nI (zk_pz o)) ks (zk_o oc) u) [0, 1] (by decide) rfl) rfl rfl) rfl rfl hl.1 rfl (lv_room (Nat.le_of_ble_eq_true rfl)) dL_law_128 hr2) hP hD hS hA [0, 1] [2, 3] rfl rfl (by decide) (by decide) (fun u2 H locs hu hP hD hK2 hS => ?_)
  have hP : va_P (dC, dI) vwCl ([(r0, .inr (1, [.ref ma, .int (nI ks.length), .int (nI o), .long (zk_o oc)])), (ma, .inl (cB, 20000, .inr (.inl g)))] ++ zx_wu q0 (nI (zk_px o)) (nI (zk_py o)) (nI (zk_pz o)) (cond (zf_nn x1 x2 x3) (cond (decide (k ∈ ks)) ks (zk_ins ks k)) ks) (zk_o oc) u2) H := hP
  have hD : va_D (fun q : Nat => s.heap.size ≤ q) ([(r0, .inr (1, [.ref ma, .int (nI ks.length), .int (nI o), .long (zk_o oc)])), (ma, .inl (cB, 20000, .inr (.inl g)))] ++ zx_wu q0 (nI (zk_px o)) (nI (zk_py o)) (nI (zk_pz o)) (cond (zf_nn x1 x2 x3) (cond (decide (k ∈ ks)) ks (zk_ins ks k)) ks) (zk_o oc) u2) := hD
  have hPy := hP.sub (ws' := zy_w r0 ma cB g o ks.length (zk_o oc)) [0, 1] rfl
  refine W.eq (g2 := F0 m 131 ls [.int (cond (zf_nn x1 x2 x3) (cond (decide (k ∈ ks)) 0 1) (-1))]) rfl ?_
  refine lv_aload_n hx hb dL_law_131 rfl (lv_at hl 1 rfl) ?_
  refine lv_aload_n hx hb dL_law_132 rfl (lv_at hl 3 rfl) ?_
  refine lv_iload_n hx hb dL_law_133 rfl (lv_at hl 0 rfl) ?_
  refine lv_iconst (v := 1) hx hb dL_law_134 (by decide) ?_
  refine lv_iadd hx hb dL_law_135 ?_
  refine zw_eqi (y := nI (1 + 5 * t + 1)) (nI_add _ 1) ?_
  refine va_sld hx hb hX hbl hbA hS (pk_in (1 + 5 * t + 1) L (by omega) rfl (by omega)) dL_law_136 ?_
  refine zw_eqi (y := x1) (by rw [nI_clamp (by omega), ex1]) ?_
  refine lv_aload_n hx hb dL_law_137 rfl (lv_at hl 3 rfl) ?_
  refine lv_iload_n hx hb dL_law_138 rfl (lv_at hl 0 rfl) ?_
  refine lv_iconst (v := 2) hx hb dL_law_139 (by decide) ?_
  refine lv_iadd hx hb dL_law_140 ?_
  refine zw_eqi (y := nI (1 + 5 * t + 2)) (nI_add _ 2) ?_
  refine va_sld hx hb hX hbl hbA hS (pk_in (1 + 5 * t + 2) L (by omega) rfl (by omega)) dL_law_141 ?_
  refine zw_eqi (y := x2) (by rw [nI_clamp (by omega), ex2]) ?_
  refine lv_aload_n hx hb dL_law_142 rfl (lv_at hl 3 rfl) ?_
  refine lv_iload_n hx hb dL_law_143 rfl (lv_at hl 0 rfl) ?_
  refine lv_iconst (v := 3) hx hb dL_law_144 (by decide) ?_
  refine lv_iadd hx hb dL_law_145 ?_
  refine zw_eqi (y := nI (1 + 5 * t + 3)) (nI_add _ 3) ?_
  refine va_sld hx hb hX hbl hbA hS (pk_in (1 + 5 * t + 3) L (by omega) rfl (by omega)) dL_law_146 ?_
  refine zw_eqi (y := x3) (by rw [nI_clamp (by omega), ex3]) ?_
  refine zw_callw (ws := [(r0, .inr (1, [.ref ma, .int (nI ks.length), .int (nI o), .long (zk_o oc)])), (ma, .inl (cB, 20000, .inr (.inl g)))] ++ zx_wu q0 (nI (zk_px o)) (nI (zk_py o)) (nI (zk_pz o)) (cond (zf_nn x1 x2 x3) (cond (decide (k ∈ ks)) ks (zk_ins ks k)) ks) (zk_o oc) u2) (wc := zy_w r0 ma cB g o ks.length (zk_o oc)) (wr := zx_wu q0 (nI (zk_px o)) (nI (zk_py o)) (nI (zk_pz o)) (cond (zf_nn x1 x2 x3) (cond (decide (k ∈ ks)) ks (zk_ins ks k)) ks) (zk_o oc) u2) (va_runV (As := [.int x1, .int x2, .int x3]) (rest := [.int (cond (zf_nn x1 x2 x3) (cond (decide (k ∈ ks)) 0 1) (-1))]) ⟨hx, hb, hml, hown, htsL⟩ (zd_insert l dC dI r0 ma cB g o ks (zk_o oc) H.size x1 x2 x3 ho k hk1 (by omega) hR) (cwV 3 htsL gL_law_X1_insert rfl rfl rfl (by decide +kernel) ⟨Nat.le_of_ble_eq_true rfl, Nat.le_of_ble_eq_true rfl⟩) (zw_preWV (ci := 1) (q0 := 0) hPy hKy (hD.sub (ws' := zy_w r0 ma cB g o ks.length (zk_o oc)) [0, 1] (by decide) rfl) rfl rfl) rfl rfl hl.1 rfl (lv_room (Nat.le_of_ble_eq_true rfl)) dL_law_147 hr3) hP hD hS hA [0, 1] [2, 3] rfl rfl (by decide) (by decide) (fun g2 H locs hg hP hD hK3 hS => ?_)
  refine W.eq (g2 := F0 m 150 ls [.int (cond (zf_nn x1 x2 x3) (cond (decide (k ∈ ks)) 0 1) (-1)), .int (cond (zf_nn x1 x2 x3) (cond (decide (k ∈ ks)) 0 1) (-1))]) rfl ?_
  refine lv_icmp_eq (tgt := 574) hx hb dL_law_150 (by decide) (fun c_150 => ?_) (fun c_150 => absurd (rfl) c_150)
  refine W.widen (k := 4 + (t + 1)) (n := 20074 + 1024 * (t + 1)) (by omega) (by omega) ?_
  exact K (cond (zf_nn x1 x2 x3) (cond (decide (k ∈ ks)) ks (zk_ins ks k)) ks) (oc) u2 g2 H locs hu hg hoc (zl_len1 hlen) (hK2.app hK3) hP hD hS
set_option maxHeartbeats 4000000 in
set_option maxRecDepth 100000 in
/-- the law at a call of remove -/
theorem zl_remove {p : Program} {l : Launch} {e : Env} {s : State} {m : MethodId} {below : List Frame} {meth : Method} {c : Code} {dC : Nat → ClassId} {dI : Nat → Nat → Nat} {b L : Nat} {xs : Nat → Int32} (C0 : lw_At p s m meth c b L xs) {q0 r0 ma : Nat} {cB : ClassId} {o : Nat} (ho : o < 6) {t : Nat} (ht : t < 512) (hiL : 1 + 5 * t + 5 ≤ L) (hL : L ≤ 2561) {ks : List Nat} {oc : Option Nat} {u : zx_S} {g : Nat → Int64} {H : Heap} {locs : List Loc} (hG : zk_G ks u.2.2.1 u.2.2.2) (hR : zk_R ks g) (hoc : ∀ z, oc = some z → z < 1152921504606846976) (hlen : ks.length ≤ t) (hK : va_K (dC, dI) vwCl [(u.2.1, .long), (cB, .long)] s) (hP : va_P (dC, dI) vwCl (zl_w q0 u r0 ma cB g o ks (zk_o oc)) H) (hD : va_D (fun q : Nat => s.heap.size ≤ q) (zl_w q0 u r0 ma cB g o ks (zk_o oc))) (hS : va_S (fun q : Nat => s.heap.size ≤ q) s.heap H locs) {ls : Array Slot} (hl : lv_has ls 4 [(3, .int (nI (1 + 5 * t))), (2, .ref r0), (1, .ref q0), (0, .ref b)]) (K : zl_K p l e s m below meth c dC dI b q0 r0 ma cB o t ls) : W p l e room_1 s m #[Value.ref b] below meth c H locs (4 + t) (20074 + 1024 * t) (lw_Z below #[Value.ref b] s) (F0 m 155 ls []) := by
  obtain ⟨hx, hb, hr, hml, hown, hts, hX, hbl, hlocks, hgv⟩ := C0
  have hA : ∀ q : Nat, s.heap.size ≤ q → (fun q : Nat => s.heap.size ≤ q) q := fun _ h => h
  have hbA : ¬ (fun q : Nat => s.heap.size ≤ q) b := Nat.not_le.mpr hbl
  have hown : s.vm.findClass RL = some m.cls := hown
  have htsL : ∀ w ∈ wsL_law, w.before #[Value.ref b] s = true := fun w h => hts w (wsL_law_in w h)
  have hPx := hP.sub (ws' := zx_wu q0 (nI (zk_px o)) (nI (zk_py o)) (nI (zk_pz o)) ks (zk_o oc) u) [0, 1] rfl
  have hKx := hK.sub (tys' := [(u.2.1, .long)]) [0] rfl
  have hPy := hP.sub (ws' := zy_w r0 ma cB g o ks.length (zk_o oc)) [2, 3] rfl
  have hKy := hK.sub (tys' := [(cB, .long)]) [1] rfl
  have hr1 : 4 + t + 0 ≤ room_1.cells ∧ 20074 + 1024 * t + 0 ≤ room_1.slots := ⟨by show 4 + t + 0 ≤ 600000; omega, by show 20074 + 1024 * t + 0 ≤ 7302250; omega⟩
  have hr4 : 4 + t + 0 + 0 ≤ room_1.cells ∧ 20074 + 1024 * t + 0 + 0 ≤ room_1.slots := hr1
  obtain ⟨x1, ex1⟩ : ∃ y : Int32, y = xs (1 + 5 * t + 1) := ⟨_, rfl⟩
  obtain ⟨x2, ex2⟩ : ∃ y : Int32, y = xs (1 + 5 * t + 2) := ⟨_, rfl⟩
  obtain ⟨x3, ex3⟩ : ∃ y : Int32, y = xs (1 + 5 * t + 3) := ⟨_, rfl⟩
  obtain ⟨k, hk0, hk1⟩ := zl_key ho x1 x2 x3
  refine lv_aload_n hx hb dL_law_155 rfl (lv_at hl 2 rfl) ?_
  refine lv_aload_n hx hb dL_law_156 rfl (lv_at hl 3 rfl) ?_
  refine lv_iload_n hx hb dL_law_157 rfl (lv_at hl 0 rfl) ?_
  refine lv_iconst (v := 1) hx hb dL_law_158 (by decide) ?_
  refine lv_iadd hx hb dL_law_159 ?_
  refine zw_eqi (y := nI (1 + 5 * t + 1)) (nI_add _ 1) ?_
  refine va_sld hx hb hX hbl hbA hS (pk_in (1 + 5 * t + 1) L (by omega) rfl (by omega)) dL_law_160 ?_
  refine zw_eqi (y := x1) (by rw [nI_clamp (by omega), ex1]) ?_
  refine lv_aload_n hx hb dL_law_161 rfl (lv_at hl 3 rfl) ?_
  refine lv_iload_n hx hb dL_law_162 rfl (lv_at hl 0 rfl) ?_
  refine lv_iconst (v := 2) hx hb dL_law_163 (by decide) ?_
  refine lv_iadd hx hb dL_law_164 ?_
  refine zw_eqi (y := nI (1 + 5 * t + 2)) (nI_add _ 2) ?_
  refine va_sld hx hb hX hbl hbA hS (pk_in (1 + 5 * t + 2) L (by omega) rfl (by omega)) dL_law_165 ?_
  refine zw_eqi (y := x2) (by rw [nI_clamp (by omega), ex2]) ?_
  refine lv_aload_n hx hb dL_law_166 rfl (lv_at hl 3 rfl) ?_
  refine lv_iload_n hx hb dL_law_167 rfl (lv_at hl 0 rfl) ?_
  refine lv_iconst (v := 3) hx hb dL_law_168 (by decide) ?_
  refine lv_iadd hx hb dL_law_169 ?_
  refine zw_eqi (y := nI (1 + 5 * t + 3)) (nI_add _ 3) ?_
  refine va_sld hx hb hX hbl hbA hS (pk_in (1 + 5 * t + 3) L (by omega) rfl (by omega)) dL_law_170 ?_
  refine zw_eqi (y := x3) (by rw [nI_clamp (by omega), ex3]) ?_
  refine zw_callw (ws := zl_w q0 u r0 ma cB g o ks (zk_o oc)) (wc := zx_wu q0 (nI (zk_px o)) (nI (zk_py o)) (nI (zk_pz o)) ks (zk_o oc) u) (wr := zy_w r0 ma cB g o ks.length (zk_o oc)) (va_runV (As := [.int x1, .int x2, .int x3]) (rest := []) ⟨hx, hb, hml, hown, htsL⟩ (zc_remove l dC dI q0 u.1 u.2.1 u.2.2.1 u.2.2.2 (nI (zk_px o)) (nI (zk_py o)) (nI (zk_pz o)) ks (zk_o oc) H.size x1 x2 x3 k hk0 hG) (cwV 3 htsL gL_law_X0_remove rfl rfl rfl (by decide +kernel) ⟨Nat.le_of_ble_eq_true rfl, Nat.le_of_ble_eq_true rfl⟩) (zw_preWV (ci := 0) (q0 := 0) hPx hKx (hD.sub (ws' := zx_wu q0 (nI (zk_px o)) (nI (zk_py o)) (nI (zk_pz o)) ks (zk_o oc) u) [0, 1] (by decide) rfl) rfl rfl) rfl rfl hl.1 rfl (lv_room (Nat.le_of_ble_eq_true rfl)) dL_law_171 hr1) hP hD hS hA [0, 1] [2, 3] rfl rfl (by decide) (by decide) (fun u2 H locs hu hP hD hK2 hS => ?_)
  have hP : va_P (dC, dI) vwCl ([(r0, .inr (1, [.ref ma, .int (nI ks.length), .int (nI o), .long (zk_o oc)])), (ma, .inl (cB, 20000, .inr (.inl g)))] ++ zx_wu q0 (nI (zk_px o)) (nI (zk_py o)) (nI (zk_pz o)) (cond (zf_nn x1 x2 x3) (cond (decide (k ∈ ks)) (zk_del ks (zk_c ks k) (zk_c ks k + 1)) ks) ks) (zk_o oc) u2) H := hP
  have hD : va_D (fun q : Nat => s.heap.size ≤ q) ([(r0, .inr (1, [.ref ma, .int (nI ks.length), .int (nI o), .long (zk_o oc)])), (ma, .inl (cB, 20000, .inr (.inl g)))] ++ zx_wu q0 (nI (zk_px o)) (nI (zk_py o)) (nI (zk_pz o)) (cond (zf_nn x1 x2 x3) (cond (decide (k ∈ ks)) (zk_del ks (zk_c ks k) (zk_c ks k + 1)) ks) ks) (zk_o oc) u2) := hD
  have hPy := hP.sub (ws' := zy_w r0 ma cB g o ks.length (zk_o oc)) [0, 1] rfl
  refine W.eq (g2 := F0 m 174 ls [.int (cond (zf_nn x1 x2 x3) (cond (decide (k ∈ ks)) 1 0) (-1))]) rfl ?_
  refine lv_aload_n hx hb dL_law_174 rfl (lv_at hl 1 rfl) ?_
  refine lv_aload_n hx hb dL_law_175 rfl (lv_at hl 3 rfl) ?_
  refine lv_iload_n hx hb dL_law_176 rfl (lv_at hl 0 rfl) ?_
  refine lv_iconst (v := 1) hx hb dL_law_177 (by decide) ?_
  refine lv_iadd hx hb dL_law_178 ?_
  refine zw_eqi (y := nI (1 + 5 * t + 1)) (nI_add _ 1) ?_
  refine va_sld hx hb hX hbl hbA hS (pk_in (1 + 5 * t + 1) L (by omega) rfl (by omega)) dL_law_179 ?_
  refine zw_eqi (y := x1) (by rw [nI_clamp (by omega), ex1]) ?_
  refine lv_aload_n hx hb dL_law_180 rfl (lv_at hl 3 rfl) ?_
  refine lv_iload_n hx hb dL_law_181 rfl (lv_at hl 0 rfl) ?_
  refine lv_iconst (v := 2) hx hb dL_law_182 (by decide) ?_
  refine lv_iadd hx hb dL_law_183 ?_
  refine zw_eqi (y := nI (1 + 5 * t + 2)) (nI_add _ 2) ?_
  refine va_sld hx hb hX hbl hbA hS (pk_in (1 + 5 * t + 2) L (by omega) rfl (by omega)) dL_law_184 ?_
  refine zw_eqi (y := x2) (by rw [nI_clamp (by omega), ex2]) ?_
  refine lv_aload_n hx hb dL_law_185 rfl (lv_at hl 3 rfl) ?_
  refine lv_iload_n hx hb dL_law_186 rfl (lv_at hl 0 rfl) ?_
  refine lv_iconst (v := 3) hx hb dL_law_187 (by decide) ?_
  refine lv_iadd hx hb dL_law_188 ?_
  refine zw_eqi (y := nI (1 + 5 * t + 3)) (nI_add _ 3) ?_
  refine va_sld hx hb hX hbl hbA hS (pk_in (1 + 5 * t + 3) L (by omega) rfl (by omega)) dL_law_189 ?_
  refine zw_eqi (y := x3) (by rw [nI_clamp (by omega), ex3]) ?_
  refine zw_callw (ws := [(r0, .inr (1, [.ref ma, .int (nI ks.length), .int (nI o), .long (zk_o oc)])), (ma, .inl (cB, 20000, .inr (.inl g)))] ++ zx_wu q0 (nI (zk_px o)) (nI (zk_py o)) (nI (zk_pz o)) (cond (zf_nn x1 x2 x3) (cond (decide (k ∈ ks)) (zk_del ks (zk_c ks k) (zk_c ks k + 1)) ks) ks) (zk_o oc) u2) (wc := zy_w r0 ma cB g o ks.length (zk_o oc)) (wr := zx_wu q0 (nI (zk_px o)) (nI (zk_py o)) (nI (zk_pz o)) (cond (zf_nn x1 x2 x3) (cond (decide (k ∈ ks)) (zk_del ks (zk_c ks k) (zk_c ks k + 1)) ks) ks) (zk_o oc) u2) (va_runV (As := [.int x1, .int x2, .int x3]) (rest := [.int (cond (zf_nn x1 x2 x3) (cond (decide (k ∈ ks)) 1 0) (-1))]) ⟨hx, hb, hml, hown, htsL⟩ (zd_remove l dC dI r0 ma cB g o ks (zk_o oc) H.size x1 x2 x3 ho k hk1 hR) (cwV 3 htsL gL_law_X1_remove rfl rfl rfl (by decide +kernel) ⟨Nat.le_of_ble_eq_true rfl, Nat.le_of_ble_eq_true rfl⟩) (zw_preWV (ci := 1) (q0 := 0) hPy hKy (hD.sub (ws' := zy_w r0 ma cB g o ks.length (zk_o oc)) [0, 1] (by decide) rfl) rfl rfl) rfl rfl hl.1 rfl (lv_room (Nat.le_of_ble_eq_true rfl)) dL_law_190 hr4) hP hD hS hA [0, 1] [2, 3] rfl rfl (by decide) (by decide) (fun g2 H locs hg hP hD hK3 hS => ?_)
  refine W.eq (g2 := F0 m 193 ls [.int (cond (zf_nn x1 x2 x3) (cond (decide (k ∈ ks)) 1 0) (-1)), .int (cond (zf_nn x1 x2 x3) (cond (decide (k ∈ ks)) 1 0) (-1))]) rfl ?_
  refine lv_icmp_eq (tgt := 574) hx hb dL_law_193 (by decide) (fun c_193 => ?_) (fun c_193 => absurd (rfl) c_193)
  refine W.widen (k := 4 + (t + 1)) (n := 20074 + 1024 * (t + 1)) (by omega) (by omega) ?_
  exact K (cond (zf_nn x1 x2 x3) (cond (decide (k ∈ ks)) (zk_del ks (zk_c ks k) (zk_c ks k + 1)) ks) ks) (oc) u2 g2 H locs hu hg hoc (zl_len2 (Nat.le_succ _) hlen) (hK2.app hK3) hP hD hS
set_option maxHeartbeats 4000000 in
set_option maxRecDepth 100000 in
/-- the law at a call of choose -/
theorem zl_choose {p : Program} {l : Launch} {e : Env} {s : State} {m : MethodId} {below : List Frame} {meth : Method} {c : Code} {dC : Nat → ClassId} {dI : Nat → Nat → Nat} {b L : Nat} {xs : Nat → Int32} (C0 : lw_At p s m meth c b L xs) {q0 r0 ma : Nat} {cB : ClassId} {o : Nat} (ho : o < 6) {t : Nat} (ht : t < 512) (hiL : 1 + 5 * t + 5 ≤ L) (hL : L ≤ 2561) {ks : List Nat} {oc : Option Nat} {u : zx_S} {g : Nat → Int64} {H : Heap} {locs : List Loc} (hG : zk_G ks u.2.2.1 u.2.2.2) (hR : zk_R ks g) (hoc : ∀ z, oc = some z → z < 1152921504606846976) (hlen : ks.length ≤ t) (hK : va_K (dC, dI) vwCl [(u.2.1, .long), (cB, .long)] s) (hP : va_P (dC, dI) vwCl (zl_w q0 u r0 ma cB g o ks (zk_o oc)) H) (hD : va_D (fun q : Nat => s.heap.size ≤ q) (zl_w q0 u r0 ma cB g o ks (zk_o oc))) (hS : va_S (fun q : Nat => s.heap.size ≤ q) s.heap H locs) {ls : Array Slot} (hl : lv_has ls 4 [(3, .int (nI (1 + 5 * t))), (2, .ref r0), (1, .ref q0), (0, .ref b)]) (K : zl_K p l e s m below meth c dC dI b q0 r0 ma cB o t ls) : W p l e room_1 s m #[Value.ref b] below meth c H locs (4 + t) (20074 + 1024 * t) (lw_Z below #[Value.ref b] s) (F0 m 380 ls []) := by
  obtain ⟨hx, hb, hr, hml, hown, hts, hX, hbl, hlocks, hgv⟩ := C0
  have hA : ∀ q : Nat, s.heap.size ≤ q → (fun q : Nat => s.heap.size ≤ q) q := fun _ h => h
  have hbA : ¬ (fun q : Nat => s.heap.size ≤ q) b := Nat.not_le.mpr hbl
  have hown : s.vm.findClass RL = some m.cls := hown
  have htsL : ∀ w ∈ wsL_law, w.before #[Value.ref b] s = true := fun w h => hts w (wsL_law_in w h)
  have hPx := hP.sub (ws' := zx_wu q0 (nI (zk_px o)) (nI (zk_py o)) (nI (zk_pz o)) ks (zk_o oc) u) [0, 1] rfl
  have hKx := hK.sub (tys' := [(u.2.1, .long)]) [0] rfl
  have hPy := hP.sub (ws' := zy_w r0 ma cB g o ks.length (zk_o oc)) [2, 3] rfl
  have hKy := hK.sub (tys' := [(cB, .long)]) [1] rfl
  have hr1 : 4 + t + 0 ≤ room_1.cells ∧ 20074 + 1024 * t + 0 ≤ room_1.slots := ⟨by show 4 + t + 0 ≤ 600000; omega, by show 20074 + 1024 * t + 0 ≤ 7302250; omega⟩
  have hr4 : 4 + t + 0 + 0 ≤ room_1.cells ∧ 20074 + 1024 * t + 0 + 0 ≤ room_1.slots := hr1
  obtain ⟨x1, ex1⟩ : ∃ y : Int32, y = xs (1 + 5 * t + 1) := ⟨_, rfl⟩
  refine lv_aload_n hx hb dL_law_380 rfl (lv_at hl 2 rfl) ?_
  refine lv_aload_n hx hb dL_law_381 rfl (lv_at hl 3 rfl) ?_
  refine lv_iload_n hx hb dL_law_382 rfl (lv_at hl 0 rfl) ?_
  refine lv_iconst (v := 1) hx hb dL_law_383 (by decide) ?_
  refine lv_iadd hx hb dL_law_384 ?_
  refine zw_eqi (y := nI (1 + 5 * t + 1)) (nI_add _ 1) ?_
  refine va_sld hx hb hX hbl hbA hS (pk_in (1 + 5 * t + 1) L (by omega) rfl (by omega)) dL_law_385 ?_
  refine zw_eqi (y := x1) (by rw [nI_clamp (by omega), ex1]) ?_
  refine zw_callw (ws := zl_w q0 u r0 ma cB g o ks (zk_o oc)) (wc := zx_wu q0 (nI (zk_px o)) (nI (zk_py o)) (nI (zk_pz o)) ks (zk_o oc) u) (wr := zy_w r0 ma cB g o ks.length (zk_o oc)) (va_runV (As := [.int x1]) (rest := []) ⟨hx, hb, hml, hown, htsL⟩ (zc_choose l dC dI q0 u.1 u.2.1 u.2.2.1 u.2.2.2 (nI (zk_px o)) (nI (zk_py o)) (nI (zk_pz o)) ks (zk_o oc) H.size x1 hG) (cwV 1 htsL gL_law_X0_choose rfl rfl rfl (by decide +kernel) ⟨Nat.le_of_ble_eq_true rfl, Nat.le_of_ble_eq_true rfl⟩) (zw_preWV (ci := 0) (q0 := 0) hPx hKx (hD.sub (ws' := zx_wu q0 (nI (zk_px o)) (nI (zk_py o)) (nI (zk_pz o)) ks (zk_o oc) u) [0, 1] (by decide) rfl) rfl rfl) rfl rfl hl.1 rfl (lv_room (Nat.le_of_ble_eq_true rfl)) dL_law_386 hr1) hP hD hS hA [0, 1] [2, 3] rfl rfl (by decide) (by decide) (fun u2 H locs hu hP hD hK2 hS => ?_)
  have hP : va_P (dC, dI) vwCl ([(r0, .inr (1, [.ref ma, .int (nI ks.length), .int (nI o), .long (zk_o oc)])), (ma, .inl (cB, 20000, .inr (.inl g)))] ++ zx_wu q0 (nI (zk_px o)) (nI (zk_py o)) (nI (zk_pz o)) (ks) (zk_o (zs_at ks x1)) u2) H := hP
  have hD : va_D (fun q : Nat => s.heap.size ≤ q) ([(r0, .inr (1, [.ref ma, .int (nI ks.length), .int (nI o), .long (zk_o oc)])), (ma, .inl (cB, 20000, .inr (.inl g)))] ++ zx_wu q0 (nI (zk_px o)) (nI (zk_py o)) (nI (zk_pz o)) (ks) (zk_o (zs_at ks x1)) u2) := hD
  have hPy := hP.sub (ws' := zy_w r0 ma cB g o ks.length (zk_o oc)) [0, 1] rfl
  refine W.eq (g2 := F0 m 389 ls [.int (zb_I (zs_at ks x1).isSome)]) rfl ?_
  refine lv_aload_n hx hb dL_law_389 rfl (lv_at hl 1 rfl) ?_
  refine lv_aload_n hx hb dL_law_390 rfl (lv_at hl 3 rfl) ?_
  refine lv_iload_n hx hb dL_law_391 rfl (lv_at hl 0 rfl) ?_
  refine lv_iconst (v := 1) hx hb dL_law_392 (by decide) ?_
  refine lv_iadd hx hb dL_law_393 ?_
  refine zw_eqi (y := nI (1 + 5 * t + 1)) (nI_add _ 1) ?_
  refine va_sld hx hb hX hbl hbA hS (pk_in (1 + 5 * t + 1) L (by omega) rfl (by omega)) dL_law_394 ?_
  refine zw_eqi (y := x1) (by rw [nI_clamp (by omega), ex1]) ?_
  refine zw_callw (ws := [(r0, .inr (1, [.ref ma, .int (nI ks.length), .int (nI o), .long (zk_o oc)])), (ma, .inl (cB, 20000, .inr (.inl g)))] ++ zx_wu q0 (nI (zk_px o)) (nI (zk_py o)) (nI (zk_pz o)) (ks) (zk_o (zs_at ks x1)) u2) (wc := zy_w r0 ma cB g o ks.length (zk_o oc)) (wr := zx_wu q0 (nI (zk_px o)) (nI (zk_py o)) (nI (zk_pz o)) (ks) (zk_o (zs_at ks x1)) u2) (va_runV (As := [.int x1]) (rest := [.int (zb_I (zs_at ks x1).isSome)]) ⟨hx, hb, hml, hown, hts⟩ (zd_choose l dC dI r0 ma cB g o ks (zk_o oc) H.size x1 hR) (cwV 1 hts gL_law_X1_choose rfl rfl rfl (by decide +kernel) ⟨Nat.le_of_ble_eq_true rfl, Nat.le_of_ble_eq_true rfl⟩) (zw_preWV (ci := 1) (q0 := 0) hPy hKy (hD.sub (ws' := zy_w r0 ma cB g o ks.length (zk_o oc)) [0, 1] (by decide) rfl) rfl rfl) rfl rfl hl.1 rfl (lv_room (Nat.le_of_ble_eq_true rfl)) dL_law_395 hr4) hP hD hS hA [0, 1] [2, 3] rfl rfl (by decide) (by decide) (fun g2 H locs hg hP hD hK3 hS => ?_)
  refine W.eq (g2 := F0 m 398 ls [.int (zb_I (zs_at ks x1).isSome), .int (zb_I (zs_at ks x1).isSome)]) rfl ?_
  refine lv_icmp_eq (tgt := 574) hx hb dL_law_398 (by decide) (fun c_398 => ?_) (fun c_398 => absurd (rfl) c_398)
  refine W.widen (k := 4 + (t + 1)) (n := 20074 + 1024 * (t + 1)) (by omega) (by omega) ?_
  exact K (ks) (zs_at ks x1) u2 g2 H locs hu hg (zl_at hG.2.1) (by omega) (hK2.app hK3) hP hD hS
set_option maxHeartbeats 4000000 in
set_option maxRecDepth 100000 in
/-- the law at a call of seek -/
theorem zl_seek {p : Program} {l : Launch} {e : Env} {s : State} {m : MethodId} {below : List Frame} {meth : Method} {c : Code} {dC : Nat → ClassId} {dI : Nat → Nat → Nat} {b L : Nat} {xs : Nat → Int32} (C0 : lw_At p s m meth c b L xs) {q0 r0 ma : Nat} {cB : ClassId} {o : Nat} (ho : o < 6) {t : Nat} (ht : t < 512) (hiL : 1 + 5 * t + 5 ≤ L) (hL : L ≤ 2561) {ks : List Nat} {oc : Option Nat} {u : zx_S} {g : Nat → Int64} {H : Heap} {locs : List Loc} (hG : zk_G ks u.2.2.1 u.2.2.2) (hR : zk_R ks g) (hoc : ∀ z, oc = some z → z < 1152921504606846976) (hlen : ks.length ≤ t) (hK : va_K (dC, dI) vwCl [(u.2.1, .long), (cB, .long)] s) (hP : va_P (dC, dI) vwCl (zl_w q0 u r0 ma cB g o ks (zk_o oc)) H) (hD : va_D (fun q : Nat => s.heap.size ≤ q) (zl_w q0 u r0 ma cB g o ks (zk_o oc))) (hS : va_S (fun q : Nat => s.heap.size ≤ q) s.heap H locs) {ls : Array Slot} (hl : lv_has ls 4 [(3, .int (nI (1 + 5 * t))), (2, .ref r0), (1, .ref q0), (0, .ref b)]) (K : zl_K p l e s m below meth c dC dI b q0 r0 ma cB o t ls) : W p l e room_1 s m #[Value.ref b] below meth c H locs (4 + t) (20074 + 1024 * t) (lw_Z below #[Value.ref b] s) (F0 m 403 ls []) := by
  obtain ⟨hx, hb, hr, hml, hown, hts, hX, hbl, hlocks, hgv⟩ := C0
  have hA : ∀ q : Nat, s.heap.size ≤ q → (fun q : Nat => s.heap.size ≤ q) q := fun _ h => h
  have hbA : ¬ (fun q : Nat => s.heap.size ≤ q) b := Nat.not_le.mpr hbl
  have hown : s.vm.findClass RL = some m.cls := hown
  have htsL : ∀ w ∈ wsL_law, w.before #[Value.ref b] s = true := fun w h => hts w (wsL_law_in w h)
  have hPx := hP.sub (ws' := zx_wu q0 (nI (zk_px o)) (nI (zk_py o)) (nI (zk_pz o)) ks (zk_o oc) u) [0, 1] rfl
  have hKx := hK.sub (tys' := [(u.2.1, .long)]) [0] rfl
  have hPy := hP.sub (ws' := zy_w r0 ma cB g o ks.length (zk_o oc)) [2, 3] rfl
  have hKy := hK.sub (tys' := [(cB, .long)]) [1] rfl
  have hr1 : 4 + t + 0 ≤ room_1.cells ∧ 20074 + 1024 * t + 0 ≤ room_1.slots := ⟨by show 4 + t + 0 ≤ 600000; omega, by show 20074 + 1024 * t + 0 ≤ 7302250; omega⟩
  have hr4 : 4 + t + 0 + 0 ≤ room_1.cells ∧ 20074 + 1024 * t + 0 + 0 ≤ room_1.slots := hr1
  obtain ⟨x1, ex1⟩ : ∃ y : Int32, y = xs (1 + 5 * t + 1) := ⟨_, rfl⟩
  obtain ⟨x2, ex2⟩ : ∃ y : Int32, y = xs (1 + 5 * t + 2) := ⟨_, rfl⟩
  obtain ⟨x3, ex3⟩ : ∃ y : Int32, y = xs (1 + 5 * t + 3) := ⟨_, rfl⟩
  obtain ⟨k, hk0, hk1⟩ := zl_pk x1 x2 x3
  refine lv_aload_n hx hb dL_law_403 rfl (lv_at hl 2 rfl) ?_
  refine lv_aload_n hx hb dL_law_404 rfl (lv_at hl 3 rfl) ?_
  refine lv_iload_n hx hb dL_law_405 rfl (lv_at hl 0 rfl) ?_
  refine lv_iconst (v := 1) hx hb dL_law_406 (by decide) ?_
  refine lv_iadd hx hb dL_law_407 ?_
  refine zw_eqi (y := nI (1 + 5 * t + 1)) (nI_add _ 1) ?_
  refine va_sld hx hb hX hbl hbA hS (pk_in (1 + 5 * t + 1) L (by omega) rfl (by omega)) dL_law_408 ?_
  refine zw_eqi (y := x1) (by rw [nI_clamp (by omega), ex1]) ?_
  refine lv_aload_n hx hb dL_law_409 rfl (lv_at hl 3 rfl) ?_
  refine lv_iload_n hx hb dL_law_410 rfl (lv_at hl 0 rfl) ?_
  refine lv_iconst (v := 2) hx hb dL_law_411 (by decide) ?_
  refine lv_iadd hx hb dL_law_412 ?_
  refine zw_eqi (y := nI (1 + 5 * t + 2)) (nI_add _ 2) ?_
  refine va_sld hx hb hX hbl hbA hS (pk_in (1 + 5 * t + 2) L (by omega) rfl (by omega)) dL_law_413 ?_
  refine zw_eqi (y := x2) (by rw [nI_clamp (by omega), ex2]) ?_
  refine lv_aload_n hx hb dL_law_414 rfl (lv_at hl 3 rfl) ?_
  refine lv_iload_n hx hb dL_law_415 rfl (lv_at hl 0 rfl) ?_
  refine lv_iconst (v := 3) hx hb dL_law_416 (by decide) ?_
  refine lv_iadd hx hb dL_law_417 ?_
  refine zw_eqi (y := nI (1 + 5 * t + 3)) (nI_add _ 3) ?_
  refine va_sld hx hb hX hbl hbA hS (pk_in (1 + 5 * t + 3) L (by omega) rfl (by omega)) dL_law_418 ?_
  refine zw_eqi (y := x3) (by rw [nI_clamp (by omega), ex3]) ?_
  refine zw_callw (ws := zl_w q0 u r0 ma cB g o ks (zk_o oc)) (wc := zx_wu q0 (nI (zk_px o)) (nI (zk_py o)) (nI (zk_pz o)) ks (zk_o oc) u) (wr := zy_w r0 ma cB g o ks.length (zk_o oc)) (va_runV (As := [.int x1, .int x2, .int x3]) (rest := []) ⟨hx, hb, hml, hown, htsL⟩ (zc_seek l dC dI q0 u.1 u.2.1 u.2.2.1 u.2.2.2 (nI (zk_px o)) (nI (zk_py o)) (nI (zk_pz o)) ks (zk_o oc) H.size x1 x2 x3 k hk0 hG) (cwV 3 htsL gL_law_X0_seek rfl rfl rfl (by decide +kernel) ⟨Nat.le_of_ble_eq_true rfl, Nat.le_of_ble_eq_true rfl⟩) (zw_preWV (ci := 0) (q0 := 0) hPx hKx (hD.sub (ws' := zx_wu q0 (nI (zk_px o)) (nI (zk_py o)) (nI (zk_pz o)) ks (zk_o oc) u) [0, 1] (by decide) rfl) rfl rfl) rfl rfl hl.1 rfl (lv_room (Nat.le_of_ble_eq_true rfl)) dL_law_419 hr1) hP hD hS hA [0, 1] [2, 3] rfl rfl (by decide) (by decide) (fun u2 H locs hu hP hD hK2 hS => ?_)
  have hP : va_P (dC, dI) vwCl ([(r0, .inr (1, [.ref ma, .int (nI ks.length), .int (nI o), .long (zk_o oc)])), (ma, .inl (cB, 20000, .inr (.inl g)))] ++ zx_wu q0 (nI (zk_px o)) (nI (zk_py o)) (nI (zk_pz o)) (ks) (cond (zf_nn x1 x2 x3) (zk_o (zs_at ks (nI (zk_c ks k)))) (zk_o oc)) u2) H := hP
  have hD : va_D (fun q : Nat => s.heap.size ≤ q) ([(r0, .inr (1, [.ref ma, .int (nI ks.length), .int (nI o), .long (zk_o oc)])), (ma, .inl (cB, 20000, .inr (.inl g)))] ++ zx_wu q0 (nI (zk_px o)) (nI (zk_py o)) (nI (zk_pz o)) (ks) (cond (zf_nn x1 x2 x3) (zk_o (zs_at ks (nI (zk_c ks k)))) (zk_o oc)) u2) := hD
  have hPy := hP.sub (ws' := zy_w r0 ma cB g o ks.length (zk_o oc)) [0, 1] rfl
  refine W.eq (g2 := F0 m 422 ls [.int (cond (zf_nn x1 x2 x3) (zb_I (zs_at ks (nI (zk_c ks k))).isSome) 0)]) rfl ?_
  refine lv_aload_n hx hb dL_law_422 rfl (lv_at hl 1 rfl) ?_
  refine lv_aload_n hx hb dL_law_423 rfl (lv_at hl 3 rfl) ?_
  refine lv_iload_n hx hb dL_law_424 rfl (lv_at hl 0 rfl) ?_
  refine lv_iconst (v := 1) hx hb dL_law_425 (by decide) ?_
  refine lv_iadd hx hb dL_law_426 ?_
  refine zw_eqi (y := nI (1 + 5 * t + 1)) (nI_add _ 1) ?_
  refine va_sld hx hb hX hbl hbA hS (pk_in (1 + 5 * t + 1) L (by omega) rfl (by omega)) dL_law_427 ?_
  refine zw_eqi (y := x1) (by rw [nI_clamp (by omega), ex1]) ?_
  refine lv_aload_n hx hb dL_law_428 rfl (lv_at hl 3 rfl) ?_
  refine lv_iload_n hx hb dL_law_429 rfl (lv_at hl 0 rfl) ?_
  refine lv_iconst (v := 2) hx hb dL_law_430 (by decide) ?_
  refine lv_iadd hx hb dL_law_431 ?_
  refine zw_eqi (y := nI (1 + 5 * t + 2)) (nI_add _ 2) ?_
  refine va_sld hx hb hX hbl hbA hS (pk_in (1 + 5 * t + 2) L (by omega) rfl (by omega)) dL_law_432 ?_
  refine zw_eqi (y := x2) (by rw [nI_clamp (by omega), ex2]) ?_
  refine lv_aload_n hx hb dL_law_433 rfl (lv_at hl 3 rfl) ?_
  refine lv_iload_n hx hb dL_law_434 rfl (lv_at hl 0 rfl) ?_
  refine lv_iconst (v := 3) hx hb dL_law_435 (by decide) ?_
  refine lv_iadd hx hb dL_law_436 ?_
  refine zw_eqi (y := nI (1 + 5 * t + 3)) (nI_add _ 3) ?_
  refine va_sld hx hb hX hbl hbA hS (pk_in (1 + 5 * t + 3) L (by omega) rfl (by omega)) dL_law_437 ?_
  refine zw_eqi (y := x3) (by rw [nI_clamp (by omega), ex3]) ?_
  refine zw_callw (ws := [(r0, .inr (1, [.ref ma, .int (nI ks.length), .int (nI o), .long (zk_o oc)])), (ma, .inl (cB, 20000, .inr (.inl g)))] ++ zx_wu q0 (nI (zk_px o)) (nI (zk_py o)) (nI (zk_pz o)) (ks) (cond (zf_nn x1 x2 x3) (zk_o (zs_at ks (nI (zk_c ks k)))) (zk_o oc)) u2) (wc := zy_w r0 ma cB g o ks.length (zk_o oc)) (wr := zx_wu q0 (nI (zk_px o)) (nI (zk_py o)) (nI (zk_pz o)) (ks) (cond (zf_nn x1 x2 x3) (zk_o (zs_at ks (nI (zk_c ks k)))) (zk_o oc)) u2) (va_runV (As := [.int x1, .int x2, .int x3]) (rest := [.int (cond (zf_nn x1 x2 x3) (zb_I (zs_at ks (nI (zk_c ks k))).isSome) 0)]) ⟨hx, hb, hml, hown, hts⟩ (zd_seek l dC dI r0 ma cB g o ks (zk_o oc) H.size x1 x2 x3 k hk1 hR) (cwV 3 hts gL_law_X1_seek rfl rfl rfl (by decide +kernel) ⟨Nat.le_of_ble_eq_true rfl, Nat.le_of_ble_eq_true rfl⟩) (zw_preWV (ci := 1) (q0 := 0) hPy hKy (hD.sub (ws' := zy_w r0 ma cB g o ks.length (zk_o oc)) [0, 1] (by decide) rfl) rfl rfl) rfl rfl hl.1 rfl (lv_room (Nat.le_of_ble_eq_true rfl)) dL_law_438 hr4) hP hD hS hA [0, 1] [2, 3] rfl rfl (by decide) (by decide) (fun g2 H locs hg hP hD hK3 hS => ?_)
  refine W.eq (g2 := F0 m 441 ls [.int (cond (zf_nn x1 x2 x3) (zb_I (zs_at ks (nI (zk_c ks k))).isSome) 0), .int (cond (zf_nn x1 x2 x3) (zb_I (zs_at ks (nI (zk_c ks k))).isSome) 0)]) rfl ?_
  refine lv_icmp_eq (tgt := 574) hx hb dL_law_441 (by decide) (fun c_441 => ?_) (fun c_441 => absurd (rfl) c_441)
  refine W.widen (k := 4 + (t + 1)) (n := 20074 + 1024 * (t + 1)) (by omega) (by omega) ?_
  rw [zl_cond] at hP hD
  exact K (ks) (cond (zf_nn x1 x2 x3) (zs_at ks (nI (zk_c ks k))) oc) u2 g2 H locs hu hg (zl_condlt (zl_at hG.2.1) hoc) (by omega) (hK2.app hK3) hP hD hS
set_option maxHeartbeats 4000000 in
set_option maxRecDepth 100000 in
/-- the law at a call of next -/
theorem zl_next {p : Program} {l : Launch} {e : Env} {s : State} {m : MethodId} {below : List Frame} {meth : Method} {c : Code} {dC : Nat → ClassId} {dI : Nat → Nat → Nat} {b L : Nat} {xs : Nat → Int32} (C0 : lw_At p s m meth c b L xs) {q0 r0 ma : Nat} {cB : ClassId} {o : Nat} (ho : o < 6) {t : Nat} (ht : t < 512) (hiL : 1 + 5 * t + 5 ≤ L) (hL : L ≤ 2561) {ks : List Nat} {oc : Option Nat} {u : zx_S} {g : Nat → Int64} {H : Heap} {locs : List Loc} (hG : zk_G ks u.2.2.1 u.2.2.2) (hR : zk_R ks g) (hoc : ∀ z, oc = some z → z < 1152921504606846976) (hlen : ks.length ≤ t) (hK : va_K (dC, dI) vwCl [(u.2.1, .long), (cB, .long)] s) (hP : va_P (dC, dI) vwCl (zl_w q0 u r0 ma cB g o ks (zk_o oc)) H) (hD : va_D (fun q : Nat => s.heap.size ≤ q) (zl_w q0 u r0 ma cB g o ks (zk_o oc))) (hS : va_S (fun q : Nat => s.heap.size ≤ q) s.heap H locs) {ls : Array Slot} (hl : lv_has ls 4 [(3, .int (nI (1 + 5 * t))), (2, .ref r0), (1, .ref q0), (0, .ref b)]) (K : zl_K p l e s m below meth c dC dI b q0 r0 ma cB o t ls) : W p l e room_1 s m #[Value.ref b] below meth c H locs (4 + t) (20074 + 1024 * t) (lw_Z below #[Value.ref b] s) (F0 m 446 ls []) := by
  obtain ⟨hx, hb, hr, hml, hown, hts, hX, hbl, hlocks, hgv⟩ := C0
  have hA : ∀ q : Nat, s.heap.size ≤ q → (fun q : Nat => s.heap.size ≤ q) q := fun _ h => h
  have hbA : ¬ (fun q : Nat => s.heap.size ≤ q) b := Nat.not_le.mpr hbl
  have hown : s.vm.findClass RL = some m.cls := hown
  have htsL : ∀ w ∈ wsL_law, w.before #[Value.ref b] s = true := fun w h => hts w (wsL_law_in w h)
  have hPx := hP.sub (ws' := zx_wu q0 (nI (zk_px o)) (nI (zk_py o)) (nI (zk_pz o)) ks (zk_o oc) u) [0, 1] rfl
  have hKx := hK.sub (tys' := [(u.2.1, .long)]) [0] rfl
  have hPy := hP.sub (ws' := zy_w r0 ma cB g o ks.length (zk_o oc)) [2, 3] rfl
  have hKy := hK.sub (tys' := [(cB, .long)]) [1] rfl
  have hr1 : 4 + t + 0 ≤ room_1.cells ∧ 20074 + 1024 * t + 0 ≤ room_1.slots := ⟨by show 4 + t + 0 ≤ 600000; omega, by show 20074 + 1024 * t + 0 ≤ 7302250; omega⟩
  have hr4 : 4 + t + 0 + 0 ≤ room_1.cells ∧ 20074 + 1024 * t + 0 + 0 ≤ room_1.slots := hr1
  refine lv_aload_n hx hb dL_law_446 rfl (lv_at hl 2 rfl) ?_
  refine zw_callw (ws := zl_w q0 u r0 ma cB g o ks (zk_o oc)) (wc := zx_wu q0 (nI (zk_px o)) (nI (zk_py o)) (nI (zk_pz o)) ks (zk_o oc) u) (wr := zy_w r0 ma cB g o ks.length (zk_o oc)) (va_runV (As := []) (rest := []) ⟨hx, hb, hml, hown, htsL⟩ (zc_next l dC dI q0 u.1 u.2.1 u.2.2.1 u.2.2.2 (nI (zk_px o)) (nI (zk_py o)) (nI (zk_pz o)) ks (zk_o oc) H.size oc hoc rfl hG) (cwV 0 htsL gL_law_X0_next rfl rfl rfl (by decide +kernel) ⟨Nat.le_of_ble_eq_true rfl, Nat.le_of_ble_eq_true rfl⟩) (zw_preWV (ci := 0) (q0 := 0) hPx hKx (hD.sub (ws' := zx_wu q0 (nI (zk_px o)) (nI (zk_py o)) (nI (zk_pz o)) ks (zk_o oc) u) [0, 1] (by decide) rfl) rfl rfl) rfl rfl hl.1 rfl (lv_room (Nat.le_of_ble_eq_true rfl)) dL_law_447 hr1) hP hD hS hA [0, 1] [2, 3] rfl rfl (by decide) (by decide) (fun u2 H locs hu hP hD hK2 hS => ?_)
  have hP : va_P (dC, dI) vwCl ([(r0, .inr (1, [.ref ma, .int (nI ks.length), .int (nI o), .long (zk_o oc)])), (ma, .inl (cB, 20000, .inr (.inl g)))] ++ zx_wu q0 (nI (zk_px o)) (nI (zk_py o)) (nI (zk_pz o)) (ks) (zk_o (zs_at ks (nI (zk_c ks (zk_nx oc))))) u2) H := hP
  have hD : va_D (fun q : Nat => s.heap.size ≤ q) ([(r0, .inr (1, [.ref ma, .int (nI ks.length), .int (nI o), .long (zk_o oc)])), (ma, .inl (cB, 20000, .inr (.inl g)))] ++ zx_wu q0 (nI (zk_px o)) (nI (zk_py o)) (nI (zk_pz o)) (ks) (zk_o (zs_at ks (nI (zk_c ks (zk_nx oc))))) u2) := hD
  have hPy := hP.sub (ws' := zy_w r0 ma cB g o ks.length (zk_o oc)) [0, 1] rfl
  refine W.eq (g2 := F0 m 450 ls [.int (zb_I (zs_at ks (nI (zk_c ks (zk_nx oc)))).isSome)]) rfl ?_
  refine lv_aload_n hx hb dL_law_450 rfl (lv_at hl 1 rfl) ?_
  refine zw_callw (ws := [(r0, .inr (1, [.ref ma, .int (nI ks.length), .int (nI o), .long (zk_o oc)])), (ma, .inl (cB, 20000, .inr (.inl g)))] ++ zx_wu q0 (nI (zk_px o)) (nI (zk_py o)) (nI (zk_pz o)) (ks) (zk_o (zs_at ks (nI (zk_c ks (zk_nx oc))))) u2) (wc := zy_w r0 ma cB g o ks.length (zk_o oc)) (wr := zx_wu q0 (nI (zk_px o)) (nI (zk_py o)) (nI (zk_pz o)) (ks) (zk_o (zs_at ks (nI (zk_c ks (zk_nx oc))))) u2) (va_runV (As := []) (rest := [.int (zb_I (zs_at ks (nI (zk_c ks (zk_nx oc)))).isSome)]) ⟨hx, hb, hml, hown, hts⟩ (zd_next l dC dI r0 ma cB g o ks (zk_o oc) H.size oc hoc rfl hR) (cwV 0 hts gL_law_X1_next rfl rfl rfl (by decide +kernel) ⟨Nat.le_of_ble_eq_true rfl, Nat.le_of_ble_eq_true rfl⟩) (zw_preWV (ci := 1) (q0 := 0) hPy hKy (hD.sub (ws' := zy_w r0 ma cB g o ks.length (zk_o oc)) [0, 1] (by decide) rfl) rfl rfl) rfl rfl hl.1 rfl (lv_room (Nat.le_of_ble_eq_true rfl)) dL_law_451 hr4) hP hD hS hA [0, 1] [2, 3] rfl rfl (by decide) (by decide) (fun g2 H locs hg hP hD hK3 hS => ?_)
  refine W.eq (g2 := F0 m 454 ls [.int (zb_I (zs_at ks (nI (zk_c ks (zk_nx oc)))).isSome), .int (zb_I (zs_at ks (nI (zk_c ks (zk_nx oc)))).isSome)]) rfl ?_
  refine lv_icmp_eq (tgt := 574) hx hb dL_law_454 (by decide) (fun c_454 => ?_) (fun c_454 => absurd (rfl) c_454)
  refine W.widen (k := 4 + (t + 1)) (n := 20074 + 1024 * (t + 1)) (by omega) (by omega) ?_
  exact K (ks) (zs_at ks (nI (zk_c ks (zk_nx oc)))) u2 g2 H locs hu hg (zl_at hG.2.1) (by omega) (hK2.app hK3) hP hD hS
set_option maxHeartbeats 4000000 in
set_option maxRecDepth 100000 in
/-- the law at a call of previous -/
theorem zl_previous {p : Program} {l : Launch} {e : Env} {s : State} {m : MethodId} {below : List Frame} {meth : Method} {c : Code} {dC : Nat → ClassId} {dI : Nat → Nat → Nat} {b L : Nat} {xs : Nat → Int32} (C0 : lw_At p s m meth c b L xs) {q0 r0 ma : Nat} {cB : ClassId} {o : Nat} (ho : o < 6) {t : Nat} (ht : t < 512) (hiL : 1 + 5 * t + 5 ≤ L) (hL : L ≤ 2561) {ks : List Nat} {oc : Option Nat} {u : zx_S} {g : Nat → Int64} {H : Heap} {locs : List Loc} (hG : zk_G ks u.2.2.1 u.2.2.2) (hR : zk_R ks g) (hoc : ∀ z, oc = some z → z < 1152921504606846976) (hlen : ks.length ≤ t) (hK : va_K (dC, dI) vwCl [(u.2.1, .long), (cB, .long)] s) (hP : va_P (dC, dI) vwCl (zl_w q0 u r0 ma cB g o ks (zk_o oc)) H) (hD : va_D (fun q : Nat => s.heap.size ≤ q) (zl_w q0 u r0 ma cB g o ks (zk_o oc))) (hS : va_S (fun q : Nat => s.heap.size ≤ q) s.heap H locs) {ls : Array Slot} (hl : lv_has ls 4 [(3, .int (nI (1 + 5 * t))), (2, .ref r0), (1, .ref q0), (0, .ref b)]) (K : zl_K p l e s m below meth c dC dI b q0 r0 ma cB o t ls) : W p l e room_1 s m #[Value.ref b] below meth c H locs (4 + t) (20074 + 1024 * t) (lw_Z below #[Value.ref b] s) (F0 m 459 ls []) := by
  obtain ⟨hx, hb, hr, hml, hown, hts, hX, hbl, hlocks, hgv⟩ := C0
  have hA : ∀ q : Nat, s.heap.size ≤ q → (fun q : Nat => s.heap.size ≤ q) q := fun _ h => h
  have hbA : ¬ (fun q : Nat => s.heap.size ≤ q) b := Nat.not_le.mpr hbl
  have hown : s.vm.findClass RL = some m.cls := hown
  have htsL : ∀ w ∈ wsL_law, w.before #[Value.ref b] s = true := fun w h => hts w (wsL_law_in w h)
  have hPx := hP.sub (ws' := zx_wu q0 (nI (zk_px o)) (nI (zk_py o)) (nI (zk_pz o)) ks (zk_o oc) u) [0, 1] rfl
  have hKx := hK.sub (tys' := [(u.2.1, .long)]) [0] rfl
  have hPy := hP.sub (ws' := zy_w r0 ma cB g o ks.length (zk_o oc)) [2, 3] rfl
  have hKy := hK.sub (tys' := [(cB, .long)]) [1] rfl
  have hr1 : 4 + t + 0 ≤ room_1.cells ∧ 20074 + 1024 * t + 0 ≤ room_1.slots := ⟨by show 4 + t + 0 ≤ 600000; omega, by show 20074 + 1024 * t + 0 ≤ 7302250; omega⟩
  have hr4 : 4 + t + 0 + 0 ≤ room_1.cells ∧ 20074 + 1024 * t + 0 + 0 ≤ room_1.slots := hr1
  refine lv_aload_n hx hb dL_law_459 rfl (lv_at hl 2 rfl) ?_
  refine zw_callw (ws := zl_w q0 u r0 ma cB g o ks (zk_o oc)) (wc := zx_wu q0 (nI (zk_px o)) (nI (zk_py o)) (nI (zk_pz o)) ks (zk_o oc) u) (wr := zy_w r0 ma cB g o ks.length (zk_o oc)) (va_runV (As := []) (rest := []) ⟨hx, hb, hml, hown, htsL⟩ (zc_previous l dC dI q0 u.1 u.2.1 u.2.2.1 u.2.2.2 (nI (zk_px o)) (nI (zk_py o)) (nI (zk_pz o)) ks (zk_o oc) H.size oc hoc rfl hG) (cwV 0 htsL gL_law_X0_previous rfl rfl rfl (by decide +kernel) ⟨Nat.le_of_ble_eq_true rfl, Nat.le_of_ble_eq_true rfl⟩) (zw_preWV (ci := 0) (q0 := 0) hPx hKx (hD.sub (ws' := zx_wu q0 (nI (zk_px o)) (nI (zk_py o)) (nI (zk_pz o)) ks (zk_o oc) u) [0, 1] (by decide) rfl) rfl rfl) rfl rfl hl.1 rfl (lv_room (Nat.le_of_ble_eq_true rfl)) dL_law_460 hr1) hP hD hS hA [0, 1] [2, 3] rfl rfl (by decide) (by decide) (fun u2 H locs hu hP hD hK2 hS => ?_)
  have hP : va_P (dC, dI) vwCl ([(r0, .inr (1, [.ref ma, .int (nI ks.length), .int (nI o), .long (zk_o oc)])), (ma, .inl (cB, 20000, .inr (.inl g)))] ++ zx_wu q0 (nI (zk_px o)) (nI (zk_py o)) (nI (zk_pz o)) (ks) (zk_o (zs_at ks (nI (zk_pv ks oc) - 1))) u2) H := hP
  have hD : va_D (fun q : Nat => s.heap.size ≤ q) ([(r0, .inr (1, [.ref ma, .int (nI ks.length), .int (nI o), .long (zk_o oc)])), (ma, .inl (cB, 20000, .inr (.inl g)))] ++ zx_wu q0 (nI (zk_px o)) (nI (zk_py o)) (nI (zk_pz o)) (ks) (zk_o (zs_at ks (nI (zk_pv ks oc) - 1))) u2) := hD
  have hPy := hP.sub (ws' := zy_w r0 ma cB g o ks.length (zk_o oc)) [0, 1] rfl
  refine W.eq (g2 := F0 m 463 ls [.int (zb_I (zs_at ks (nI (zk_pv ks oc) - 1)).isSome)]) rfl ?_
  refine lv_aload_n hx hb dL_law_463 rfl (lv_at hl 1 rfl) ?_
  refine zw_callw (ws := [(r0, .inr (1, [.ref ma, .int (nI ks.length), .int (nI o), .long (zk_o oc)])), (ma, .inl (cB, 20000, .inr (.inl g)))] ++ zx_wu q0 (nI (zk_px o)) (nI (zk_py o)) (nI (zk_pz o)) (ks) (zk_o (zs_at ks (nI (zk_pv ks oc) - 1))) u2) (wc := zy_w r0 ma cB g o ks.length (zk_o oc)) (wr := zx_wu q0 (nI (zk_px o)) (nI (zk_py o)) (nI (zk_pz o)) (ks) (zk_o (zs_at ks (nI (zk_pv ks oc) - 1))) u2) (va_runV (As := []) (rest := [.int (zb_I (zs_at ks (nI (zk_pv ks oc) - 1)).isSome)]) ⟨hx, hb, hml, hown, hts⟩ (zd_previous l dC dI r0 ma cB g o ks (zk_o oc) H.size oc hoc rfl hR) (cwV 0 hts gL_law_X1_previous rfl rfl rfl (by decide +kernel) ⟨Nat.le_of_ble_eq_true rfl, Nat.le_of_ble_eq_true rfl⟩) (zw_preWV (ci := 1) (q0 := 0) hPy hKy (hD.sub (ws' := zy_w r0 ma cB g o ks.length (zk_o oc)) [0, 1] (by decide) rfl) rfl rfl) rfl rfl hl.1 rfl (lv_room (Nat.le_of_ble_eq_true rfl)) dL_law_464 hr4) hP hD hS hA [0, 1] [2, 3] rfl rfl (by decide) (by decide) (fun g2 H locs hg hP hD hK3 hS => ?_)
  refine W.eq (g2 := F0 m 467 ls [.int (zb_I (zs_at ks (nI (zk_pv ks oc) - 1)).isSome), .int (zb_I (zs_at ks (nI (zk_pv ks oc) - 1)).isSome)]) rfl ?_
  refine lv_icmp_eq (tgt := 574) hx hb dL_law_467 (by decide) (fun c_467 => ?_) (fun c_467 => absurd (rfl) c_467)
  refine W.widen (k := 4 + (t + 1)) (n := 20074 + 1024 * (t + 1)) (by omega) (by omega) ?_
  exact K (ks) (zs_at ks (nI (zk_pv ks oc) - 1)) u2 g2 H locs hu hg (zl_at hG.2.1) (by omega) (hK2.app hK3) hP hD hS
set_option maxHeartbeats 4000000 in
set_option maxRecDepth 100000 in
/-- the law at a call of cut -/
theorem zl_cut {p : Program} {l : Launch} {e : Env} {s : State} {m : MethodId} {below : List Frame} {meth : Method} {c : Code} {dC : Nat → ClassId} {dI : Nat → Nat → Nat} {b L : Nat} {xs : Nat → Int32} (C0 : lw_At p s m meth c b L xs) {q0 r0 ma : Nat} {cB : ClassId} {o : Nat} (ho : o < 6) {t : Nat} (ht : t < 512) (hiL : 1 + 5 * t + 5 ≤ L) (hL : L ≤ 2561) {ks : List Nat} {oc : Option Nat} {u : zx_S} {g : Nat → Int64} {H : Heap} {locs : List Loc} (hG : zk_G ks u.2.2.1 u.2.2.2) (hR : zk_R ks g) (hoc : ∀ z, oc = some z → z < 1152921504606846976) (hlen : ks.length ≤ t) (hK : va_K (dC, dI) vwCl [(u.2.1, .long), (cB, .long)] s) (hP : va_P (dC, dI) vwCl (zl_w q0 u r0 ma cB g o ks (zk_o oc)) H) (hD : va_D (fun q : Nat => s.heap.size ≤ q) (zl_w q0 u r0 ma cB g o ks (zk_o oc))) (hS : va_S (fun q : Nat => s.heap.size ≤ q) s.heap H locs) {ls : Array Slot} (hl : lv_has ls 4 [(3, .int (nI (1 + 5 * t))), (2, .ref r0), (1, .ref q0), (0, .ref b)]) (K : zl_K p l e s m below meth c dC dI b q0 r0 ma cB o t ls) : W p l e room_1 s m #[Value.ref b] below meth c H locs (4 + t) (20074 + 1024 * t) (lw_Z below #[Value.ref b] s) (F0 m 521 ls []) := by
  obtain ⟨hx, hb, hr, hml, hown, hts, hX, hbl, hlocks, hgv⟩ := C0
  have hA : ∀ q : Nat, s.heap.size ≤ q → (fun q : Nat => s.heap.size ≤ q) q := fun _ h => h
  have hbA : ¬ (fun q : Nat => s.heap.size ≤ q) b := Nat.not_le.mpr hbl
  have hown : s.vm.findClass RL = some m.cls := hown
  have htsL : ∀ w ∈ wsL_law, w.before #[Value.ref b] s = true := fun w h => hts w (wsL_law_in w h)
  have hPx := hP.sub (ws' := zx_wu q0 (nI (zk_px o)) (nI (zk_py o)) (nI (zk_pz o)) ks (zk_o oc) u) [0, 1] rfl
  have hKx := hK.sub (tys' := [(u.2.1, .long)]) [0] rfl
  have hPy := hP.sub (ws' := zy_w r0 ma cB g o ks.length (zk_o oc)) [2, 3] rfl
  have hKy := hK.sub (tys' := [(cB, .long)]) [1] rfl
  have hr1 : 4 + t + 0 ≤ room_1.cells ∧ 20074 + 1024 * t + 0 ≤ room_1.slots := ⟨by show 4 + t + 0 ≤ 600000; omega, by show 20074 + 1024 * t + 0 ≤ 7302250; omega⟩
  have hr4 : 4 + t + 0 + 0 ≤ room_1.cells ∧ 20074 + 1024 * t + 0 + 0 ≤ room_1.slots := hr1
  obtain ⟨x1, ex1⟩ : ∃ y : Int32, y = xs (1 + 5 * t + 1) := ⟨_, rfl⟩
  obtain ⟨x2, ex2⟩ : ∃ y : Int32, y = xs (1 + 5 * t + 2) := ⟨_, rfl⟩
  obtain ⟨x3, ex3⟩ : ∃ y : Int32, y = xs (1 + 5 * t + 3) := ⟨_, rfl⟩
  obtain ⟨x4, ex4⟩ : ∃ y : Int32, y = xs (1 + 5 * t + 4) := ⟨_, rfl⟩
  refine lv_aload_n hx hb dL_law_521 rfl (lv_at hl 2 rfl) ?_
  refine lv_aload_n hx hb dL_law_522 rfl (lv_at hl 3 rfl) ?_
  refine lv_iload_n hx hb dL_law_523 rfl (lv_at hl 0 rfl) ?_
  refine lv_iconst (v := 1) hx hb dL_law_524 (by decide) ?_
  refine lv_iadd hx hb dL_law_525 ?_
  refine zw_eqi (y := nI (1 + 5 * t + 1)) (nI_add _ 1) ?_
  refine va_sld hx hb hX hbl hbA hS (pk_in (1 + 5 * t + 1) L (by omega) rfl (by omega)) dL_law_526 ?_
  refine zw_eqi (y := x1) (by rw [nI_clamp (by omega), ex1]) ?_
  refine lv_aload_n hx hb dL_law_527 rfl (lv_at hl 3 rfl) ?_
  refine lv_iload_n hx hb dL_law_528 rfl (lv_at hl 0 rfl) ?_
  refine lv_iconst (v := 2) hx hb dL_law_529 (by decide) ?_
  refine lv_iadd hx hb dL_law_530 ?_
  refine zw_eqi (y := nI (1 + 5 * t + 2)) (nI_add _ 2) ?_
  refine va_sld hx hb hX hbl hbA hS (pk_in (1 + 5 * t + 2) L (by omega) rfl (by omega)) dL_law_531 ?_
  refine zw_eqi (y := x2) (by rw [nI_clamp (by omega), ex2]) ?_
  refine lv_aload_n hx hb dL_law_532 rfl (lv_at hl 3 rfl) ?_
  refine lv_iload_n hx hb dL_law_533 rfl (lv_at hl 0 rfl) ?_
  refine lv_iconst (v := 3) hx hb dL_law_534 (by decide) ?_
  refine lv_iadd hx hb dL_law_535 ?_
  refine zw_eqi (y := nI (1 + 5 * t + 3)) (nI_add _ 3) ?_
  refine va_sld hx hb hX hbl hbA hS (pk_in (1 + 5 * t + 3) L (by omega) rfl (by omega)) dL_law_536 ?_
  refine zw_eqi (y := x3) (by rw [nI_clamp (by omega), ex3]) ?_
  refine lv_aload_n hx hb dL_law_537 rfl (lv_at hl 3 rfl) ?_
  refine lv_iload_n hx hb dL_law_538 rfl (lv_at hl 0 rfl) ?_
  refine lv_iconst (v := 4) hx hb dL_law_539 (by decide) ?_
  refine lv_iadd hx hb dL_law_540 ?_
  refine zw_eqi (y := nI (1 + 5 * t + 4)) (nI_add _ 4) ?_
  refine va_sld hx hb hX hbl hbA hS (pk_in (1 + 5 * t + 4) L (by omega) rfl (by omega)) dL_law_541 ?_
  refine zw_eqi (y := x4) (by rw [nI_clamp (by omega), ex4]) ?_
  refine zw_callw (ws := zl_w q0 u r0 ma cB g o ks (zk_o oc)) (wc := zx_wu q0 (nI (zk_px o)) (nI (zk_py o)) (nI (zk_pz o)) ks (zk_o oc) u) (wr := zy_w r0 ma cB g o ks.length (zk_o oc)) (va_runV (As := [.int x1, .int x2, .int x3, .int x4]) (rest := []) ⟨hx, hb, hml, hown, htsL⟩ (zc_cut l dC dI q0 u.1 u.2.1 u.2.2.1 u.2.2.2 (nI (zk_px o)) (nI (zk_py o)) (nI (zk_pz o)) ks (zk_o oc) H.size x1 x2 x3 x4 hG) (cwV 4 htsL gL_law_X0_cut rfl rfl rfl (by decide +kernel) ⟨Nat.le_of_ble_eq_true rfl, Nat.le_of_ble_eq_true rfl⟩) (zw_preWV (ci := 0) (q0 := 0) hPx hKx (hD.sub (ws' := zx_wu q0 (nI (zk_px o)) (nI (zk_py o)) (nI (zk_pz o)) ks (zk_o oc) u) [0, 1] (by decide) rfl) rfl rfl) rfl rfl hl.1 rfl (lv_room (Nat.le_of_ble_eq_true rfl)) dL_law_542 hr1) hP hD hS hA [0, 1] [2, 3] rfl rfl (by decide) (by decide) (fun u2 H locs hu hP hD hK2 hS => ?_)
  have hP : va_P (dC, dI) vwCl ([(r0, .inr (1, [.ref ma, .int (nI ks.length), .int (nI o), .long (zk_o oc)])), (ma, .inl (cB, 20000, .inr (.inl g)))] ++ zx_wu q0 (nI (zk_px o)) (nI (zk_py o)) (nI (zk_pz o)) (cond (zs_bad x1) ks (zk_del ks (zk_st ks x1 x2 x3 x4) (zk_en ks x1 x2 x3 x4))) (zk_o oc) u2) H := hP
  have hD : va_D (fun q : Nat => s.heap.size ≤ q) ([(r0, .inr (1, [.ref ma, .int (nI ks.length), .int (nI o), .long (zk_o oc)])), (ma, .inl (cB, 20000, .inr (.inl g)))] ++ zx_wu q0 (nI (zk_px o)) (nI (zk_py o)) (nI (zk_pz o)) (cond (zs_bad x1) ks (zk_del ks (zk_st ks x1 x2 x3 x4) (zk_en ks x1 x2 x3 x4))) (zk_o oc) u2) := hD
  have hPy := hP.sub (ws' := zy_w r0 ma cB g o ks.length (zk_o oc)) [0, 1] rfl
  refine W.eq (g2 := F0 m 545 ls [.int (cond (zs_bad x1) (-1) (nI (zk_en ks x1 x2 x3 x4) - nI (zk_st ks x1 x2 x3 x4)))]) rfl ?_
  refine lv_aload_n hx hb dL_law_545 rfl (lv_at hl 1 rfl) ?_
  refine lv_aload_n hx hb dL_law_546 rfl (lv_at hl 3 rfl) ?_
  refine lv_iload_n hx hb dL_law_547 rfl (lv_at hl 0 rfl) ?_
  refine lv_iconst (v := 1) hx hb dL_law_548 (by decide) ?_
  refine lv_iadd hx hb dL_law_549 ?_
  refine zw_eqi (y := nI (1 + 5 * t + 1)) (nI_add _ 1) ?_
  refine va_sld hx hb hX hbl hbA hS (pk_in (1 + 5 * t + 1) L (by omega) rfl (by omega)) dL_law_550 ?_
  refine zw_eqi (y := x1) (by rw [nI_clamp (by omega), ex1]) ?_
  refine lv_aload_n hx hb dL_law_551 rfl (lv_at hl 3 rfl) ?_
  refine lv_iload_n hx hb dL_law_552 rfl (lv_at hl 0 rfl) ?_
  refine lv_iconst (v := 2) hx hb dL_law_553 (by decide) ?_
  refine lv_iadd hx hb dL_law_554 ?_
  refine zw_eqi (y := nI (1 + 5 * t + 2)) (nI_add _ 2) ?_
  refine va_sld hx hb hX hbl hbA hS (pk_in (1 + 5 * t + 2) L (by omega) rfl (by omega)) dL_law_555 ?_
  refine zw_eqi (y := x2) (by rw [nI_clamp (by omega), ex2]) ?_
  refine lv_aload_n hx hb dL_law_556 rfl (lv_at hl 3 rfl) ?_
  refine lv_iload_n hx hb dL_law_557 rfl (lv_at hl 0 rfl) ?_
  refine lv_iconst (v := 3) hx hb dL_law_558 (by decide) ?_
  refine lv_iadd hx hb dL_law_559 ?_
  refine zw_eqi (y := nI (1 + 5 * t + 3)) (nI_add _ 3) ?_
  refine va_sld hx hb hX hbl hbA hS (pk_in (1 + 5 * t + 3) L (by omega) rfl (by omega)) dL_law_560 ?_
  refine zw_eqi (y := x3) (by rw [nI_clamp (by omega), ex3]) ?_
  refine lv_aload_n hx hb dL_law_561 rfl (lv_at hl 3 rfl) ?_
  refine lv_iload_n hx hb dL_law_562 rfl (lv_at hl 0 rfl) ?_
  refine lv_iconst (v := 4) hx hb dL_law_563 (by decide) ?_
  refine lv_iadd hx hb dL_law_564 ?_
  refine zw_eqi (y := nI (1 + 5 * t + 4)) (nI_add _ 4) ?_
  refine va_sld hx hb hX hbl hbA hS (pk_in (1 + 5 * t + 4) L (by omega) rfl (by omega)) dL_law_565 ?_
  refine zw_eqi (y := x4) (by rw [nI_clamp (by omega), ex4]) ?_
  refine zw_callw (ws := [(r0, .inr (1, [.ref ma, .int (nI ks.length), .int (nI o), .long (zk_o oc)])), (ma, .inl (cB, 20000, .inr (.inl g)))] ++ zx_wu q0 (nI (zk_px o)) (nI (zk_py o)) (nI (zk_pz o)) (cond (zs_bad x1) ks (zk_del ks (zk_st ks x1 x2 x3 x4) (zk_en ks x1 x2 x3 x4))) (zk_o oc) u2) (wc := zy_w r0 ma cB g o ks.length (zk_o oc)) (wr := zx_wu q0 (nI (zk_px o)) (nI (zk_py o)) (nI (zk_pz o)) (cond (zs_bad x1) ks (zk_del ks (zk_st ks x1 x2 x3 x4) (zk_en ks x1 x2 x3 x4))) (zk_o oc) u2) (va_runV (As := [.int x1, .int x2, .int x3, .int x4]) (rest := [.int (cond (zs_bad x1) (-1) (nI (zk_en ks x1 x2 x3 x4) - nI (zk_st ks x1 x2 x3 x4)))]) ⟨hx, hb, hml, hown, hts⟩ (zd_cut l dC dI r0 ma cB g o ks (zk_o oc) H.size x1 x2 x3 x4 hR) (cwV 4 hts gL_law_X1_cut rfl rfl rfl (by decide +kernel) ⟨Nat.le_of_ble_eq_true rfl, Nat.le_of_ble_eq_true rfl⟩) (zw_preWV (ci := 1) (q0 := 0) hPy hKy (hD.sub (ws' := zy_w r0 ma cB g o ks.length (zk_o oc)) [0, 1] (by decide) rfl) rfl rfl) rfl rfl hl.1 rfl (lv_room (Nat.le_of_ble_eq_true rfl)) dL_law_566 hr4) hP hD hS hA [0, 1] [2, 3] rfl rfl (by decide) (by decide) (fun g2 H locs hg hP hD hK3 hS => ?_)
  refine W.eq (g2 := F0 m 569 ls [.int (cond (zs_bad x1) (-1) (nI (zk_en ks x1 x2 x3 x4) - nI (zk_st ks x1 x2 x3 x4))), .int (cond (zs_bad x1) (-1) (nI (zk_en ks x1 x2 x3 x4) - nI (zk_st ks x1 x2 x3 x4)))]) rfl ?_
  refine lv_icmp_eq (tgt := 574) hx hb dL_law_569 (by decide) (fun c_569 => ?_) (fun c_569 => absurd (rfl) c_569)
  refine W.widen (k := 4 + (t + 1)) (n := 20074 + 1024 * (t + 1)) (by omega) (by omega) ?_
  exact K (cond (zs_bad x1) ks (zk_del ks (zk_st ks x1 x2 x3 x4) (zk_en ks x1 x2 x3 x4))) (oc) u2 g2 H locs hu hg hoc (zl_len3 hG.1 hG.2.1 hlen) (hK2.app hK3) hP hD hS
