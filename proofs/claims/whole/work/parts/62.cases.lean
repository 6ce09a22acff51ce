set_option maxHeartbeats 4000000 in
set_option maxRecDepth 100000 in
/-- the law at a call of has -/
theorem zl_has {p : Program} {l : Launch} {e : Env} {s : State} {m : MethodId} {below : List Frame} {meth : Method} {c : Code} {dC : Nat → ClassId} {dI : Nat → Nat → Nat} {b L : Nat} {xs : Nat → Int32} (C0 : lw_At p s m meth c b L xs) {q0 r0 ma : Nat} {cB : ClassId} {o : Nat} (ho : o < 6) {t : Nat} (ht : t < 512) (hiL : 1 + 5 * t + 5 ≤ L) (hL : L ≤ 2561) {ks : List Nat} {oc : Option Nat} {u : zx_S} {g : Nat → Int64} {H : Heap} {locs : List Loc} (hG : zk_G ks u.2.2.1 u.2.2.2) (hR : zk_R ks g) (hoc : ∀ z, oc = some z → z < 1152921504606846976) (hlen : ks.length ≤ t) (hK : va_K (dC, dI) vwCl [(u.2.1, .long), (cB, .long)] s) (hP : va_P (dC, dI) vwCl (zl_w q0 u r0 ma cB g o ks (zk_o oc)) H) (hD : va_D (fun q : Nat => s.heap.size ≤ q) (zl_w q0 u r0 ma cB g o ks (zk_o oc))) (hS : va_S (fun q : Nat => s.heap.size ≤ q) s.heap H locs) {ls : Array Slot} (hl : lv_has ls 4 [(3, .int (nI (1 + 5 * t))), (2, .ref r0), (1, .ref q0), (0, .ref b)]) (K : zl_K p l e s m below meth c dC dI b q0 r0 ma cB o t ls) : W p l e room_1 s m #[Value.ref b] below meth c H locs (4 + t) (20074 + 1024 * t) (lw_Z below #[Value.ref b] s) (F0 m 198 ls []) := by
  obtain ⟨hx, hb, hr, hml, hown, hts, hX, hbl, hlocks, hgv⟩ := C0
  have hA : ∀ q : Nat, s.heap.size ≤ q → (fun q : Nat => s.heap.size ≤ q) q := fun _ h => h
  have hbA : ¬ (fun q : Nat => s.heap.size ≤ q) b := Nat.not_le.mpr hbl
  have hown : s.vm.findClass RL = some m.cls := hown
  have htsL : ∀ w ∈ wsL_law, w.before #[Value.ref b] s = true := fun w h => hts w (wsL_law_in w h)
  have hPx := hP.sub (ws' := zx_wu q0 (nI (zk_px o)) (nI (zk_py o)) (nI (zk_pz o)) ks (zk_o oc) u) [0, 1] rfl
  have hKx := hK.sub (tys' := [(u.2.1, .long)]) [0] rfl
  have hPy := hP.sub (ws' := zy_w r0 ma cB g o ks.length (zk_o oc)) [2, 3] rfl
  have hKy := hK.sub (tys' := [(cB, .long)]) [1] rfl
  have hr1 : 4 + t + 0 ≤ room_1.cells ∧ 20074 + 1024 * t + 0 ≤ room_1.slots := ⟨by show 4 + t + 0 ≤ 600000; omega, by show 20074 + 1024 * t + 0 ≤ 7302250; omega⟩
  obtain ⟨x1, ex1⟩ : ∃ y : Int32, y = xs (1 + 5 * t + 1) := ⟨_, rfl⟩
  obtain ⟨x2, ex2⟩ : ∃ y : Int32, y = xs (1 + 5 * t + 2) := ⟨_, rfl⟩
  obtain ⟨x3, ex3⟩ : ∃ y : Int32, y = xs (1 + 5 * t + 3) := ⟨_, rfl⟩
  obtain ⟨k, hk0, hk1⟩ := zl_key ho x1 x2 x3
  refine lv_aload_n hx hb dL_law_198 rfl (lv_at hl 2 rfl) ?_
  refine lv_aload_n hx hb dL_law_199 rfl (lv_at hl 3 rfl) ?_
  refine lv_iload_n hx hb dL_law_200 rfl (lv_at hl 0 rfl) ?_
  refine lv_iconst (v := 1) hx hb dL_law_201 (by decide) ?_
  refine lv_iadd hx hb dL_law_202 ?_
  refine zw_eqi (y := nI (1 + 5 * t + 1)) (nI_add _ 1) ?_
  refine va_sld hx hb hX hbl hbA hS (pk_in (1 + 5 * t + 1) L (by omega) rfl (by omega)) dL_law_203 ?_
  refine zw_eqi (y := x1) (by rw [nI_clamp (by omega), ex1]) ?_
  refine lv_aload_n hx hb dL_law_204 rfl (lv_at hl 3 rfl) ?_
  refine lv_iload_n hx hb dL_law_205 rfl (lv_at hl 0 rfl) ?_
  refine lv_iconst (v := 2) hx hb dL_law_206 (by decide) ?_
  refine lv_iadd hx hb dL_law_207 ?_
  refine zw_eqi (y := nI (1 + 5 * t + 2)) (nI_add _ 2) ?_
  refine va_sld hx hb hX hbl hbA hS (pk_in (1 + 5 * t + 2) L (by omega) rfl (by omega)) dL_law_208 ?_
  refine zw_eqi (y := x2) (by rw [nI_clamp (by omega), ex2]) ?_
  refine lv_aload_n hx hb dL_law_209 rfl (lv_at hl 3 rfl) ?_
  refine lv_iload_n hx hb dL_law_210 rfl (lv_at hl 0 rfl) ?_
  refine lv_iconst (v := 3) hx hb dL_law_211 (by decide) ?_
  refine lv_iadd hx hb dL_law_212 ?_
  refine zw_eqi (y := nI (1 + 5 * t + 3)) (nI_add _ 3) ?_
  refine va_sld hx hb hX hbl hbA hS (pk_in (1 + 5 * t + 3) L (by omega) rfl (by omega)) dL_law_213 ?_
  refine zw_eqi (y := x3) (by rw [nI_clamp (by omega), ex3]) ?_
  refine zw_ci (r := if zf_nn x1 x2 x3 then zb_I (decide (k ∈ ks)) else -1) (va_runV (As := [.int x1, .int x2, .int x3]) (rest := []) ⟨hx, hb, hml, hown, htsL⟩ (zc_has l dC dI q0 u.1 u.2.1 u.2.2.1 u.2.2.2 (nI (zk_px o)) (nI (zk_py o)) (nI (zk_pz o)) ks (zk_o oc) x1 x2 x3 k hk0 hG) (cwV 3 htsL gL_law_X0_has rfl rfl rfl (by decide +kernel) ⟨Nat.le_of_ble_eq_true rfl, Nat.le_of_ble_eq_true rfl⟩) (zw_preV (ci := 0) (q0 := 0) hPx hKx rfl rfl) rfl rfl hl.1 rfl (lv_room (Nat.le_of_ble_eq_true rfl)) dL_law_214 hr1) ?_
  refine lv_aload_n hx hb dL_law_217 rfl (lv_at hl 1 rfl) ?_
  refine lv_aload_n hx hb dL_law_218 rfl (lv_at hl 3 rfl) ?_
  refine lv_iload_n hx hb dL_law_219 rfl (lv_at hl 0 rfl) ?_
  refine lv_iconst (v := 1) hx hb dL_law_220 (by decide) ?_
  refine lv_iadd hx hb dL_law_221 ?_
  refine zw_eqi (y := nI (1 + 5 * t + 1)) (nI_add _ 1) ?_
  refine va_sld hx hb hX hbl hbA hS (pk_in (1 + 5 * t + 1) L (by omega) rfl (by omega)) dL_law_222 ?_
  refine zw_eqi (y := x1) (by rw [nI_clamp (by omega), ex1]) ?_
  refine lv_aload_n hx hb dL_law_223 rfl (lv_at hl 3 rfl) ?_
  refine lv_iload_n hx hb dL_law_224 rfl (lv_at hl 0 rfl) ?_
  refine lv_iconst (v := 2) hx hb dL_law_225 (by decide) ?_
  refine lv_iadd hx hb dL_law_226 ?_
  refine zw_eqi (y := nI (1 + 5 * t + 2)) (nI_add _ 2) ?_
  refine va_sld hx hb hX hbl hbA hS (pk_in (1 + 5 * t + 2) L (by omega) rfl (by omega)) dL_law_227 ?_
  refine zw_eqi (y := x2) (by rw [nI_clamp (by omega), ex2]) ?_
  refine lv_aload_n hx hb dL_law_228 rfl (lv_at hl 3 rfl) ?_
  refine lv_iload_n hx hb dL_law_229 rfl (lv_at hl 0 rfl) ?_
  refine lv_iconst (v := 3) hx hb dL_law_230 (by decide) ?_
  refine lv_iadd hx hb dL_law_231 ?_
  refine zw_eqi (y := nI (1 + 5 * t + 3)) (nI_add _ 3) ?_
  refine va_sld hx hb hX hbl hbA hS (pk_in (1 + 5 * t + 3) L (by omega) rfl (by omega)) dL_law_232 ?_
  refine zw_eqi (y := x3) (by rw [nI_clamp (by omega), ex3]) ?_
  refine zw_ci (r := if zf_nn x1 x2 x3 then zb_I (decide (k ∈ ks)) else -1) (va_runV (As := [.int x1, .int x2, .int x3]) (rest := [.int (if zf_nn x1 x2 x3 then zb_I (decide (k ∈ ks)) else -1)]) ⟨hx, hb, hml, hown, hts⟩ (zd_has l dC dI r0 ma cB g o ks (zk_o oc) x1 x2 x3 ho k hk1 hR) (cwV 3 hts gL_law_X1_has rfl rfl rfl (by decide +kernel) ⟨Nat.le_of_ble_eq_true rfl, Nat.le_of_ble_eq_true rfl⟩) (zw_preV (ci := 1) (q0 := 0) hPy hKy rfl rfl) rfl rfl hl.1 rfl (lv_room (Nat.le_of_ble_eq_true rfl)) dL_law_233 hr1) ?_
  refine lv_icmp_eq (tgt := 574) hx hb dL_law_236 (by decide) (fun c_236 => ?_) (fun c_236 => absurd (rfl) c_236)
  refine W.widen (k := 4 + (t + 1)) (n := 20074 + 1024 * (t + 1)) (by omega) (by omega) ?_
  exact K ks oc u g H locs hG hR hoc (by omega) hK hP hD hS
set_option maxHeartbeats 4000000 in
set_option maxRecDepth 100000 in
/-- the law at a call of count -/
theorem zl_count {p : Program} {l : Launch} {e : Env} {s : State} {m : MethodId} {below : List Frame} {meth : Method} {c : Code} {dC : Nat → ClassId} {dI : Nat → Nat → Nat} {b L : Nat} {xs : Nat → Int32} (C0 : lw_At p s m meth c b L xs) {q0 r0 ma : Nat} {cB : ClassId} {o : Nat} (ho : o < 6) {t : Nat} (ht : t < 512) (hiL : 1 + 5 * t + 5 ≤ L) (hL : L ≤ 2561) {ks : List Nat} {oc : Option Nat} {u : zx_S} {g : Nat → Int64} {H : Heap} {locs : List Loc} (hG : zk_G ks u.2.2.1 u.2.2.2) (hR : zk_R ks g) (hoc : ∀ z, oc = some z → z < 1152921504606846976) (hlen : ks.length ≤ t) (hK : va_K (dC, dI) vwCl [(u.2.1, .long), (cB, .long)] s) (hP : va_P (dC, dI) vwCl (zl_w q0 u r0 ma cB g o ks (zk_o oc)) H) (hD : va_D (fun q : Nat => s.heap.size ≤ q) (zl_w q0 u r0 ma cB g o ks (zk_o oc))) (hS : va_S (fun q : Nat => s.heap.size ≤ q) s.heap H locs) {ls : Array Slot} (hl : lv_has ls 4 [(3, .int (nI (1 + 5 * t))), (2, .ref r0), (1, .ref q0), (0, .ref b)]) (K : zl_K p l e s m below meth c dC dI b q0 r0 ma cB o t ls) : W p l e room_1 s m #[Value.ref b] below meth c H locs (4 + t) (20074 + 1024 * t) (lw_Z below #[Value.ref b] s) (F0 m 241 ls []) := by
  obtain ⟨hx, hb, hr, hml, hown, hts, hX, hbl, hlocks, hgv⟩ := C0
  have hA : ∀ q : Nat, s.heap.size ≤ q → (fun q : Nat => s.heap.size ≤ q) q := fun _ h => h
  have hbA : ¬ (fun q : Nat => s.heap.size ≤ q) b := Nat.not_le.mpr hbl
  have hown : s.vm.findClass RL = some m.cls := hown
  have htsL : ∀ w ∈ wsL_law, w.before #[Value.ref b] s = true := fun w h => hts w (wsL_law_in w h)
  have hPx := hP.sub (ws' := zx_wu q0 (nI (zk_px o)) (nI (zk_py o)) (nI (zk_pz o)) ks (zk_o oc) u) [0, 1] rfl
  have hKx := hK.sub (tys' := [(u.2.1, .long)]) [0] rfl
  have hPy := hP.sub (ws' := zy_w r0 ma cB g o ks.length (zk_o oc)) [2, 3] rfl
  have hKy := hK.sub (tys' := [(cB, .long)]) [1] rfl
  have hr1 : 4 + t + 0 ≤ room_1.cells ∧ 20074 + 1024 * t + 0 ≤ room_1.slots := ⟨by show 4 + t + 0 ≤ 600000; omega, by show 20074 + 1024 * t + 0 ≤ 7302250; omega⟩
  obtain ⟨x1, ex1⟩ : ∃ y : Int32, y = xs (1 + 5 * t + 1) := ⟨_, rfl⟩
  obtain ⟨x2, ex2⟩ : ∃ y : Int32, y = xs (1 + 5 * t + 2) := ⟨_, rfl⟩
  obtain ⟨x3, ex3⟩ : ∃ y : Int32, y = xs (1 + 5 * t + 3) := ⟨_, rfl⟩
  obtain ⟨x4, ex4⟩ : ∃ y : Int32, y = xs (1 + 5 * t + 4) := ⟨_, rfl⟩
  refine lv_aload_n hx hb dL_law_241 rfl (lv_at hl 2 rfl) ?_
  refine lv_aload_n hx hb dL_law_242 rfl (lv_at hl 3 rfl) ?_
  refine lv_iload_n hx hb dL_law_243 rfl (lv_at hl 0 rfl) ?_
  refine lv_iconst (v := 1) hx hb dL_law_244 (by decide) ?_
  refine lv_iadd hx hb dL_law_245 ?_
  refine zw_eqi (y := nI (1 + 5 * t + 1)) (nI_add _ 1) ?_
  refine va_sld hx hb hX hbl hbA hS (pk_in (1 + 5 * t + 1) L (by omega) rfl (by omega)) dL_law_246 ?_
  refine zw_eqi (y := x1) (by rw [nI_clamp (by omega), ex1]) ?_
  refine lv_aload_n hx hb dL_law_247 rfl (lv_at hl 3 rfl) ?_
  refine lv_iload_n hx hb dL_law_248 rfl (lv_at hl 0 rfl) ?_
  refine lv_iconst (v := 2) hx hb dL_law_249 (by decide) ?_
  refine lv_iadd hx hb dL_law_250 ?_
  refine zw_eqi (y := nI (1 + 5 * t + 2)) (nI_add _ 2) ?_
  refine va_sld hx hb hX hbl hbA hS (pk_in (1 + 5 * t + 2) L (by omega) rfl (by omega)) dL_law_251 ?_
  refine zw_eqi (y := x2) (by rw [nI_clamp (by omega), ex2]) ?_
  refine lv_aload_n hx hb dL_law_252 rfl (lv_at hl 3 rfl) ?_
  refine lv_iload_n hx hb dL_law_253 rfl (lv_at hl 0 rfl) ?_
  refine lv_iconst (v := 3) hx hb dL_law_254 (by decide) ?_
  refine lv_iadd hx hb dL_law_255 ?_
  refine zw_eqi (y := nI (1 + 5 * t + 3)) (nI_add _ 3) ?_
  refine va_sld hx hb hX hbl hbA hS (pk_in (1 + 5 * t + 3) L (by omega) rfl (by omega)) dL_law_256 ?_
  refine zw_eqi (y := x3) (by rw [nI_clamp (by omega), ex3]) ?_
  refine lv_aload_n hx hb dL_law_257 rfl (lv_at hl 3 rfl) ?_
  refine lv_iload_n hx hb dL_law_258 rfl (lv_at hl 0 rfl) ?_
  refine lv_iconst (v := 4) hx hb dL_law_259 (by decide) ?_
  refine lv_iadd hx hb dL_law_260 ?_
  refine zw_eqi (y := nI (1 + 5 * t + 4)) (nI_add _ 4) ?_
  refine va_sld hx hb hX hbl hbA hS (pk_in (1 + 5 * t + 4) L (by omega) rfl (by omega)) dL_law_261 ?_
  refine zw_eqi (y := x4) (by rw [nI_clamp (by omega), ex4]) ?_
  refine zw_ci (r := zs_count ks x1 x2 x3 x4) (va_runV (As := [.int x1, .int x2, .int x3, .int x4]) (rest := []) ⟨hx, hb, hml, hown, htsL⟩ (zc_count l dC dI q0 u.1 u.2.1 u.2.2.1 u.2.2.2 (nI (zk_px o)) (nI (zk_py o)) (nI (zk_pz o)) ks (zk_o oc) x1 x2 x3 x4 hG) (cwV 4 htsL gL_law_X0_count rfl rfl rfl (by decide +kernel) ⟨Nat.le_of_ble_eq_true rfl, Nat.le_of_ble_eq_true rfl⟩) (zw_preV (ci := 0) (q0 := 0) hPx hKx rfl rfl) rfl rfl hl.1 rfl (lv_room (Nat.le_of_ble_eq_true rfl)) dL_law_262 hr1) ?_
  refine lv_aload_n hx hb dL_law_265 rfl (lv_at hl 1 rfl) ?_
  refine lv_aload_n hx hb dL_law_266 rfl (lv_at hl 3 rfl) ?_
  refine lv_iload_n hx hb dL_law_267 rfl (lv_at hl 0 rfl) ?_
  refine lv_iconst (v := 1) hx hb dL_law_268 (by decide) ?_
  refine lv_iadd hx hb dL_law_269 ?_
  refine zw_eqi (y := nI (1 + 5 * t + 1)) (nI_add _ 1) ?_
  refine va_sld hx hb hX hbl hbA hS (pk_in (1 + 5 * t + 1) L (by omega) rfl (by omega)) dL_law_270 ?_
  refine zw_eqi (y := x1) (by rw [nI_clamp (by omega), ex1]) ?_
  refine lv_aload_n hx hb dL_law_271 rfl (lv_at hl 3 rfl) ?_
  refine lv_iload_n hx hb dL_law_272 rfl (lv_at hl 0 rfl) ?_
  refine lv_iconst (v := 2) hx hb dL_law_273 (by decide) ?_
  refine lv_iadd hx hb dL_law_274 ?_
  refine zw_eqi (y := nI (1 + 5 * t + 2)) (nI_add _ 2) ?_
  refine va_sld hx hb hX hbl hbA hS (pk_in (1 + 5 * t + 2) L (by omega) rfl (by omega)) dL_law_275 ?_
  refine zw_eqi (y := x2) (by rw [nI_clamp (by omega), ex2]) ?_
  refine lv_aload_n hx hb dL_law_276 rfl (lv_at hl 3 rfl) ?_
  refine lv_iload_n hx hb dL_law_277 rfl (lv_at hl 0 rfl) ?_
  refine lv_iconst (v := 3) hx hb dL_law_278 (by decide) ?_
  refine lv_iadd hx hb dL_law_279 ?_
  refine zw_eqi (y := nI (1 + 5 * t + 3)) (nI_add _ 3) ?_
  refine va_sld hx hb hX hbl hbA hS (pk_in (1 + 5 * t + 3) L (by omega) rfl (by omega)) dL_law_280 ?_
  refine zw_eqi (y := x3) (by rw [nI_clamp (by omega), ex3]) ?_
  refine lv_aload_n hx hb dL_law_281 rfl (lv_at hl 3 rfl) ?_
  refine lv_iload_n hx hb dL_law_282 rfl (lv_at hl 0 rfl) ?_
  refine lv_iconst (v := 4) hx hb dL_law_283 (by decide) ?_
  refine lv_iadd hx hb dL_law_284 ?_
  refine zw_eqi (y := nI (1 + 5 * t + 4)) (nI_add _ 4) ?_
  refine va_sld hx hb hX hbl hbA hS (pk_in (1 + 5 * t + 4) L (by omega) rfl (by omega)) dL_law_285 ?_
  refine zw_eqi (y := x4) (by rw [nI_clamp (by omega), ex4]) ?_
  refine zw_ci (r := zs_count ks x1 x2 x3 x4) (va_runV (As := [.int x1, .int x2, .int x3, .int x4]) (rest := [.int (zs_count ks x1 x2 x3 x4)]) ⟨hx, hb, hml, hown, hts⟩ (zd_count l dC dI r0 ma cB g o ks (zk_o oc) x1 x2 x3 x4 hR) (cwV 4 hts gL_law_X1_count rfl rfl rfl (by decide +kernel) ⟨Nat.le_of_ble_eq_true rfl, Nat.le_of_ble_eq_true rfl⟩) (zw_preV (ci := 1) (q0 := 0) hPy hKy rfl rfl) rfl rfl hl.1 rfl (lv_room (Nat.le_of_ble_eq_true rfl)) dL_law_286 hr1) ?_
  refine lv_icmp_eq (tgt := 574) hx hb dL_law_289 (by decide) (fun c_289 => ?_) (fun c_289 => absurd (rfl) c_289)
  refine W.widen (k := 4 + (t + 1)) (n := 20074 + 1024 * (t + 1)) (by omega) (by omega) ?_
  exact K ks oc u g H locs hG hR hoc (by omega) hK hP hD hS
set_option maxHeartbeats 4000000 in
set_option maxRecDepth 100000 in
/-- the law at a call of different -/
theorem zl_different {p : Program} {l : Launch} {e : Env} {s : State} {m : MethodId} {below : List Frame} {meth : Method} {c : Code} {dC : Nat → ClassId} {dI : Nat → Nat → Nat} {b L : Nat} {xs : Nat → Int32} (C0 : lw_At p s m meth c b L xs) {q0 r0 ma : Nat} {cB : ClassId} {o : Nat} (ho : o < 6) {t : Nat} (ht : t < 512) (hiL : 1 + 5 * t + 5 ≤ L) (hL : L ≤ 2561) {ks : List Nat} {oc : Option Nat} {u : zx_S} {g : Nat → Int64} {H : Heap} {locs : List Loc} (hG : zk_G ks u.2.2.1 u.2.2.2) (hR : zk_R ks g) (hoc : ∀ z, oc = some z → z < 1152921504606846976) (hlen : ks.length ≤ t) (hK : va_K (dC, dI) vwCl [(u.2.1, .long), (cB, .long)] s) (hP : va_P (dC, dI) vwCl (zl_w q0 u r0 ma cB g o ks (zk_o oc)) H) (hD : va_D (fun q : Nat => s.heap.size ≤ q) (zl_w q0 u r0 ma cB g o ks (zk_o oc))) (hS : va_S (fun q : Nat => s.heap.size ≤ q) s.heap H locs) {ls : Array Slot} (hl : lv_has ls 4 [(3, .int (nI (1 + 5 * t))), (2, .ref r0), (1, .ref q0), (0, .ref b)]) (K : zl_K p l e s m below meth c dC dI b q0 r0 ma cB o t ls) : W p l e room_1 s m #[Value.ref b] below meth c H locs (4 + t) (20074 + 1024 * t) (lw_Z below #[Value.ref b] s) (F0 m 294 ls []) := by
  obtain ⟨hx, hb, hr, hml, hown, hts, hX, hbl, hlocks, hgv⟩ := C0
  have hA : ∀ q : Nat, s.heap.size ≤ q → (fun q : Nat => s.heap.size ≤ q) q := fun _ h => h
  have hbA : ¬ (fun q : Nat => s.heap.size ≤ q) b := Nat.not_le.mpr hbl
  have hown : s.vm.findClass RL = some m.cls := hown
  have htsL : ∀ w ∈ wsL_law, w.before #[Value.ref b] s = true := fun w h => hts w (wsL_law_in w h)
  have hPx := hP.sub (ws' := zx_wu q0 (nI (zk_px o)) (nI (zk_py o)) (nI (zk_pz o)) ks (zk_o oc) u) [0, 1] rfl
  have hKx := hK.sub (tys' := [(u.2.1, .long)]) [0] rfl
  have hPy := hP.sub (ws' := zy_w r0 ma cB g o ks.length (zk_o oc)) [2, 3] rfl
  have hKy := hK.sub (tys' := [(cB, .long)]) [1] rfl
  have hr1 : 4 + t + 0 ≤ room_1.cells ∧ 20074 + 1024 * t + 0 ≤ room_1.slots := ⟨by show 4 + t + 0 ≤ 600000; omega, by show 20074 + 1024 * t + 0 ≤ 7302250; omega⟩
  obtain ⟨x1, ex1⟩ : ∃ y : Int32, y = xs (1 + 5 * t + 1) := ⟨_, rfl⟩
  obtain ⟨x2, ex2⟩ : ∃ y : Int32, y = xs (1 + 5 * t + 2) := ⟨_, rfl⟩
  obtain ⟨x3, ex3⟩ : ∃ y : Int32, y = xs (1 + 5 * t + 3) := ⟨_, rfl⟩
  refine lv_aload_n hx hb dL_law_294 rfl (lv_at hl 2 rfl) ?_
  refine lv_aload_n hx hb dL_law_295 rfl (lv_at hl 3 rfl) ?_
  refine lv_iload_n hx hb dL_law_296 rfl (lv_at hl 0 rfl) ?_
  refine lv_iconst (v := 1) hx hb dL_law_297 (by decide) ?_
  refine lv_iadd hx hb dL_law_298 ?_
  refine zw_eqi (y := nI (1 + 5 * t + 1)) (nI_add _ 1) ?_
  refine va_sld hx hb hX hbl hbA hS (pk_in (1 + 5 * t + 1) L (by omega) rfl (by omega)) dL_law_299 ?_
  refine zw_eqi (y := x1) (by rw [nI_clamp (by omega), ex1]) ?_
  refine lv_aload_n hx hb dL_law_300 rfl (lv_at hl 3 rfl) ?_
  refine lv_iload_n hx hb dL_law_301 rfl (lv_at hl 0 rfl) ?_
  refine lv_iconst (v := 2) hx hb dL_law_302 (by decide) ?_
  refine lv_iadd hx hb dL_law_303 ?_
  refine zw_eqi (y := nI (1 + 5 * t + 2)) (nI_add _ 2) ?_
  refine va_sld hx hb hX hbl hbA hS (pk_in (1 + 5 * t + 2) L (by omega) rfl (by omega)) dL_law_304 ?_
  refine zw_eqi (y := x2) (by rw [nI_clamp (by omega), ex2]) ?_
  refine lv_aload_n hx hb dL_law_305 rfl (lv_at hl 3 rfl) ?_
  refine lv_iload_n hx hb dL_law_306 rfl (lv_at hl 0 rfl) ?_
  refine lv_iconst (v := 3) hx hb dL_law_307 (by decide) ?_
  refine lv_iadd hx hb dL_law_308 ?_
  refine zw_eqi (y := nI (1 + 5 * t + 3)) (nI_add _ 3) ?_
  refine va_sld hx hb hX hbl hbA hS (pk_in (1 + 5 * t + 3) L (by omega) rfl (by omega)) dL_law_309 ?_
  refine zw_eqi (y := x3) (by rw [nI_clamp (by omega), ex3]) ?_
  refine zw_ci (r := zs_dif ks x1 x2 x3) (va_runV (As := [.int x1, .int x2, .int x3]) (rest := []) ⟨hx, hb, hml, hown, htsL⟩ (zc_different l dC dI q0 u.1 u.2.1 u.2.2.1 u.2.2.2 (nI (zk_px o)) (nI (zk_py o)) (nI (zk_pz o)) ks (zk_o oc) x1 x2 x3 hG) (cwV 3 htsL gL_law_X0_different rfl rfl rfl (by decide +kernel) ⟨Nat.le_of_ble_eq_true rfl, Nat.le_of_ble_eq_true rfl⟩) (zw_preV (ci := 0) (q0 := 0) hPx hKx rfl rfl) rfl rfl hl.1 rfl (lv_room (Nat.le_of_ble_eq_true rfl)) dL_law_310 hr1) ?_
  refine lv_aload_n hx hb dL_law_313 rfl (lv_at hl 1 rfl) ?_
  refine lv_aload_n hx hb dL_law_314 rfl (lv_at hl 3 rfl) ?_
  refine lv_iload_n hx hb dL_law_315 rfl (lv_at hl 0 rfl) ?_
  refine lv_iconst (v := 1) hx hb dL_law_316 (by decide) ?_
  refine lv_iadd hx hb dL_law_317 ?_
  refine zw_eqi (y := nI (1 + 5 * t + 1)) (nI_add _ 1) ?_
  refine va_sld hx hb hX hbl hbA hS (pk_in (1 + 5 * t + 1) L (by omega) rfl (by omega)) dL_law_318 ?_
  refine zw_eqi (y := x1) (by rw [nI_clamp (by omega), ex1]) ?_
  refine lv_aload_n hx hb dL_law_319 rfl (lv_at hl 3 rfl) ?_
  refine lv_iload_n hx hb dL_law_320 rfl (lv_at hl 0 rfl) ?_
  refine lv_iconst (v := 2) hx hb dL_law_321 (by decide) ?_
  refine lv_iadd hx hb dL_law_322 ?_
  refine zw_eqi (y := nI (1 + 5 * t + 2)) (nI_add _ 2) ?_
  refine va_sld hx hb hX hbl hbA hS (pk_in (1 + 5 * t + 2) L (by omega) rfl (by omega)) dL_law_323 ?_
  refine zw_eqi (y := x2) (by rw [nI_clamp (by omega), ex2]) ?_
  refine lv_aload_n hx hb dL_law_324 rfl (lv_at hl 3 rfl) ?_
  refine lv_iload_n hx hb dL_law_325 rfl (lv_at hl 0 rfl) ?_
  refine lv_iconst (v := 3) hx hb dL_law_326 (by decide) ?_
  refine lv_iadd hx hb dL_law_327 ?_
  refine zw_eqi (y := nI (1 + 5 * t + 3)) (nI_add _ 3) ?_
  refine va_sld hx hb hX hbl hbA hS (pk_in (1 + 5 * t + 3) L (by omega) rfl (by omega)) dL_law_328 ?_
  refine zw_eqi (y := x3) (by rw [nI_clamp (by omega), ex3]) ?_
  refine zw_ci (r := zs_dif ks x1 x2 x3) (va_runV (As := [.int x1, .int x2, .int x3]) (rest := [.int (zs_dif ks x1 x2 x3)]) ⟨hx, hb, hml, hown, hts⟩ (zd_different l dC dI r0 ma cB g o ks (zk_o oc) x1 x2 x3 hR) (cwV 3 hts gL_law_X1_different rfl rfl rfl (by decide +kernel) ⟨Nat.le_of_ble_eq_true rfl, Nat.le_of_ble_eq_true rfl⟩) (zw_preV (ci := 1) (q0 := 0) hPy hKy rfl rfl) rfl rfl hl.1 rfl (lv_room (Nat.le_of_ble_eq_true rfl)) dL_law_329 hr1) ?_
  refine lv_icmp_eq (tgt := 574) hx hb dL_law_332 (by decide) (fun c_332 => ?_) (fun c_332 => absurd (rfl) c_332)
  refine W.widen (k := 4 + (t + 1)) (n := 20074 + 1024 * (t + 1)) (by omega) (by omega) ?_
  exact K ks oc u g H locs hG hR hoc (by omega) hK hP hD hS
set_option maxHeartbeats 4000000 in
set_option maxRecDepth 100000 in
/-- the law at a call of rank -/
theorem zl_rank {p : Program} {l : Launch} {e : Env} {s : State} {m : MethodId} {below : List Frame} {meth : Method} {c : Code} {dC : Nat → ClassId} {dI : Nat → Nat → Nat} {b L : Nat} {xs : Nat → Int32} (C0 : lw_At p s m meth c b L xs) {q0 r0 ma : Nat} {cB : ClassId} {o : Nat} (ho : o < 6) {t : Nat} (ht : t < 512) (hiL : 1 + 5 * t + 5 ≤ L) (hL : L ≤ 2561) {ks : List Nat} {oc : Option Nat} {u : zx_S} {g : Nat → Int64} {H : Heap} {locs : List Loc} (hG : zk_G ks u.2.2.1 u.2.2.2) (hR : zk_R ks g) (hoc : ∀ z, oc = some z → z < 1152921504606846976) (hlen : ks.length ≤ t) (hK : va_K (dC, dI) vwCl [(u.2.1, .long), (cB, .long)] s) (hP : va_P (dC, dI) vwCl (zl_w q0 u r0 ma cB g o ks (zk_o oc)) H) (hD : va_D (fun q : Nat => s.heap.size ≤ q) (zl_w q0 u r0 ma cB g o ks (zk_o oc))) (hS : va_S (fun q : Nat => s.heap.size ≤ q) s.heap H locs) {ls : Array Slot} (hl : lv_has ls 4 [(3, .int (nI (1 + 5 * t))), (2, .ref r0), (1, .ref q0), (0, .ref b)]) (K : zl_K p l e s m below meth c dC dI b q0 r0 ma cB o t ls) : W p l e room_1 s m #[Value.ref b] below meth c H locs (4 + t) (20074 + 1024 * t) (lw_Z below #[Value.ref b] s) (F0 m 337 ls []) := by
  obtain ⟨hx, hb, hr, hml, hown, hts, hX, hbl, hlocks, hgv⟩ := C0
  have hA : ∀ q : Nat, s.heap.size ≤ q → (fun q : Nat => s.heap.size ≤ q) q := fun _ h => h
  have hbA : ¬ (fun q : Nat => s.heap.size ≤ q) b := Nat.not_le.mpr hbl
  have hown : s.vm.findClass RL = some m.cls := hown
  have htsL : ∀ w ∈ wsL_law, w.before #[Value.ref b] s = true := fun w h => hts w (wsL_law_in w h)
  have hPx := hP.sub (ws' := zx_wu q0 (nI (zk_px o)) (nI (zk_py o)) (nI (zk_pz o)) ks (zk_o oc) u) [0, 1] rfl
  have hKx := hK.sub (tys' := [(u.2.1, .long)]) [0] rfl
  have hPy := hP.sub (ws' := zy_w r0 ma cB g o ks.length (zk_o oc)) [2, 3] rfl
  have hKy := hK.sub (tys' := [(cB, .long)]) [1] rfl
  have hr1 : 4 + t + 0 ≤ room_1.cells ∧ 20074 + 1024 * t + 0 ≤ room_1.slots := ⟨by show 4 + t + 0 ≤ 600000; omega, by show 20074 + 1024 * t + 0 ≤ 7302250; omega⟩
  obtain ⟨x1, ex1⟩ : ∃ y : Int32, y = xs (1 + 5 * t + 1) := ⟨_, rfl⟩
  obtain ⟨x2, ex2⟩ : ∃ y : Int32, y = xs (1 + 5 * t + 2) := ⟨_, rfl⟩
  obtain ⟨x3, ex3⟩ : ∃ y : Int32, y = xs (1 + 5 * t + 3) := ⟨_, rfl⟩
  obtain ⟨k, hk0, hk1⟩ := zl_pk x1 x2 x3
  refine lv_aload_n hx hb dL_law_337 rfl (lv_at hl 2 rfl) ?_
  refine lv_aload_n hx hb dL_law_338 rfl (lv_at hl 3 rfl) ?_
  refine lv_iload_n hx hb dL_law_339 rfl (lv_at hl 0 rfl) ?_
  refine lv_iconst (v := 1) hx hb dL_law_340 (by decide) ?_
  refine lv_iadd hx hb dL_law_341 ?_
  refine zw_eqi (y := nI (1 + 5 * t + 1)) (nI_add _ 1) ?_
  refine va_sld hx hb hX hbl hbA hS (pk_in (1 + 5 * t + 1) L (by omega) rfl (by omega)) dL_law_342 ?_
  refine zw_eqi (y := x1) (by rw [nI_clamp (by omega), ex1]) ?_
  refine lv_aload_n hx hb dL_law_343 rfl (lv_at hl 3 rfl) ?_
  refine lv_iload_n hx hb dL_law_344 rfl (lv_at hl 0 rfl) ?_
  refine lv_iconst (v := 2) hx hb dL_law_345 (by decide) ?_
  refine lv_iadd hx hb dL_law_346 ?_
  refine zw_eqi (y := nI (1 + 5 * t + 2)) (nI_add _ 2) ?_
  refine va_sld hx hb hX hbl hbA hS (pk_in (1 + 5 * t + 2) L (by omega) rfl (by omega)) dL_law_347 ?_
  refine zw_eqi (y := x2) (by rw [nI_clamp (by omega), ex2]) ?_
  refine lv_aload_n hx hb dL_law_348 rfl (lv_at hl 3 rfl) ?_
  refine lv_iload_n hx hb dL_law_349 rfl (lv_at hl 0 rfl) ?_
  refine lv_iconst (v := 3) hx hb dL_law_350 (by decide) ?_
  refine lv_iadd hx hb dL_law_351 ?_
  refine zw_eqi (y := nI (1 + 5 * t + 3)) (nI_add _ 3) ?_
  refine va_sld hx hb hX hbl hbA hS (pk_in (1 + 5 * t + 3) L (by omega) rfl (by omega)) dL_law_352 ?_
  refine zw_eqi (y := x3) (by rw [nI_clamp (by omega), ex3]) ?_
  refine zw_ci (r := if zf_nn x1 x2 x3 then nI (zk_c ks k) else -1) (va_runV (As := [.int x1, .int x2, .int x3]) (rest := []) ⟨hx, hb, hml, hown, htsL⟩ (zc_rank l dC dI q0 u.1 u.2.1 u.2.2.1 u.2.2.2 (nI (zk_px o)) (nI (zk_py o)) (nI (zk_pz o)) ks (zk_o oc) x1 x2 x3 k hk0 hG) (cwV 3 htsL gL_law_X0_rank rfl rfl rfl (by decide +kernel) ⟨Nat.le_of_ble_eq_true rfl, Nat.le_of_ble_eq_true rfl⟩) (zw_preV (ci := 0) (q0 := 0) hPx hKx rfl rfl) rfl rfl hl.1 rfl (lv_room (Nat.le_of_ble_eq_true rfl)) dL_law_353 hr1) ?_
  refine lv_aload_n hx hb dL_law_356 rfl (lv_at hl 1 rfl) ?_
  refine lv_aload_n hx hb dL_law_357 rfl (lv_at hl 3 rfl) ?_
  refine lv_iload_n hx hb dL_law_358 rfl (lv_at hl 0 rfl) ?_
  refine lv_iconst (v := 1) hx hb dL_law_359 (by decide) ?_
  refine lv_iadd hx hb dL_law_360 ?_
  refine zw_eqi (y := nI (1 + 5 * t + 1)) (nI_add _ 1) ?_
  refine va_sld hx hb hX hbl hbA hS (pk_in (1 + 5 * t + 1) L (by omega) rfl (by omega)) dL_law_361 ?_
  refine zw_eqi (y := x1) (by rw [nI_clamp (by omega), ex1]) ?_
  refine lv_aload_n hx hb dL_law_362 rfl (lv_at hl 3 rfl) ?_
  refine lv_iload_n hx hb dL_law_363 rfl (lv_at hl 0 rfl) ?_
  refine lv_iconst (v := 2) hx hb dL_law_364 (by decide) ?_
  refine lv_iadd hx hb dL_law_365 ?_
  refine zw_eqi (y := nI (1 + 5 * t + 2)) (nI_add _ 2) ?_
  refine va_sld hx hb hX hbl hbA hS (pk_in (1 + 5 * t + 2) L (by omega) rfl (by omega)) dL_law_366 ?_
  refine zw_eqi (y := x2) (by rw [nI_clamp (by omega), ex2]) ?_
  refine lv_aload_n hx hb dL_law_367 rfl (lv_at hl 3 rfl) ?_
  refine lv_iload_n hx hb dL_law_368 rfl (lv_at hl 0 rfl) ?_
  refine lv_iconst (v := 3) hx hb dL_law_369 (by decide) ?_
  refine lv_iadd hx hb dL_law_370 ?_
  refine zw_eqi (y := nI (1 + 5 * t + 3)) (nI_add _ 3) ?_
  refine va_sld hx hb hX hbl hbA hS (pk_in (1 + 5 * t + 3) L (by omega) rfl (by omega)) dL_law_371 ?_
  refine zw_eqi (y := x3) (by rw [nI_clamp (by omega), ex3]) ?_
  refine zw_ci (r := if zf_nn x1 x2 x3 then nI (zk_c ks k) else -1) (va_runV (As := [.int x1, .int x2, .int x3]) (rest := [.int (if zf_nn x1 x2 x3 then nI (zk_c ks k) else -1)]) ⟨hx, hb, hml, hown, hts⟩ (zd_rank l dC dI r0 ma cB g o ks (zk_o oc) x1 x2 x3 k hk1 hR) (cwV 3 hts gL_law_X1_rank rfl rfl rfl (by decide +kernel) ⟨Nat.le_of_ble_eq_true rfl, Nat.le_of_ble_eq_true rfl⟩) (zw_preV (ci := 1) (q0 := 0) hPy hKy rfl rfl) rfl rfl hl.1 rfl (lv_room (Nat.le_of_ble_eq_true rfl)) dL_law_372 hr1) ?_
  refine lv_icmp_eq (tgt := 574) hx hb dL_law_375 (by decide) (fun c_375 => ?_) (fun c_375 => absurd (rfl) c_375)
  refine W.widen (k := 4 + (t + 1)) (n := 20074 + 1024 * (t + 1)) (by omega) (by omega) ?_
  exact K ks oc u g H locs hG hR hoc (by omega) hK hP hD hS
set_option maxHeartbeats 4000000 in
set_option maxRecDepth 100000 in
/-- the law at a call of told -/
theorem zl_told {p : Program} {l : Launch} {e : Env} {s : State} {m : MethodId} {below : List Frame} {meth : Method} {c : Code} {dC : Nat → ClassId} {dI : Nat → Nat → Nat} {b L : Nat} {xs : Nat → Int32} (C0 : lw_At p s m meth c b L xs) {q0 r0 ma : Nat} {cB : ClassId} {o : Nat} (ho : o < 6) {t : Nat} (ht : t < 512) (hiL : 1 + 5 * t + 5 ≤ L) (hL : L ≤ 2561) {ks : List Nat} {oc : Option Nat} {u : zx_S} {g : Nat → Int64} {H : Heap} {locs : List Loc} (hG : zk_G ks u.2.2.1 u.2.2.2) (hR : zk_R ks g) (hoc : ∀ z, oc = some z → z < 1152921504606846976) (hlen : ks.length ≤ t) (hK : va_K (dC, dI) vwCl [(u.2.1, .long), (cB, .long)] s) (hP : va_P (dC, dI) vwCl (zl_w q0 u r0 ma cB g o ks (zk_o oc)) H) (hD : va_D (fun q : Nat => s.heap.size ≤ q) (zl_w q0 u r0 ma cB g o ks (zk_o oc))) (hS : va_S (fun q : Nat => s.heap.size ≤ q) s.heap H locs) {ls : Array Slot} (hl : lv_has ls 4 [(3, .int (nI (1 + 5 * t))), (2, .ref r0), (1, .ref q0), (0, .ref b)]) (K : zl_K p l e s m below meth c dC dI b q0 r0 ma cB o t ls) : W p l e room_1 s m #[Value.ref b] below meth c H locs (4 + t) (20074 + 1024 * t) (lw_Z below #[Value.ref b] s) (F0 m 472 ls []) := by
  obtain ⟨hx, hb, hr, hml, hown, hts, hX, hbl, hlocks, hgv⟩ := C0
  have hA : ∀ q : Nat, s.heap.size ≤ q → (fun q : Nat => s.heap.size ≤ q) q := fun _ h => h
  have hbA : ¬ (fun q : Nat => s.heap.size ≤ q) b := Nat.not_le.mpr hbl
  have hown : s.vm.findClass RL = some m.cls := hown
  have htsL : ∀ w ∈ wsL_law, w.before #[Value.ref b] s = true := fun w h => hts w (wsL_law_in w h)
  have hPx := hP.sub (ws' := zx_wu q0 (nI (zk_px o)) (nI (zk_py o)) (nI (zk_pz o)) ks (zk_o oc) u) [0, 1] rfl
  have hKx := hK.sub (tys' := [(u.2.1, .long)]) [0] rfl
  have hPy := hP.sub (ws' := zy_w r0 ma cB g o ks.length (zk_o oc)) [2, 3] rfl
  have hKy := hK.sub (tys' := [(cB, .long)]) [1] rfl
  have hr1 : 4 + t + 0 ≤ room_1.cells ∧ 20074 + 1024 * t + 0 ≤ room_1.slots := ⟨by show 4 + t + 0 ≤ 600000; omega, by show 20074 + 1024 * t + 0 ≤ 7302250; omega⟩
  obtain ⟨x1, ex1⟩ : ∃ y : Int32, y = xs (1 + 5 * t + 1) := ⟨_, rfl⟩
  obtain ⟨k, hk0, hk1⟩ := zl_cur hoc
  refine lv_aload_n hx hb dL_law_472 rfl (lv_at hl 2 rfl) ?_
  refine lv_aload_n hx hb dL_law_473 rfl (lv_at hl 3 rfl) ?_
  refine lv_iload_n hx hb dL_law_474 rfl (lv_at hl 0 rfl) ?_
  refine lv_iconst (v := 1) hx hb dL_law_475 (by decide) ?_
  refine lv_iadd hx hb dL_law_476 ?_
  refine zw_eqi (y := nI (1 + 5 * t + 1)) (nI_add _ 1) ?_
  refine va_sld hx hb hX hbl hbA hS (pk_in (1 + 5 * t + 1) L (by omega) rfl (by omega)) dL_law_477 ?_
  refine zw_eqi (y := x1) (by rw [nI_clamp (by omega), ex1]) ?_
  refine zw_ci (r := zf_told (nI (zk_px o)) (nI (zk_py o)) (nI (zk_pz o)) (zk_o oc) x1) (va_runV (As := [.int x1]) (rest := []) ⟨hx, hb, hml, hown, htsL⟩ (zc_told l dC dI q0 u.1 u.2.1 u.2.2.1 u.2.2.2 (nI (zk_px o)) (nI (zk_py o)) (nI (zk_pz o)) ks (zk_o oc) x1 ) (cwV 1 htsL gL_law_X0_told rfl rfl rfl (by decide +kernel) ⟨Nat.le_of_ble_eq_true rfl, Nat.le_of_ble_eq_true rfl⟩) (zw_preV (ci := 0) (q0 := 0) hPx hKx rfl rfl) rfl rfl hl.1 rfl (lv_room (Nat.le_of_ble_eq_true rfl)) dL_law_478 hr1) ?_
  refine lv_aload_n hx hb dL_law_481 rfl (lv_at hl 1 rfl) ?_
  refine lv_aload_n hx hb dL_law_482 rfl (lv_at hl 3 rfl) ?_
  refine lv_iload_n hx hb dL_law_483 rfl (lv_at hl 0 rfl) ?_
  refine lv_iconst (v := 1) hx hb dL_law_484 (by decide) ?_
  refine lv_iadd hx hb dL_law_485 ?_
  refine zw_eqi (y := nI (1 + 5 * t + 1)) (nI_add _ 1) ?_
  refine va_sld hx hb hX hbl hbA hS (pk_in (1 + 5 * t + 1) L (by omega) rfl (by omega)) dL_law_486 ?_
  refine zw_eqi (y := x1) (by rw [nI_clamp (by omega), ex1]) ?_
  refine zw_ci (r := zf_told (nI (zk_px o)) (nI (zk_py o)) (nI (zk_pz o)) (zk_o oc) x1) (va_runV (As := [.int x1]) (rest := [.int (zf_told (nI (zk_px o)) (nI (zk_py o)) (nI (zk_pz o)) (zk_o oc) x1)]) ⟨hx, hb, hml, hown, hts⟩ (zd_told l dC dI r0 ma cB g o ks (zk_o oc) x1 ho hk1) (cwV 1 hts gL_law_X1_told rfl rfl rfl (by decide +kernel) ⟨Nat.le_of_ble_eq_true rfl, Nat.le_of_ble_eq_true rfl⟩) (zw_preV (ci := 1) (q0 := 0) hPy hKy rfl rfl) rfl rfl hl.1 rfl (lv_room (Nat.le_of_ble_eq_true rfl)) dL_law_487 hr1) ?_
  refine lv_icmp_eq (tgt := 574) hx hb dL_law_490 (by decide) (fun c_490 => ?_) (fun c_490 => absurd (rfl) c_490)
  refine W.widen (k := 4 + (t + 1)) (n := 20074 + 1024 * (t + 1)) (by omega) (by omega) ?_
  exact K ks oc u g H locs hG hR hoc (by omega) hK hP hD hS
set_option maxHeartbeats 4000000 in
set_option maxRecDepth 100000 in
/-- the law at a call of stands -/
theorem zl_stands {p : Program} {l : Launch} {e : Env} {s : State} {m : MethodId} {below : List Frame} {meth : Method} {c : Code} {dC : Nat → ClassId} {dI : Nat → Nat → Nat} {b L : Nat} {xs : Nat → Int32} (C0 : lw_At p s m meth c b L xs) {q0 r0 ma : Nat} {cB : ClassId} {o : Nat} (ho : o < 6) {t : Nat} (ht : t < 512) (hiL : 1 + 5 * t + 5 ≤ L) (hL : L ≤ 2561) {ks : List Nat} {oc : Option Nat} {u : zx_S} {g : Nat → Int64} {H : Heap} {locs : List Loc} (hG : zk_G ks u.2.2.1 u.2.2.2) (hR : zk_R ks g) (hoc : ∀ z, oc = some z → z < 1152921504606846976) (hlen : ks.length ≤ t) (hK : va_K (dC, dI) vwCl [(u.2.1, .long), (cB, .long)] s) (hP : va_P (dC, dI) vwCl (zl_w q0 u r0 ma cB g o ks (zk_o oc)) H) (hD : va_D (fun q : Nat => s.heap.size ≤ q) (zl_w q0 u r0 ma cB g o ks (zk_o oc))) (hS : va_S (fun q : Nat => s.heap.size ≤ q) s.heap H locs) {ls : Array Slot} (hl : lv_has ls 4 [(3, .int (nI (1 + 5 * t))), (2, .ref r0), (1, .ref q0), (0, .ref b)]) (K : zl_K p l e s m below meth c dC dI b q0 r0 ma cB o t ls) : W p l e room_1 s m #[Value.ref b] below meth c H locs (4 + t) (20074 + 1024 * t) (lw_Z below #[Value.ref b] s) (F0 m 495 ls []) := by
  obtain ⟨hx, hb, hr, hml, hown, hts, hX, hbl, hlocks, hgv⟩ := C0
  have hA : ∀ q : Nat, s.heap.size ≤ q → (fun q : Nat => s.heap.size ≤ q) q := fun _ h => h
  have hbA : ¬ (fun q : Nat => s.heap.size ≤ q) b := Nat.not_le.mpr hbl
  have hown : s.vm.findClass RL = some m.cls := hown
  have htsL : ∀ w ∈ wsL_law, w.before #[Value.ref b] s = true := fun w h => hts w (wsL_law_in w h)
  have hPx := hP.sub (ws' := zx_wu q0 (nI (zk_px o)) (nI (zk_py o)) (nI (zk_pz o)) ks (zk_o oc) u) [0, 1] rfl
  have hKx := hK.sub (tys' := [(u.2.1, .long)]) [0] rfl
  have hPy := hP.sub (ws' := zy_w r0 ma cB g o ks.length (zk_o oc)) [2, 3] rfl
  have hKy := hK.sub (tys' := [(cB, .long)]) [1] rfl
  have hr1 : 4 + t + 0 ≤ room_1.cells ∧ 20074 + 1024 * t + 0 ≤ room_1.slots := ⟨by show 4 + t + 0 ≤ 600000; omega, by show 20074 + 1024 * t + 0 ≤ 7302250; omega⟩
  obtain ⟨k, hk0, hk1⟩ := zl_cur hoc
  refine lv_aload_n hx hb dL_law_495 rfl (lv_at hl 2 rfl) ?_
  refine zw_ci (r := if zk_o oc = -1 then 0 else zb_I (decide (k ∈ ks))) (va_runV (As := []) (rest := []) ⟨hx, hb, hml, hown, htsL⟩ (zc_stands l dC dI q0 u.1 u.2.1 u.2.2.1 u.2.2.2 (nI (zk_px o)) (nI (zk_py o)) (nI (zk_pz o)) ks (zk_o oc) k hk0 hG) (cwV 0 htsL gL_law_X0_stands rfl rfl rfl (by decide +kernel) ⟨Nat.le_of_ble_eq_true rfl, Nat.le_of_ble_eq_true rfl⟩) (zw_preV (ci := 0) (q0 := 0) hPx hKx rfl rfl) rfl rfl hl.1 rfl (lv_room (Nat.le_of_ble_eq_true rfl)) dL_law_496 hr1) ?_
  refine lv_aload_n hx hb dL_law_499 rfl (lv_at hl 1 rfl) ?_
  refine zw_ci (r := if zk_o oc = -1 then 0 else zb_I (decide (k ∈ ks))) (va_runV (As := []) (rest := [.int (if zk_o oc = -1 then 0 else zb_I (decide (k ∈ ks)))]) ⟨hx, hb, hml, hown, hts⟩ (zd_stands l dC dI r0 ma cB g o ks (zk_o oc) k hk0 hR) (cwV 0 hts gL_law_X1_stands rfl rfl rfl (by decide +kernel) ⟨Nat.le_of_ble_eq_true rfl, Nat.le_of_ble_eq_true rfl⟩) (zw_preV (ci := 1) (q0 := 0) hPy hKy rfl rfl) rfl rfl hl.1 rfl (lv_room (Nat.le_of_ble_eq_true rfl)) dL_law_500 hr1) ?_
  refine lv_icmp_eq (tgt := 574) hx hb dL_law_503 (by decide) (fun c_503 => ?_) (fun c_503 => absurd (rfl) c_503)
  refine W.widen (k := 4 + (t + 1)) (n := 20074 + 1024 * (t + 1)) (by omega) (by omega) ?_
  exact K ks oc u g H locs hG hR hoc (by omega) hK hP hD hS
set_option maxHeartbeats 4000000 in
set_option maxRecDepth 100000 in
/-- the law at a call of size -/
theorem zl_size {p : Program} {l : Launch} {e : Env} {s : State} {m : MethodId} {below : List Frame} {meth : Method} {c : Code} {dC : Nat → ClassId} {dI : Nat → Nat → Nat} {b L : Nat} {xs : Nat → Int32} (C0 : lw_At p s m meth c b L xs) {q0 r0 ma : Nat} {cB : ClassId} {o : Nat} (ho : o < 6) {t : Nat} (ht : t < 512) (hiL : 1 + 5 * t + 5 ≤ L) (hL : L ≤ 2561) {ks : List Nat} {oc : Option Nat} {u : zx_S} {g : Nat → Int64} {H : Heap} {locs : List Loc} (hG : zk_G ks u.2.2.1 u.2.2.2) (hR : zk_R ks g) (hoc : ∀ z, oc = some z → z < 1152921504606846976) (hlen : ks.length ≤ t) (hK : va_K (dC, dI) vwCl [(u.2.1, .long), (cB, .long)] s) (hP : va_P (dC, dI) vwCl (zl_w q0 u r0 ma cB g o ks (zk_o oc)) H) (hD : va_D (fun q : Nat => s.heap.size ≤ q) (zl_w q0 u r0 ma cB g o ks (zk_o oc))) (hS : va_S (fun q : Nat => s.heap.size ≤ q) s.heap H locs) {ls : Array Slot} (hl : lv_has ls 4 [(3, .int (nI (1 + 5 * t))), (2, .ref r0), (1, .ref q0), (0, .ref b)]) (K : zl_K p l e s m below meth c dC dI b q0 r0 ma cB o t ls) : W p l e room_1 s m #[Value.ref b] below meth c H locs (4 + t) (20074 + 1024 * t) (lw_Z below #[Value.ref b] s) (F0 m 508 ls []) := by
  obtain ⟨hx, hb, hr, hml, hown, hts, hX, hbl, hlocks, hgv⟩ := C0
  have hA : ∀ q : Nat, s.heap.size ≤ q → (fun q : Nat => s.heap.size ≤ q) q := fun _ h => h
  have hbA : ¬ (fun q : Nat => s.heap.size ≤ q) b := Nat.not_le.mpr hbl
  have hown : s.vm.findClass RL = some m.cls := hown
  have htsL : ∀ w ∈ wsL_law, w.before #[Value.ref b] s = true := fun w h => hts w (wsL_law_in w h)
  have hPx := hP.sub (ws' := zx_wu q0 (nI (zk_px o)) (nI (zk_py o)) (nI (zk_pz o)) ks (zk_o oc) u) [0, 1] rfl
  have hKx := hK.sub (tys' := [(u.2.1, .long)]) [0] rfl
  have hPy := hP.sub (ws' := zy_w r0 ma cB g o ks.length (zk_o oc)) [2, 3] rfl
  have hKy := hK.sub (tys' := [(cB, .long)]) [1] rfl
  have hr1 : 4 + t + 0 ≤ room_1.cells ∧ 20074 + 1024 * t + 0 ≤ room_1.slots := ⟨by show 4 + t + 0 ≤ 600000; omega, by show 20074 + 1024 * t + 0 ≤ 7302250; omega⟩
  refine lv_aload_n hx hb dL_law_508 rfl (lv_at hl 2 rfl) ?_
  refine zw_ci (r := nI ks.length) (va_runV (As := []) (rest := []) ⟨hx, hb, hml, hown, htsL⟩ (zc_size l dC dI q0 u.1 u.2.1 u.2.2.1 u.2.2.2 (nI (zk_px o)) (nI (zk_py o)) (nI (zk_pz o)) ks (zk_o oc) ) (cwV 0 htsL gL_law_X0_size rfl rfl rfl (by decide +kernel) ⟨Nat.le_of_ble_eq_true rfl, Nat.le_of_ble_eq_true rfl⟩) (zw_preV (ci := 0) (q0 := 0) hPx hKx rfl rfl) rfl rfl hl.1 rfl (lv_room (Nat.le_of_ble_eq_true rfl)) dL_law_509 hr1) ?_
  refine lv_aload_n hx hb dL_law_512 rfl (lv_at hl 1 rfl) ?_
  refine zw_ci (r := nI ks.length) (va_runV (As := []) (rest := [.int (nI ks.length)]) ⟨hx, hb, hml, hown, hts⟩ (zd_size l dC dI r0 ma cB g o ks (zk_o oc) ) (cwV 0 hts gL_law_X1_size rfl rfl rfl (by decide +kernel) ⟨Nat.le_of_ble_eq_true rfl, Nat.le_of_ble_eq_true rfl⟩) (zw_preV (ci := 1) (q0 := 0) hPy hKy rfl rfl) rfl rfl hl.1 rfl (lv_room (Nat.le_of_ble_eq_true rfl)) dL_law_513 hr1) ?_
  refine lv_icmp_eq (tgt := 574) hx hb dL_law_516 (by decide) (fun c_516 => ?_) (fun c_516 => absurd (rfl) c_516)
  refine W.widen (k := 4 + (t + 1)) (n := 20074 + 1024 * (t + 1)) (by omega) (by omega) ?_
  exact K ks oc u g H locs hG hR hoc (by omega) hK hP hD hS
