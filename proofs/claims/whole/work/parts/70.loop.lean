/-! Own rows: the law's loop and its entry -/
theorem zl_cmp {L i : Nat} (hL : L ≤ 2561) (hi : i ≤ 4000) : nI L - 5 < nI i ↔ L < i + 5 := by
  have h := pk_sub_toInt (a := L) (b := 5) (by omega) (by omega)
  rw [Int32.lt_iff_toInt_lt, show (5 : Int32) = nI 5 from rfl, h, nI_toInt (by omega)]
  omega
set_option maxHeartbeats 4000000 in
set_option maxRecDepth 100000 in
/-- THE LAW'S LOOP: behind t calls, both objects hold the keys ks, their cursors stand at oc -/
theorem zl_loop {p : Program} {l : Launch} {e : Env} {s : State} {m : MethodId} {below : List Frame} {meth : Method} {c : Code} {dC : Nat → ClassId} {dI : Nat → Nat → Nat} {b L : Nat} {xs : Nat → Int32} (hL : L ≤ 2561) (C0 : lw_At p s m meth c b L xs) {q0 r0 ma : Nat} {cB : ClassId} {o : Nat} (ho : o < 6) :
    ∀ (n t : Nat), t ≤ 512 → L < 1 + 5 * t + 5 * n → ∀ (ks : List Nat) (oc : Option Nat) (u : zx_S) (g : Nat → Int64) (H : Heap) (locs : List Loc), zk_G ks u.2.2.1 u.2.2.2 → zk_R ks g → (∀ z, oc = some z → z < 1152921504606846976) → ks.length ≤ t → va_K (dC, dI) vwCl [(u.2.1, .long), (cB, .long)] s → va_P (dC, dI) vwCl (zl_w q0 u r0 ma cB g o ks (zk_o oc)) H → va_D (fun q : Nat => s.heap.size ≤ q) (zl_w q0 u r0 ma cB g o ks (zk_o oc)) → va_S (fun q : Nat => s.heap.size ≤ q) s.heap H locs → ∀ ls : Array Slot, lv_has ls 4 [(3, .int (nI (1 + 5 * t))), (2, .ref r0), (1, .ref q0), (0, .ref b)] → W p l e room_1 s m #[Value.ref b] below meth c H locs (4 + t) (20074 + 1024 * t) (lw_Z below #[Value.ref b] s) (F0 m 28 ls []) := by
  obtain ⟨hx, hb, hr, hml, hown, hts, hX, hbl, hlocks, hgv⟩ := id C0
  have hbA : ¬ (fun q : Nat => s.heap.size ≤ q) b := Nat.not_le.mpr hbl
  have STOP : ∀ (t : Nat) (H : Heap) (locs : List Loc) (ls : Array Slot), t ≤ 512 → va_S (fun q : Nat => s.heap.size ≤ q) s.heap H locs → W p l e room_1 s m #[Value.ref b] below meth c H locs (4 + t) (20074 + 1024 * t) (lw_Z below #[Value.ref b] s) (F0 m 580 ls []) := by
    intro t H locs ls ht hS
    refine lv_iconst (v := 1) hx hb dL_law_580 (by decide) ?_
    refine va_forget (fun q hq => hS.2.2 q hq) ?_
    refine W.widen (k := 600000) (n := 7302250) (by omega) (by omega) ?_
    exact lw_ret hx hb hr hlocks dL_law_581
  intro n
  induction n with
  | zero =>
    intro t ht hn ks oc u g H locs hG hR hoc hlen hK hP hD hS ls hl
    refine lv_iload_n hx hb dL_law_28 rfl (lv_at hl 0 rfl) ?_
    refine lv_aload_n hx hb dL_law_29 rfl (lv_at hl 3 rfl) ?_
    refine va_slen hx hb hX hbl hbA hS dL_law_30 ?_
    refine lv_iconst (v := 5) hx hb dL_law_31 (by decide) ?_
    refine lv_isub hx hb dL_law_32 ?_
    refine lv_icmp_gt (tgt := 580) hx hb dL_law_33 (by decide) (fun c_33 => ?_) (fun c_33 => absurd ((zl_cmp hL (by omega)).mpr (by omega)) c_33)
    exact STOP t H locs ls ht hS
  | succ n ih =>
    intro t ht hn ks oc u g H locs hG hR hoc hlen hK hP hD hS ls hl
    refine lv_iload_n hx hb dL_law_28 rfl (lv_at hl 0 rfl) ?_
    refine lv_aload_n hx hb dL_law_29 rfl (lv_at hl 3 rfl) ?_
    refine va_slen hx hb hX hbl hbA hS dL_law_30 ?_
    refine lv_iconst (v := 5) hx hb dL_law_31 (by decide) ?_
    refine lv_isub hx hb dL_law_32 ?_
    refine lv_icmp_gt (tgt := 580) hx hb dL_law_33 (by decide) (fun c_33 => ?_) (fun c_33 => ?_)
    · exact STOP t H locs ls ht hS
    · have hiL : 1 + 5 * t + 5 ≤ L := Nat.le_of_not_lt (fun q => c_33 ((zl_cmp hL (by omega)).mpr q))
      have ht2 : t < 512 := by omega
      have K : zl_K p l e s m below meth c dC dI b q0 r0 ma cB o t ls := by
        intro ks2 oc2 u2 g2 H2 locs2 hG2 hR2 hoc2 hlen2 hK2 hP2 hD2 hS2
        refine lv_iinc (v := nI (1 + 5 * (t + 1))) (lv' := [(3, .int (nI (1 + 5 * (t + 1)))), (2, .ref r0), (1, .ref q0), (0, .ref b)]) hx hb dL_law_574 hl (k := 0) rfl (nI_add _ 5) (by decide) rfl (fun ls hl => ?_)
        refine lv_goto (tgt := 28) hx hb dL_law_577 (by decide) ?_
        exact ih (t + 1) (by omega) (by omega) ks2 oc2 u2 g2 H2 locs2 hG2 hR2 hoc2 hlen2 hK2 hP2 hD2 hS2 ls hl
      refine lv_aload_n hx hb dL_law_36 rfl (lv_at hl 3 rfl) ?_
      refine lv_iload_n hx hb dL_law_37 rfl (lv_at hl 0 rfl) ?_
      refine va_sld hx hb hX hbl hbA hS (pk_in (1 + 5 * t) L (by omega) rfl (by omega)) dL_law_38 ?_
      refine lv_bipush (v := 15) hx hb dL_law_39 (by decide) ?_
      refine lv_iand hx hb dL_law_41 ?_
      obtain ⟨j, hj, ej⟩ := pk_andE (xs (nI (1 + 5 * t)).toNatClampNeg) (m := 15) 4 (by decide)
      have hj : j < 16 := hj
      refine zw_eqi (y := nI j) ej ?_
      clear ej
      match j, hj with
      | 0, _ =>
        refine lv_tableIn (tgt := 112) hx hb dL_law_42 (by decide) (by decide) rfl (by decide) ?_
        exact zl_insert C0 ho ht2 hiL hL hG hR hoc hlen hK hP hD hS hl K
      | 1, _ =>
        refine lv_tableIn (tgt := 155) hx hb dL_law_42 (by decide) (by decide) rfl (by decide) ?_
        exact zl_remove C0 ho ht2 hiL hL hG hR hoc hlen hK hP hD hS hl K
      | 2, _ =>
        refine lv_tableIn (tgt := 198) hx hb dL_law_42 (by decide) (by decide) rfl (by decide) ?_
        exact zl_has C0 ho ht2 hiL hL hG hR hoc hlen hK hP hD hS hl K
      | 3, _ =>
        refine lv_tableIn (tgt := 241) hx hb dL_law_42 (by decide) (by decide) rfl (by decide) ?_
        exact zl_count C0 ho ht2 hiL hL hG hR hoc hlen hK hP hD hS hl K
      | 4, _ =>
        refine lv_tableIn (tgt := 294) hx hb dL_law_42 (by decide) (by decide) rfl (by decide) ?_
        exact zl_different C0 ho ht2 hiL hL hG hR hoc hlen hK hP hD hS hl K
      | 5, _ =>
        refine lv_tableIn (tgt := 337) hx hb dL_law_42 (by decide) (by decide) rfl (by decide) ?_
        exact zl_rank C0 ho ht2 hiL hL hG hR hoc hlen hK hP hD hS hl K
      | 6, _ =>
        refine lv_tableIn (tgt := 380) hx hb dL_law_42 (by decide) (by decide) rfl (by decide) ?_
        exact zl_choose C0 ho ht2 hiL hL hG hR hoc hlen hK hP hD hS hl K
      | 7, _ =>
        refine lv_tableIn (tgt := 403) hx hb dL_law_42 (by decide) (by decide) rfl (by decide) ?_
        exact zl_seek C0 ho ht2 hiL hL hG hR hoc hlen hK hP hD hS hl K
      | 8, _ =>
        refine lv_tableIn (tgt := 446) hx hb dL_law_42 (by decide) (by decide) rfl (by decide) ?_
        exact zl_next C0 ho ht2 hiL hL hG hR hoc hlen hK hP hD hS hl K
      | 9, _ =>
        refine lv_tableIn (tgt := 459) hx hb dL_law_42 (by decide) (by decide) rfl (by decide) ?_
        exact zl_previous C0 ho ht2 hiL hL hG hR hoc hlen hK hP hD hS hl K
      | 10, _ =>
        refine lv_tableIn (tgt := 472) hx hb dL_law_42 (by decide) (by decide) rfl (by decide) ?_
        exact zl_told C0 ho ht2 hiL hL hG hR hoc hlen hK hP hD hS hl K
      | 11, _ =>
        refine lv_tableIn (tgt := 495) hx hb dL_law_42 (by decide) (by decide) rfl (by decide) ?_
        exact zl_stands C0 ho ht2 hiL hL hG hR hoc hlen hK hP hD hS hl K
      | 12, _ =>
        refine lv_tableIn (tgt := 508) hx hb dL_law_42 (by decide) (by decide) rfl (by decide) ?_
        exact zl_size C0 ho ht2 hiL hL hG hR hoc hlen hK hP hD hS hl K
      | 13, _ =>
        refine lv_tableIn (tgt := 521) hx hb dL_law_42 (by decide) (by decide) rfl (by decide) ?_
        exact zl_cut C0 ho ht2 hiL hL hG hR hoc hlen hK hP hD hS hl K
      | 14, _ =>
        refine lv_tableOut (tgt := 574) hx hb dL_law_42 (by decide) (by decide) ?_
        refine W.widen (k := 4 + (t + 1)) (n := 20074 + 1024 * (t + 1)) (by omega) (by omega) ?_
        exact K ks oc u g H locs hG hR hoc (by omega) hK hP hD hS
      | 15, _ =>
        refine lv_tableOut (tgt := 574) hx hb dL_law_42 (by decide) (by decide) ?_
        refine W.widen (k := 4 + (t + 1)) (n := 20074 + 1024 * (t + 1)) (by omega) (by omega) ?_
        exact K ks oc u g H locs hG hR hoc (by omega) hK hP hD hS
      | j + 16, hj => exact absurd hj (by omega)
