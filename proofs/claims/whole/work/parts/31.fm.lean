/-! Own rows: the library's methods that the class calls: floorMod, copyOf -/
def zf_fm (v : Int32) : Int32 := if 0 ≤ v ^^^ 6 then v - v / 6 * 6 else if v - v / 6 * 6 = 0 then v - v / 6 * 6 else v - v / 6 * 6 + 6
theorem zf_xor6 (v : Int32) : 0 ≤ v ^^^ 6 ↔ 0 ≤ v := by
  rw [Int32.le_iff_toInt_le, Int32.le_iff_toInt_le]
  have h : (v ^^^ 6).toBitVec.msb = v.toBitVec.msb := by
    rw [Int32.toBitVec_xor, BitVec.msb_xor]
    have e : (6 : Int32).toBitVec.msb = false := by decide
    rw [e, Bool.xor_false]
  rw [BitVec.msb_eq_toInt, BitVec.msb_eq_toInt, decide_eq_decide] at h
  have e0 : (0 : Int32).toInt = 0 := by decide
  have h : (v ^^^ 6).toInt < 0 ↔ v.toInt < 0 := h
  omega
theorem zf_fm_nat (v : Int32) : ∃ o : Nat, o < 6 ∧ zf_fm v = nI o := by
  obtain ⟨o, h1, h2⟩ := fmv_nat (a := v) (m := 6) (by decide)
  have e6 : (6 : Int32).toInt = 6 := by decide
  refine ⟨o, by omega, ?_⟩
  rw [show nI o = Int32.ofNat o from rfl, ← h1]
  have hr := rem_toInt v 6
  rw [e6] at hr
  have hx := zf_xor6 v
  rw [Int32.le_iff_toInt_le (x := 0) (y := v), show (0 : Int32).toInt = 0 by decide] at hx
  unfold zf_fm fmv fmOf
  have e0 : (0 : Int32).toInt = 0 := by decide
  generalize v - v / 6 * 6 = r at hr
  by_cases hv : 0 ≤ v.toInt
  · have h0 : 0 ≤ r := by
      rw [Int32.le_iff_toInt_le, hr, e0]
      exact Int.tmod_nonneg _ hv
    rw [if_pos (hx.mpr hv), if_pos h0]
  · rw [if_neg (fun q => hv (hx.mp q))]
    have hle : r.toInt ≤ 0 := by
      rw [hr]
      have := Int.tmod_nonneg (a := -v.toInt) 6 (by omega)
      rw [Int.neg_tmod] at this
      omega
    by_cases hz : r = 0
    · rw [if_pos hz, if_pos (by rw [hz]; decide)]
    · rw [if_neg hz, if_neg]
      intro q
      rw [Int32.le_iff_toInt_le, e0] at q
      exact hz (Int32.toInt_inj.mp (by rw [e0]; omega))
set_option maxHeartbeats 4000000 in
set_option maxRecDepth 100000 in
/-- floorMod(v, 6) -/
theorem zj_floorMod (l : Launch) (v : Int32) : Met l yJ9_floorMod_7cf53 wsJ9_floorMod_7cf53 ({ frames := 0, cells := 0, slots := 0, locals := 0 }) (fun w9 _ => w9 = ([.int v, .int 6] : List Value).toArray) (zw_Q (some (.int (zf_fm v)))) 0 0 (fun _ => False) := by
  refine va_MetF (cc := cJ9_floorMod_7cf53) (maxL := 3) (ret := (some .int)) (by decide +kernel) rfl ?_
  intro p e s m args below meth c s₁ B hml hv
  obtain rfl := hv
  have hx := B.exec
  have hb := B.bytes
  have hr := B.returns
  have hl := lv_entry ([.int v, .int 6]) (n := 3) (Nat.le_of_ble_eq_true rfl)
  rw [lg_entry_eq]
  generalize (lg_sl ([.int v, .int 6]) ++ List.replicate (3 - (lg_sl ([.int v, .int 6])).length) Slot.unset).toArray = ls at hl ⊢
  have hl : lv_has ls 3 [(0, .int v), (1, .int 6)] := hl
  refine lv_iload_n hx hb dJ9_floorMod_7cf53_0 rfl (lv_at hl 0 rfl) ?_
  refine lv_iload_n hx hb dJ9_floorMod_7cf53_1 rfl (lv_at hl 1 rfl) ?_
  refine lv_irem hx hb dJ9_floorMod_7cf53_2 (by decide) ?_
  refine lv_istore_n (lv' := [(2, .int (v - v / 6 * 6)), (0, .int v), (1, .int 6)]) hx hb dJ9_floorMod_7cf53_3 rfl hl (by decide) rfl (fun ls hl => ?_)
  refine lv_iload_n hx hb dJ9_floorMod_7cf53_4 rfl (lv_at hl 1 rfl) ?_
  refine lv_iload_n hx hb dJ9_floorMod_7cf53_5 rfl (lv_at hl 2 rfl) ?_
  refine lv_ixor hx hb dJ9_floorMod_7cf53_6 ?_
  refine lv_if_ge (tgt := 18) hx hb dJ9_floorMod_7cf53_7 (by decide) (fun c_7 => ?_) (fun c_7 => ?_)
  · refine lv_iload_n hx hb dJ9_floorMod_7cf53_18 rfl (lv_at hl 0 rfl) ?_
    refine zw_eqi (y := zf_fm v) (by rw [zf_fm, if_pos c_7]) ?_
    exact W.iret hx hb hr (fun t ht hW => ⟨rfl, ht⟩) (fun q h => by cases h) dJ9_floorMod_7cf53_19
  · refine lv_iload_n hx hb dJ9_floorMod_7cf53_10 rfl (lv_at hl 0 rfl) ?_
    refine lv_if_eq (tgt := 18) hx hb dJ9_floorMod_7cf53_11 (by decide) (fun c_11 => ?_) (fun c_11 => ?_)
    · refine lv_iload_n hx hb dJ9_floorMod_7cf53_18 rfl (lv_at hl 0 rfl) ?_
      refine zw_eqi (y := zf_fm v) (by rw [zf_fm, if_neg c_7, if_pos c_11]) ?_
      exact W.iret hx hb hr (fun t ht hW => ⟨rfl, ht⟩) (fun q h => by cases h) dJ9_floorMod_7cf53_19
    · refine lv_iload_n hx hb dJ9_floorMod_7cf53_14 rfl (lv_at hl 0 rfl) ?_
      refine lv_iload_n hx hb dJ9_floorMod_7cf53_15 rfl (lv_at hl 2 rfl) ?_
      refine lv_iadd hx hb dJ9_floorMod_7cf53_16 ?_
      refine zw_eqi (y := zf_fm v) (by rw [zf_fm, if_neg c_7, if_neg c_11]) ?_
      exact W.iret hx hb hr (fun t ht hW => ⟨rfl, ht⟩) (fun q h => by cases h) dJ9_floorMod_7cf53_17
