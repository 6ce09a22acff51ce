abbrev zj_w (ha : Nat) (cA : ClassId) (n : Nat) (f : Nat → Int64) : va_W := [(ha, .inl (cA, n, .inr (.inl f)))]
abbrev zj_w2 (ha : Nat) (cA : ClassId) (n : Nat) (f : Nat → Int64) (M : Nat) (u : Nat × ClassId) : va_W := [(ha, .inl (cA, n, .inr (.inl f))), (u.1, .inl (u.2, M, .inr (.inl (va_cpy f (fun _ => 0) 0 0 n))))]
set_option maxHeartbeats 4000000 in
set_option maxRecDepth 100000 in
/-- copyOf(a, M) with M above a's length -/
theorem zj_copyOf (l : Launch) (dC : Nat → ClassId) (dI : Nat → Nat → Nat) (ha : Nat) (cA : ClassId) (n : Nat) (f : Nat → Int64) (M : Nat) (sz : Nat) (hnM : n < M) (hM : M ≤ 1024) : Met l yJ7_copyOf_c38d5 wsJ7_copyOf_c38d5 ({ frames := 1, cells := 1, slots := 1024, locals := 60 }) (zw_Pw [.ref ha, .int (nI M)] (dC, dI) vwCl (zj_w ha cA n f) [(cA, .long)] sz) (zw_Qw (S := Nat × ClassId) (fun u => some (.ref u.1)) (fun _ => True) (dC, dI) vwCl (zj_w2 ha cA n f M) (fun u => [(cA, .long), (u.2, .long)]) (va_A (zj_w ha cA n f) sz)) 1 1024 (va_A (zj_w ha cA n f) sz) := by
  refine va_MetF (cc := cJ7_copyOf_c38d5) (maxL := 3) (ret := (some (.array .long))) (by decide +kernel) rfl ?_
  intro p e s m args below meth c s₁ B hml hv
  obtain ⟨rfl, hsz, hP, hK, hD0⟩ := hv
  have hx := B.exec
  have hb := B.bytes
  have hr := B.returns
  have hts := atoms_spec (ws := wsJ7_copyOf_c38d5) B.pre
  have hown : s.vm.findClass RJ7 = some m.cls := findClass_of_methodNamed B.named
  subst hsz
  have hD := hD0.self (sz := s.heap.size)
  generalize hAe : va_A (zj_w ha cA n f) s.heap.size = A at hD ⊢
  have hA : ∀ q : Nat, s.heap.size ≤ q → A q := fun q h => by rw [← hAe]; exact Or.inr h
  have hS : va_S A s.heap s.heap [] := va_S.rf
  have hP : va_P (dC, dI) vwCl (zj_w ha cA n f) s.heap := hP
  have hl := lv_entry ([.ref ha, .int (nI M)]) (n := 3) (Nat.le_of_ble_eq_true rfl)
  rw [lg_entry_eq]
  generalize (lg_sl ([.ref ha, .int (nI M)]) ++ List.replicate (3 - (lg_sl ([.ref ha, .int (nI M)])).length) Slot.unset).toArray = ls at hl ⊢
  have hl : lv_has ls 3 [(0, .ref ha), (1, .int (nI M))] := hl
  refine lv_iload_n hx hb dJ7_copyOf_c38d5_0 rfl (lv_at hl 1 rfl) ?_
  refine lv_aload_n hx hb dJ7_copyOf_c38d5_1 rfl (lv_at hl 0 rfl) ?_
  refine va_alen (v := nI n) hx hb hK hP 0 0 rfl rfl rfl dJ7_copyOf_c38d5_2 ?_
  refine lv_icmp_ne (tgt := 14) hx hb dJ7_copyOf_c38d5_3 (by decide) (fun c_3 => ?_) (fun c_3 => absurd ((nI_eq (by omega) (by omega)).mp c_3) (by omega))
  refine lv_iload_n hx hb dJ7_copyOf_c38d5_14 rfl (lv_at hl 1 rfl) ?_
  have h1 : M * componentBytes FieldType.long ≤ 536870912 := by
    rw [show componentBytes FieldType.long = 8 from rfl]
    omega
  have h2 : 0 + M ≤ (headSpec wsJ7_copyOf_c38d5 ({ frames := 1, cells := 1, slots := 1024, locals := 60 })).room.slots := by
    rw [show (headSpec wsJ7_copyOf_c38d5 ({ frames := 1, cells := 1, slots := 1024, locals := 60 })).room.slots = 1024 from rfl]
    omega
  have h3 : ∀ cA : ClassId, vp_cell cA (M, .inr (.inl (fun _ => (0 : Int64)))) = arrV cA M (fun _ => defaultValue FieldType.long) := fun cA => vp_cell_l cA M (fun _ => 0)
  refine va_newa (atype := .long) (n := nI M) (a0 := (M, .inr (.inl (fun _ => 0)))) (N' := M) (ty := .long) hx hb (hts (.arrayClass .long) (by decide +kernel)) rfl hK hP hD hS hA h3 (nI_pos (by omega)) (nI_clamp (by omega)) h1 (Nat.le_of_ble_eq_true rfl) h2 dJ7_copyOf_c38d5_15 (fun q cB H hK hP hD hS => ?_)
  have hP : va_P (dC, dI) vwCl [(ha, .inl (cA, n, .inr (.inl f))), (q, .inl (cB, M, .inr (.inl (fun _ => 0))))] H := hP
  have hD : va_D A [(ha, .inl (cA, n, .inr (.inl f))), (q, .inl (cB, M, .inr (.inl (fun _ => 0))))] := hD
  have hK : va_K (dC, dI) vwCl [(cA, .long), (cB, .long)] s := hK
  refine lv_astore_n (lv' := [(2, .ref q), (0, .ref ha), (1, .int (nI M))]) hx hb dJ7_copyOf_c38d5_17 rfl hl (by decide) rfl (fun ls hl => ?_)
  refine lv_aload_n hx hb dJ7_copyOf_c38d5_18 rfl (lv_at hl 1 rfl) ?_
  refine lv_iconst (v := 0) hx hb dJ7_copyOf_c38d5_19 (by decide) ?_
  refine lv_aload_n hx hb dJ7_copyOf_c38d5_20 rfl (lv_at hl 0 rfl) ?_
  refine lv_iconst (v := 0) hx hb dJ7_copyOf_c38d5_21 (by decide) ?_
  refine lv_aload_n hx hb dJ7_copyOf_c38d5_22 rfl (lv_at hl 1 rfl) ?_
  refine va_alen (v := nI n) hx hb hK hP 0 0 rfl rfl rfl dJ7_copyOf_c38d5_23 ?_
  refine lv_iload_n hx hb dJ7_copyOf_c38d5_24 rfl (lv_at hl 2 rfl) ?_
  refine W.widen (k := 1) (n := 1024) (Nat.le_refl 1) (by omega) ?_
  refine va_mmin hx hb (hml.trans hl.1.symm) hown (hts (.methodLink RJ7 304 Lib.Math.min.name) (by decide +kernel)) (hts (.static Lib.Math.min.name) (by decide +kernel)) (hts (.initialized "java/lang/Math") (by decide +kernel)) (hts _ (List.mem_of_getElem? (i := 11) rfl)) (Nat.le_of_ble_eq_true rfl) (Nat.le_of_ble_eq_true rfl) (Nat.le_of_ble_eq_true rfl) (Nat.le_of_ble_eq_true rfl) dJ7_copyOf_c38d5_25 ?_
  refine zw_eqi (y := nI n) (if_neg (nI_nlt (by omega) (by omega))) ?_
  refine va_copyl (ty := .long) hx hb (hml.trans hl.1.symm) hown (hts (.methodLink RJ7 150 arraycopyName) (by decide +kernel)) (hts (.native arraycopyName) (by decide +kernel)) (hts (.static arraycopyName) (by decide +kernel)) (hts (.initialized "java/lang/System") (by decide +kernel)) hK hP hD hS 0 1 0 1 rfl rfl rfl rfl rfl (by decide) (by decide) (nI_pos (by omega)) (by rw [nI_clamp (n := n) (by omega), sb_cl0]; omega) (by rw [nI_clamp (n := n) (by omega), sb_cl0]; omega) (fun _ _ => rfl) (Nat.le_of_ble_eq_true rfl) (Nat.le_of_ble_eq_true rfl) dJ7_copyOf_c38d5_28 (fun H locs hP hD hS => ?_)
  rw [nI_clamp (n := n) (by omega), sb_cl0] at hP hD
  have hP : va_P (dC, dI) vwCl (zj_w2 ha cA n f M (q, cB)) H := hP
  have hD : va_D A (zj_w2 ha cA n f M (q, cB)) := hD
  refine lv_aload_n hx hb dJ7_copyOf_c38d5_31 rfl (lv_at hl 0 rfl) ?_
  exact W.aret hx hb hr (Or.inr ⟨_, rfl⟩) (Or.inr ⟨_, rfl⟩) (fun t ht hW => ⟨⟨(q, cB), rfl, trivial, by rw [ht]; exact hP, va_K.moved hW.alike hK, hD⟩, hS.F ht⟩) hS.2.2 dJ7_copyOf_c38d5_32
