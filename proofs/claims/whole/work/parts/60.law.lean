/-! Own rows: what the law's cases need of the two objects -/
theorem zl_key {o : Nat} (ho : o < 6) (x y z : Int32) : ∃ k : Nat, (zf_nn x y z = true → zf_kt (nI (zk_px o)) (nI (zk_py o)) (nI (zk_pz o)) x y z = lN k ∧ k < 1152921504606846976) ∧ (zf_nn x y z = true → zf_ky o x y z = lN k ∧ k < 1152921504606846976) := by
  cases h : zf_nn x y z with
  | false => exact ⟨0, fun q => (by cases q), fun q => (by cases q)⟩
  | true =>
    unfold zf_nn at h
    rw [Bool.and_eq_true, Bool.and_eq_true] at h
    obtain ⟨a, ha, rfl⟩ := zf_n_of h.1
    obtain ⟨b, hb, rfl⟩ := zf_n_of h.2.1
    obtain ⟨d, hd, rfl⟩ := zf_n_of h.2.2
    exact ⟨zk_key o a b d, fun _ => ⟨zf_kt_nI ho ha hb hd, zk_key_lt ha hb hd⟩, fun _ => ⟨zf_ky_nI ho ha hb hd, zk_key_lt ha hb hd⟩⟩
theorem zl_pk (x y z : Int32) : ∃ k : Nat, (zf_nn x y z = true → zf_key x y z = lN k ∧ k < 1152921504606846976) ∧ (zf_nn x y z = true → zf_pk (Int32.toInt64 x) (Int32.toInt64 y) (Int32.toInt64 z) = lN k ∧ k < 1152921504606846976) := by
  cases h : zf_nn x y z with
  | false => exact ⟨0, fun q => (by cases q), fun q => (by cases q)⟩
  | true =>
    unfold zf_nn at h
    rw [Bool.and_eq_true, Bool.and_eq_true] at h
    obtain ⟨a, ha, rfl⟩ := zf_n_of h.1
    obtain ⟨b, hb, rfl⟩ := zf_n_of h.2.1
    obtain ⟨d, hd, rfl⟩ := zf_n_of h.2.2
    exact ⟨zk_K a b d, fun _ => ⟨zf_key_nI ha hb hd, zk_K_lt ha hb hd⟩, fun _ => ⟨zf_pk_nI ha hb hd, zk_K_lt ha hb hd⟩⟩
theorem zl_cur {oc : Option Nat} (h : ∀ z, oc = some z → z < 1152921504606846976) : ∃ k : Nat, (¬ zk_o oc = -1 → zk_o oc = lN k ∧ k < 1152921504606846976) ∧ (¬ zk_o oc = -1 → ∃ z, z < 1152921504606846976 ∧ zk_o oc = lN z) := by
  cases oc with
  | none => exact ⟨0, fun q => absurd rfl q, fun q => absurd rfl q⟩
  | some z => exact ⟨z, fun _ => ⟨rfl, h z rfl⟩, fun _ => ⟨z, h z rfl, rfl⟩⟩
theorem zl_at {ks : List Nat} {v : Int32} (h60 : ∀ k ∈ ks, k < 1152921504606846976) : ∀ z, zs_at ks v = some z → z < 1152921504606846976 := by
  intro z h
  unfold zs_at at h
  split at h
  · cases h
  · exact h60 z (List.mem_of_getElem? h)
theorem zl_cond {b : Bool} {x y : Option Nat} : cond b (zk_o x) (zk_o y) = zk_o (cond b x y) := by cases b <;> rfl
theorem zl_condlt {b : Bool} {x y : Option Nat} (hx : ∀ z, x = some z → z < 1152921504606846976) (hy : ∀ z, y = some z → z < 1152921504606846976) : ∀ z, cond b x y = some z → z < 1152921504606846976 := by
  cases b
  · exact hy
  · exact hx
theorem zl_len1 {ks : List Nat} {k t : Nat} {b d : Bool} (h : ks.length ≤ t) : (cond b (cond d ks (zk_ins ks k)) ks).length ≤ t + 1 := by
  have e := zk_ins_len ks k
  cases b <;> cases d <;> simp only [cond_true, cond_false] <;> omega
theorem zl_del_le {ks : List Nat} {a b : Nat} (h : a ≤ b) : (zk_del ks a b).length ≤ ks.length := by
  unfold zk_del
  rw [List.length_append, List.length_take, List.length_drop]
  omega
theorem zl_len2 {ks : List Nat} {a b t : Nat} {x y : Bool} (hab : a ≤ b) (h : ks.length ≤ t) : (cond x (cond y (zk_del ks a b) ks) ks).length ≤ t + 1 := by
  have e := zl_del_le (ks := ks) hab
  cases x <;> cases y <;> simp only [cond_true, cond_false] <;> omega
theorem zl_len3 {ks : List Nat} {t : Nat} {v a b d : Int32} (hs : ks.Pairwise (· < ·)) (h60 : ∀ k ∈ ks, k < 1152921504606846976) (h : ks.length ≤ t) : (cond (zs_bad v) ks (zk_del ks (zk_st ks v a b d) (zk_en ks v a b d))).length ≤ t + 1 := by
  cases hz : zs_bad v with
  | true => exact Nat.le_succ_of_le h
  | false =>
    have c1 : ¬ v < 0 := by intro q; simp [zs_bad, q] at hz
    have c6 : v ≤ 3 := by
      rcases Decidable.em (v ≤ 3) with q | q
      · exact q
      · exact absurd hz (by simp [zs_bad, q])
    obtain ⟨i, hi, ev⟩ := nI_of2 (x := v) (M := 3) (n := 3) (by decide) c1 c6
    have hse := zk_se hs h60 (i := i) (v := v) (a := a) (b := b) (d := d) hi ev
    exact Nat.le_succ_of_le (Nat.le_trans (zl_del_le hse.1) h)
abbrev zl_w (q0 : Nat) (u : zx_S) (r0 ma : Nat) (cB : ClassId) (g : Nat → Int64) (o : Nat) (ks : List Nat) (cur : Int64) : va_W := [(q0, .inr (0, [.int (nI (zk_px o)), .int (nI (zk_py o)), .int (nI (zk_pz o)), .ref u.1, .int (nI ks.length), .long cur])), (u.1, .inl (u.2.1, u.2.2.1, .inr (.inl u.2.2.2))), (r0, .inr (1, [.ref ma, .int (nI ks.length), .int (nI o), .long cur])), (ma, .inl (cB, 20000, .inr (.inl g)))]
/-- the law goes on behind a case, from its counter's step on -/
def zl_K (p : Program) (l : Launch) (e : Env) (s : State) (m : MethodId) (below : List Frame) (meth : Method) (c : Code) (dC : Nat → ClassId) (dI : Nat → Nat → Nat) (b q0 r0 ma : Nat) (cB : ClassId) (o t : Nat) (ls : Array Slot) : Prop := ∀ (ks : List Nat) (oc : Option Nat) (u : zx_S) (g : Nat → Int64) (H : Heap) (locs : List Loc), zk_G ks u.2.2.1 u.2.2.2 → zk_R ks g → (∀ z, oc = some z → z < 1152921504606846976) → ks.length ≤ t + 1 → va_K (dC, dI) vwCl [(u.2.1, .long), (cB, .long)] s → va_P (dC, dI) vwCl (zl_w q0 u r0 ma cB g o ks (zk_o oc)) H → va_D (fun q : Nat => s.heap.size ≤ q) (zl_w q0 u r0 ma cB g o ks (zk_o oc)) → va_S (fun q : Nat => s.heap.size ≤ q) s.heap H locs → W p l e room_1 s m #[Value.ref b] below meth c H locs (4 + (t + 1)) (20074 + 1024 * (t + 1)) (lw_Z below #[Value.ref b] s) (F0 m 574 ls [])
